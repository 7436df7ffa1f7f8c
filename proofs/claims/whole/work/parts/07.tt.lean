theorem T_at {y pc n : Nat} {ins : Instr} {c : List (Nat × Instr × Nat)} {L : Lo} {S : List Value} {M : Mm} {Q : Option Value → Mm → Prop} (hc : z_coL.getD y [] = c) (h : z_lk pc c = some (ins, n)) : TT y pc L S M Q = TR (z_st ins n pc L S M) y (pc + n) M Q := T_eq (by rw [z_cd, hc]; exact h)
section
variable (L : Lo) (S : List Value) (M : Mm) (Q : Option Value → Mm → Prop)
theorem zk0 : z_coL.getD 0 [] = zc0 := rfl
theorem zT0_0 : TT 0 0 L S M Q = TR (z_st (.new 0) 3 0 L S M) 0 3 M Q := T_at zk0 rfl
theorem zT0_3 : TT 0 3 L S M Q = TR (z_st (.dup) 1 3 L S M) 0 4 M Q := T_at zk0 rfl
theorem zT0_4 : TT 0 4 L S M Q = TR (z_st (.invokespecial 83) 3 4 L S M) 0 7 M Q := T_at zk0 rfl
theorem zT0_7 : TT 0 7 L S M Q = TR (z_st (.astore 1) 1 7 L S M) 0 8 M Q := T_at zk0 rfl
theorem zT0_8 : TT 0 8 L S M Q = TR (z_st (.new 10) 3 8 L S M) 0 11 M Q := T_at zk0 rfl
theorem zT0_11 : TT 0 11 L S M Q = TR (z_st (.dup) 1 11 L S M) 0 12 M Q := T_at zk0 rfl
theorem zT0_12 : TT 0 12 L S M Q = TR (z_st (.invokespecial 1) 3 12 L S M) 0 15 M Q := T_at zk0 rfl
theorem zT0_15 : TT 0 15 L S M Q = TR (z_st (.astore 2) 1 15 L S M) 0 16 M Q := T_at zk0 rfl
theorem zT0_16 : TT 0 16 L S M Q = TR (z_st (.iconst 0) 1 16 L S M) 0 17 M Q := T_at zk0 rfl
theorem zT0_17 : TT 0 17 L S M Q = TR (z_st (.istore 3) 1 17 L S M) 0 18 M Q := T_at zk0 rfl
theorem zT0_18 : TT 0 18 L S M Q = TR (z_st (.iload 3) 1 18 L S M) 0 19 M Q := T_at zk0 rfl
theorem zT0_19 : TT 0 19 L S M Q = TR (z_st (.aload 0) 1 19 L S M) 0 20 M Q := T_at zk0 rfl
theorem zT0_20 : TT 0 20 L S M Q = TR (z_st (.arraylength) 1 20 L S M) 0 21 M Q := T_at zk0 rfl
theorem zT0_21 : TT 0 21 L S M Q = TR (z_st (.iconst 6) 2 21 L S M) 0 23 M Q := T_at zk0 rfl
theorem zT0_23 : TT 0 23 L S M Q = TR (z_st (.isub) 1 23 L S M) 0 24 M Q := T_at zk0 rfl
theorem zT0_24 : TT 0 24 L S M Q = TR (z_st (.if_icmp .gt 958) 3 24 L S M) 0 27 M Q := T_at zk0 rfl
theorem zT0_27 : TT 0 27 L S M Q = TR (z_st (.aload 0) 1 27 L S M) 0 28 M Q := T_at zk0 rfl
theorem zT0_28 : TT 0 28 L S M Q = TR (z_st (.iload 3) 1 28 L S M) 0 29 M Q := T_at zk0 rfl
theorem zT0_29 : TT 0 29 L S M Q = TR (z_st (.iaload) 1 29 L S M) 0 30 M Q := T_at zk0 rfl
theorem zT0_30 : TT 0 30 L S M Q = TR (z_st (.iconst 31) 2 30 L S M) 0 32 M Q := T_at zk0 rfl
theorem zT0_32 : TT 0 32 L S M Q = TR (z_st (.iand) 1 32 L S M) 0 33 M Q := T_at zk0 rfl
theorem zT0_33 : TT 0 33 L S M Q = TR (z_st (.tableswitch 952 0 30 #[172, 205, 218, 281, 304, 343, 376, 439, 452, 465, 478, 501, 534, 557, 580, 593, 606, 629, 652, 685, 708, 721, 744, 757, 790, 813, 846, 869, 892, 915, 938]) 139 33 L S M) 0 172 M Q := T_at zk0 rfl
theorem zT0_172 : TT 0 172 L S M Q = TR (z_st (.aload 1) 1 172 L S M) 0 173 M Q := T_at zk0 rfl
theorem zT0_173 : TT 0 173 L S M Q = TR (z_st (.aload 0) 1 173 L S M) 0 174 M Q := T_at zk0 rfl
theorem zT0_174 : TT 0 174 L S M Q = TR (z_st (.iload 3) 1 174 L S M) 0 175 M Q := T_at zk0 rfl
theorem zT0_175 : TT 0 175 L S M Q = TR (z_st (.iconst 1) 1 175 L S M) 0 176 M Q := T_at zk0 rfl
theorem zT0_176 : TT 0 176 L S M Q = TR (z_st (.iadd) 1 176 L S M) 0 177 M Q := T_at zk0 rfl
theorem zT0_177 : TT 0 177 L S M Q = TR (z_st (.iaload) 1 177 L S M) 0 178 M Q := T_at zk0 rfl
theorem zT0_178 : TT 0 178 L S M Q = TR (z_st (.aload 0) 1 178 L S M) 0 179 M Q := T_at zk0 rfl
theorem zT0_179 : TT 0 179 L S M Q = TR (z_st (.iload 3) 1 179 L S M) 0 180 M Q := T_at zk0 rfl
theorem zT0_180 : TT 0 180 L S M Q = TR (z_st (.iconst 2) 1 180 L S M) 0 181 M Q := T_at zk0 rfl
theorem zT0_181 : TT 0 181 L S M Q = TR (z_st (.iadd) 1 181 L S M) 0 182 M Q := T_at zk0 rfl
theorem zT0_182 : TT 0 182 L S M Q = TR (z_st (.iaload) 1 182 L S M) 0 183 M Q := T_at zk0 rfl
theorem zT0_183 : TT 0 183 L S M Q = TR (z_st (.invokevirtual 84) 3 183 L S M) 0 186 M Q := T_at zk0 rfl
theorem zT0_186 : TT 0 186 L S M Q = TR (z_st (.aload 2) 1 186 L S M) 0 187 M Q := T_at zk0 rfl
theorem zT0_187 : TT 0 187 L S M Q = TR (z_st (.aload 0) 1 187 L S M) 0 188 M Q := T_at zk0 rfl
theorem zT0_188 : TT 0 188 L S M Q = TR (z_st (.iload 3) 1 188 L S M) 0 189 M Q := T_at zk0 rfl
theorem zT0_189 : TT 0 189 L S M Q = TR (z_st (.iconst 1) 1 189 L S M) 0 190 M Q := T_at zk0 rfl
theorem zT0_190 : TT 0 190 L S M Q = TR (z_st (.iadd) 1 190 L S M) 0 191 M Q := T_at zk0 rfl
theorem zT0_191 : TT 0 191 L S M Q = TR (z_st (.iaload) 1 191 L S M) 0 192 M Q := T_at zk0 rfl
theorem zT0_192 : TT 0 192 L S M Q = TR (z_st (.aload 0) 1 192 L S M) 0 193 M Q := T_at zk0 rfl
theorem zT0_193 : TT 0 193 L S M Q = TR (z_st (.iload 3) 1 193 L S M) 0 194 M Q := T_at zk0 rfl
theorem zT0_194 : TT 0 194 L S M Q = TR (z_st (.iconst 2) 1 194 L S M) 0 195 M Q := T_at zk0 rfl
theorem zT0_195 : TT 0 195 L S M Q = TR (z_st (.iadd) 1 195 L S M) 0 196 M Q := T_at zk0 rfl
theorem zT0_196 : TT 0 196 L S M Q = TR (z_st (.iaload) 1 196 L S M) 0 197 M Q := T_at zk0 rfl
theorem zT0_197 : TT 0 197 L S M Q = TR (z_st (.invokevirtual 16) 3 197 L S M) 0 200 M Q := T_at zk0 rfl
theorem zT0_200 : TT 0 200 L S M Q = TR (z_st (.if_icmp .eq 952) 3 200 L S M) 0 203 M Q := T_at zk0 rfl
theorem zT0_203 : TT 0 203 L S M Q = TR (z_st (.iconst 0) 1 203 L S M) 0 204 M Q := T_at zk0 rfl
theorem zT0_204 : TT 0 204 L S M Q = TR (z_st (.ret 1) 1 204 L S M) 0 205 M Q := T_at zk0 rfl
theorem zT0_205 : TT 0 205 L S M Q = TR (z_st (.aload 1) 1 205 L S M) 0 206 M Q := T_at zk0 rfl
theorem zT0_206 : TT 0 206 L S M Q = TR (z_st (.invokevirtual 85) 3 206 L S M) 0 209 M Q := T_at zk0 rfl
theorem zT0_209 : TT 0 209 L S M Q = TR (z_st (.aload 2) 1 209 L S M) 0 210 M Q := T_at zk0 rfl
theorem zT0_210 : TT 0 210 L S M Q = TR (z_st (.invokevirtual 17) 3 210 L S M) 0 213 M Q := T_at zk0 rfl
theorem zT0_213 : TT 0 213 L S M Q = TR (z_st (.if_icmp .eq 952) 3 213 L S M) 0 216 M Q := T_at zk0 rfl
theorem zT0_216 : TT 0 216 L S M Q = TR (z_st (.iconst 0) 1 216 L S M) 0 217 M Q := T_at zk0 rfl
theorem zT0_217 : TT 0 217 L S M Q = TR (z_st (.ret 1) 1 217 L S M) 0 218 M Q := T_at zk0 rfl
theorem zT0_218 : TT 0 218 L S M Q = TR (z_st (.aload 1) 1 218 L S M) 0 219 M Q := T_at zk0 rfl
theorem zT0_219 : TT 0 219 L S M Q = TR (z_st (.aload 0) 1 219 L S M) 0 220 M Q := T_at zk0 rfl
theorem zT0_220 : TT 0 220 L S M Q = TR (z_st (.iload 3) 1 220 L S M) 0 221 M Q := T_at zk0 rfl
theorem zT0_221 : TT 0 221 L S M Q = TR (z_st (.iconst 1) 1 221 L S M) 0 222 M Q := T_at zk0 rfl
theorem zT0_222 : TT 0 222 L S M Q = TR (z_st (.iadd) 1 222 L S M) 0 223 M Q := T_at zk0 rfl
theorem zT0_223 : TT 0 223 L S M Q = TR (z_st (.iaload) 1 223 L S M) 0 224 M Q := T_at zk0 rfl
theorem zT0_224 : TT 0 224 L S M Q = TR (z_st (.aload 0) 1 224 L S M) 0 225 M Q := T_at zk0 rfl
theorem zT0_225 : TT 0 225 L S M Q = TR (z_st (.iload 3) 1 225 L S M) 0 226 M Q := T_at zk0 rfl
theorem zT0_226 : TT 0 226 L S M Q = TR (z_st (.iconst 2) 1 226 L S M) 0 227 M Q := T_at zk0 rfl
theorem zT0_227 : TT 0 227 L S M Q = TR (z_st (.iadd) 1 227 L S M) 0 228 M Q := T_at zk0 rfl
theorem zT0_228 : TT 0 228 L S M Q = TR (z_st (.iaload) 1 228 L S M) 0 229 M Q := T_at zk0 rfl
theorem zT0_229 : TT 0 229 L S M Q = TR (z_st (.aload 0) 1 229 L S M) 0 230 M Q := T_at zk0 rfl
theorem zT0_230 : TT 0 230 L S M Q = TR (z_st (.iload 3) 1 230 L S M) 0 231 M Q := T_at zk0 rfl
theorem zT0_231 : TT 0 231 L S M Q = TR (z_st (.iconst 3) 1 231 L S M) 0 232 M Q := T_at zk0 rfl
theorem zT0_232 : TT 0 232 L S M Q = TR (z_st (.iadd) 1 232 L S M) 0 233 M Q := T_at zk0 rfl
theorem zT0_233 : TT 0 233 L S M Q = TR (z_st (.iaload) 1 233 L S M) 0 234 M Q := T_at zk0 rfl
theorem zT0_234 : TT 0 234 L S M Q = TR (z_st (.aload 0) 1 234 L S M) 0 235 M Q := T_at zk0 rfl
theorem zT0_235 : TT 0 235 L S M Q = TR (z_st (.iload 3) 1 235 L S M) 0 236 M Q := T_at zk0 rfl
theorem zT0_236 : TT 0 236 L S M Q = TR (z_st (.iconst 4) 1 236 L S M) 0 237 M Q := T_at zk0 rfl
theorem zT0_237 : TT 0 237 L S M Q = TR (z_st (.iadd) 1 237 L S M) 0 238 M Q := T_at zk0 rfl
theorem zT0_238 : TT 0 238 L S M Q = TR (z_st (.iaload) 1 238 L S M) 0 239 M Q := T_at zk0 rfl
theorem zT0_239 : TT 0 239 L S M Q = TR (z_st (.aload 0) 1 239 L S M) 0 240 M Q := T_at zk0 rfl
theorem zT0_240 : TT 0 240 L S M Q = TR (z_st (.iload 3) 1 240 L S M) 0 241 M Q := T_at zk0 rfl
theorem zT0_241 : TT 0 241 L S M Q = TR (z_st (.iconst 5) 1 241 L S M) 0 242 M Q := T_at zk0 rfl
theorem zT0_242 : TT 0 242 L S M Q = TR (z_st (.iadd) 1 242 L S M) 0 243 M Q := T_at zk0 rfl
theorem zT0_243 : TT 0 243 L S M Q = TR (z_st (.iaload) 1 243 L S M) 0 244 M Q := T_at zk0 rfl
theorem zT0_244 : TT 0 244 L S M Q = TR (z_st (.invokevirtual 86) 3 244 L S M) 0 247 M Q := T_at zk0 rfl
theorem zT0_247 : TT 0 247 L S M Q = TR (z_st (.aload 2) 1 247 L S M) 0 248 M Q := T_at zk0 rfl
theorem zT0_248 : TT 0 248 L S M Q = TR (z_st (.aload 0) 1 248 L S M) 0 249 M Q := T_at zk0 rfl
theorem zT0_249 : TT 0 249 L S M Q = TR (z_st (.iload 3) 1 249 L S M) 0 250 M Q := T_at zk0 rfl
theorem zT0_250 : TT 0 250 L S M Q = TR (z_st (.iconst 1) 1 250 L S M) 0 251 M Q := T_at zk0 rfl
theorem zT0_251 : TT 0 251 L S M Q = TR (z_st (.iadd) 1 251 L S M) 0 252 M Q := T_at zk0 rfl
theorem zT0_252 : TT 0 252 L S M Q = TR (z_st (.iaload) 1 252 L S M) 0 253 M Q := T_at zk0 rfl
theorem zT0_253 : TT 0 253 L S M Q = TR (z_st (.aload 0) 1 253 L S M) 0 254 M Q := T_at zk0 rfl
theorem zT0_254 : TT 0 254 L S M Q = TR (z_st (.iload 3) 1 254 L S M) 0 255 M Q := T_at zk0 rfl
set_option maxRecDepth 100000 in
theorem zT0_255 : TT 0 255 L S M Q = TR (z_st (.iconst 2) 1 255 L S M) 0 256 M Q := T_at zk0 rfl
set_option maxRecDepth 100000 in
theorem zT0_256 : TT 0 256 L S M Q = TR (z_st (.iadd) 1 256 L S M) 0 257 M Q := T_at zk0 rfl
set_option maxRecDepth 100000 in
theorem zT0_257 : TT 0 257 L S M Q = TR (z_st (.iaload) 1 257 L S M) 0 258 M Q := T_at zk0 rfl
set_option maxRecDepth 100000 in
theorem zT0_258 : TT 0 258 L S M Q = TR (z_st (.aload 0) 1 258 L S M) 0 259 M Q := T_at zk0 rfl
set_option maxRecDepth 100000 in
theorem zT0_259 : TT 0 259 L S M Q = TR (z_st (.iload 3) 1 259 L S M) 0 260 M Q := T_at zk0 rfl
set_option maxRecDepth 100000 in
theorem zT0_260 : TT 0 260 L S M Q = TR (z_st (.iconst 3) 1 260 L S M) 0 261 M Q := T_at zk0 rfl
set_option maxRecDepth 100000 in
theorem zT0_261 : TT 0 261 L S M Q = TR (z_st (.iadd) 1 261 L S M) 0 262 M Q := T_at zk0 rfl
set_option maxRecDepth 100000 in
theorem zT0_262 : TT 0 262 L S M Q = TR (z_st (.iaload) 1 262 L S M) 0 263 M Q := T_at zk0 rfl
set_option maxRecDepth 100000 in
theorem zT0_263 : TT 0 263 L S M Q = TR (z_st (.aload 0) 1 263 L S M) 0 264 M Q := T_at zk0 rfl
set_option maxRecDepth 100000 in
theorem zT0_264 : TT 0 264 L S M Q = TR (z_st (.iload 3) 1 264 L S M) 0 265 M Q := T_at zk0 rfl
set_option maxRecDepth 100000 in
theorem zT0_265 : TT 0 265 L S M Q = TR (z_st (.iconst 4) 1 265 L S M) 0 266 M Q := T_at zk0 rfl
set_option maxRecDepth 100000 in
theorem zT0_266 : TT 0 266 L S M Q = TR (z_st (.iadd) 1 266 L S M) 0 267 M Q := T_at zk0 rfl
set_option maxRecDepth 100000 in
theorem zT0_267 : TT 0 267 L S M Q = TR (z_st (.iaload) 1 267 L S M) 0 268 M Q := T_at zk0 rfl
set_option maxRecDepth 100000 in
theorem zT0_268 : TT 0 268 L S M Q = TR (z_st (.aload 0) 1 268 L S M) 0 269 M Q := T_at zk0 rfl
set_option maxRecDepth 100000 in
theorem zT0_269 : TT 0 269 L S M Q = TR (z_st (.iload 3) 1 269 L S M) 0 270 M Q := T_at zk0 rfl
set_option maxRecDepth 100000 in
theorem zT0_270 : TT 0 270 L S M Q = TR (z_st (.iconst 5) 1 270 L S M) 0 271 M Q := T_at zk0 rfl
set_option maxRecDepth 100000 in
theorem zT0_271 : TT 0 271 L S M Q = TR (z_st (.iadd) 1 271 L S M) 0 272 M Q := T_at zk0 rfl
set_option maxRecDepth 100000 in
theorem zT0_272 : TT 0 272 L S M Q = TR (z_st (.iaload) 1 272 L S M) 0 273 M Q := T_at zk0 rfl
set_option maxRecDepth 100000 in
theorem zT0_273 : TT 0 273 L S M Q = TR (z_st (.invokevirtual 18) 3 273 L S M) 0 276 M Q := T_at zk0 rfl
set_option maxRecDepth 100000 in
theorem zT0_276 : TT 0 276 L S M Q = TR (z_st (.if_icmp .eq 952) 3 276 L S M) 0 279 M Q := T_at zk0 rfl
set_option maxRecDepth 100000 in
theorem zT0_279 : TT 0 279 L S M Q = TR (z_st (.iconst 0) 1 279 L S M) 0 280 M Q := T_at zk0 rfl
set_option maxRecDepth 100000 in
theorem zT0_280 : TT 0 280 L S M Q = TR (z_st (.ret 1) 1 280 L S M) 0 281 M Q := T_at zk0 rfl
set_option maxRecDepth 100000 in
theorem zT0_281 : TT 0 281 L S M Q = TR (z_st (.aload 1) 1 281 L S M) 0 282 M Q := T_at zk0 rfl
set_option maxRecDepth 100000 in
theorem zT0_282 : TT 0 282 L S M Q = TR (z_st (.aload 0) 1 282 L S M) 0 283 M Q := T_at zk0 rfl
set_option maxRecDepth 100000 in
theorem zT0_283 : TT 0 283 L S M Q = TR (z_st (.iload 3) 1 283 L S M) 0 284 M Q := T_at zk0 rfl
set_option maxRecDepth 100000 in
theorem zT0_284 : TT 0 284 L S M Q = TR (z_st (.iconst 1) 1 284 L S M) 0 285 M Q := T_at zk0 rfl
set_option maxRecDepth 100000 in
theorem zT0_285 : TT 0 285 L S M Q = TR (z_st (.iadd) 1 285 L S M) 0 286 M Q := T_at zk0 rfl
set_option maxRecDepth 100000 in
theorem zT0_286 : TT 0 286 L S M Q = TR (z_st (.iaload) 1 286 L S M) 0 287 M Q := T_at zk0 rfl
set_option maxRecDepth 100000 in
theorem zT0_287 : TT 0 287 L S M Q = TR (z_st (.invokevirtual 87) 3 287 L S M) 0 290 M Q := T_at zk0 rfl
set_option maxRecDepth 100000 in
theorem zT0_290 : TT 0 290 L S M Q = TR (z_st (.aload 2) 1 290 L S M) 0 291 M Q := T_at zk0 rfl
set_option maxRecDepth 100000 in
theorem zT0_291 : TT 0 291 L S M Q = TR (z_st (.aload 0) 1 291 L S M) 0 292 M Q := T_at zk0 rfl
set_option maxRecDepth 100000 in
theorem zT0_292 : TT 0 292 L S M Q = TR (z_st (.iload 3) 1 292 L S M) 0 293 M Q := T_at zk0 rfl
set_option maxRecDepth 100000 in
theorem zT0_293 : TT 0 293 L S M Q = TR (z_st (.iconst 1) 1 293 L S M) 0 294 M Q := T_at zk0 rfl
set_option maxRecDepth 100000 in
theorem zT0_294 : TT 0 294 L S M Q = TR (z_st (.iadd) 1 294 L S M) 0 295 M Q := T_at zk0 rfl
set_option maxRecDepth 100000 in
theorem zT0_295 : TT 0 295 L S M Q = TR (z_st (.iaload) 1 295 L S M) 0 296 M Q := T_at zk0 rfl
set_option maxRecDepth 100000 in
theorem zT0_296 : TT 0 296 L S M Q = TR (z_st (.invokevirtual 19) 3 296 L S M) 0 299 M Q := T_at zk0 rfl
set_option maxRecDepth 100000 in
theorem zT0_299 : TT 0 299 L S M Q = TR (z_st (.if_icmp .eq 952) 3 299 L S M) 0 302 M Q := T_at zk0 rfl
set_option maxRecDepth 100000 in
theorem zT0_302 : TT 0 302 L S M Q = TR (z_st (.iconst 0) 1 302 L S M) 0 303 M Q := T_at zk0 rfl
set_option maxRecDepth 100000 in
theorem zT0_303 : TT 0 303 L S M Q = TR (z_st (.ret 1) 1 303 L S M) 0 304 M Q := T_at zk0 rfl
set_option maxRecDepth 100000 in
theorem zT0_304 : TT 0 304 L S M Q = TR (z_st (.aload 1) 1 304 L S M) 0 305 M Q := T_at zk0 rfl
set_option maxRecDepth 100000 in
theorem zT0_305 : TT 0 305 L S M Q = TR (z_st (.aload 0) 1 305 L S M) 0 306 M Q := T_at zk0 rfl
set_option maxRecDepth 100000 in
theorem zT0_306 : TT 0 306 L S M Q = TR (z_st (.iload 3) 1 306 L S M) 0 307 M Q := T_at zk0 rfl
set_option maxRecDepth 100000 in
theorem zT0_307 : TT 0 307 L S M Q = TR (z_st (.iconst 1) 1 307 L S M) 0 308 M Q := T_at zk0 rfl
set_option maxRecDepth 100000 in
theorem zT0_308 : TT 0 308 L S M Q = TR (z_st (.iadd) 1 308 L S M) 0 309 M Q := T_at zk0 rfl
set_option maxRecDepth 100000 in
theorem zT0_309 : TT 0 309 L S M Q = TR (z_st (.iaload) 1 309 L S M) 0 310 M Q := T_at zk0 rfl
set_option maxRecDepth 100000 in
theorem zT0_310 : TT 0 310 L S M Q = TR (z_st (.ifCond .eq 317) 3 310 L S M) 0 313 M Q := T_at zk0 rfl
set_option maxRecDepth 100000 in
theorem zT0_313 : TT 0 313 L S M Q = TR (z_st (.iconst 1) 1 313 L S M) 0 314 M Q := T_at zk0 rfl
set_option maxRecDepth 100000 in
theorem zT0_314 : TT 0 314 L S M Q = TR (z_st (.goto 318) 3 314 L S M) 0 317 M Q := T_at zk0 rfl
set_option maxRecDepth 100000 in
theorem zT0_317 : TT 0 317 L S M Q = TR (z_st (.iconst 0) 1 317 L S M) 0 318 M Q := T_at zk0 rfl
set_option maxRecDepth 100000 in
theorem zT0_318 : TT 0 318 L S M Q = TR (z_st (.invokevirtual 88) 3 318 L S M) 0 321 M Q := T_at zk0 rfl
set_option maxRecDepth 100000 in
theorem zT0_321 : TT 0 321 L S M Q = TR (z_st (.aload 2) 1 321 L S M) 0 322 M Q := T_at zk0 rfl
set_option maxRecDepth 100000 in
theorem zT0_322 : TT 0 322 L S M Q = TR (z_st (.aload 0) 1 322 L S M) 0 323 M Q := T_at zk0 rfl
set_option maxRecDepth 100000 in
theorem zT0_323 : TT 0 323 L S M Q = TR (z_st (.iload 3) 1 323 L S M) 0 324 M Q := T_at zk0 rfl
set_option maxRecDepth 100000 in
theorem zT0_324 : TT 0 324 L S M Q = TR (z_st (.iconst 1) 1 324 L S M) 0 325 M Q := T_at zk0 rfl
set_option maxRecDepth 100000 in
theorem zT0_325 : TT 0 325 L S M Q = TR (z_st (.iadd) 1 325 L S M) 0 326 M Q := T_at zk0 rfl
set_option maxRecDepth 100000 in
theorem zT0_326 : TT 0 326 L S M Q = TR (z_st (.iaload) 1 326 L S M) 0 327 M Q := T_at zk0 rfl
set_option maxRecDepth 100000 in
theorem zT0_327 : TT 0 327 L S M Q = TR (z_st (.ifCond .eq 334) 3 327 L S M) 0 330 M Q := T_at zk0 rfl
set_option maxRecDepth 100000 in
theorem zT0_330 : TT 0 330 L S M Q = TR (z_st (.iconst 1) 1 330 L S M) 0 331 M Q := T_at zk0 rfl
set_option maxRecDepth 100000 in
theorem zT0_331 : TT 0 331 L S M Q = TR (z_st (.goto 335) 3 331 L S M) 0 334 M Q := T_at zk0 rfl
set_option maxRecDepth 100000 in
theorem zT0_334 : TT 0 334 L S M Q = TR (z_st (.iconst 0) 1 334 L S M) 0 335 M Q := T_at zk0 rfl
set_option maxRecDepth 100000 in
theorem zT0_335 : TT 0 335 L S M Q = TR (z_st (.invokevirtual 20) 3 335 L S M) 0 338 M Q := T_at zk0 rfl
set_option maxRecDepth 100000 in
theorem zT0_338 : TT 0 338 L S M Q = TR (z_st (.if_icmp .eq 952) 3 338 L S M) 0 341 M Q := T_at zk0 rfl
set_option maxRecDepth 100000 in
theorem zT0_341 : TT 0 341 L S M Q = TR (z_st (.iconst 0) 1 341 L S M) 0 342 M Q := T_at zk0 rfl
set_option maxRecDepth 100000 in
theorem zT0_342 : TT 0 342 L S M Q = TR (z_st (.ret 1) 1 342 L S M) 0 343 M Q := T_at zk0 rfl
set_option maxRecDepth 100000 in
theorem zT0_343 : TT 0 343 L S M Q = TR (z_st (.aload 1) 1 343 L S M) 0 344 M Q := T_at zk0 rfl
set_option maxRecDepth 100000 in
theorem zT0_344 : TT 0 344 L S M Q = TR (z_st (.aload 0) 1 344 L S M) 0 345 M Q := T_at zk0 rfl
set_option maxRecDepth 100000 in
theorem zT0_345 : TT 0 345 L S M Q = TR (z_st (.iload 3) 1 345 L S M) 0 346 M Q := T_at zk0 rfl
set_option maxRecDepth 100000 in
theorem zT0_346 : TT 0 346 L S M Q = TR (z_st (.iconst 1) 1 346 L S M) 0 347 M Q := T_at zk0 rfl
set_option maxRecDepth 100000 in
theorem zT0_347 : TT 0 347 L S M Q = TR (z_st (.iadd) 1 347 L S M) 0 348 M Q := T_at zk0 rfl
set_option maxRecDepth 100000 in
theorem zT0_348 : TT 0 348 L S M Q = TR (z_st (.iaload) 1 348 L S M) 0 349 M Q := T_at zk0 rfl
set_option maxRecDepth 100000 in
theorem zT0_349 : TT 0 349 L S M Q = TR (z_st (.aload 0) 1 349 L S M) 0 350 M Q := T_at zk0 rfl
set_option maxRecDepth 100000 in
theorem zT0_350 : TT 0 350 L S M Q = TR (z_st (.iload 3) 1 350 L S M) 0 351 M Q := T_at zk0 rfl
set_option maxRecDepth 100000 in
theorem zT0_351 : TT 0 351 L S M Q = TR (z_st (.iconst 2) 1 351 L S M) 0 352 M Q := T_at zk0 rfl
set_option maxRecDepth 100000 in
theorem zT0_352 : TT 0 352 L S M Q = TR (z_st (.iadd) 1 352 L S M) 0 353 M Q := T_at zk0 rfl
set_option maxRecDepth 100000 in
theorem zT0_353 : TT 0 353 L S M Q = TR (z_st (.iaload) 1 353 L S M) 0 354 M Q := T_at zk0 rfl
set_option maxRecDepth 100000 in
theorem zT0_354 : TT 0 354 L S M Q = TR (z_st (.invokevirtual 89) 3 354 L S M) 0 357 M Q := T_at zk0 rfl
set_option maxRecDepth 100000 in
theorem zT0_357 : TT 0 357 L S M Q = TR (z_st (.aload 2) 1 357 L S M) 0 358 M Q := T_at zk0 rfl
set_option maxRecDepth 100000 in
theorem zT0_358 : TT 0 358 L S M Q = TR (z_st (.aload 0) 1 358 L S M) 0 359 M Q := T_at zk0 rfl
set_option maxRecDepth 100000 in
theorem zT0_359 : TT 0 359 L S M Q = TR (z_st (.iload 3) 1 359 L S M) 0 360 M Q := T_at zk0 rfl
set_option maxRecDepth 100000 in
theorem zT0_360 : TT 0 360 L S M Q = TR (z_st (.iconst 1) 1 360 L S M) 0 361 M Q := T_at zk0 rfl
set_option maxRecDepth 100000 in
theorem zT0_361 : TT 0 361 L S M Q = TR (z_st (.iadd) 1 361 L S M) 0 362 M Q := T_at zk0 rfl
set_option maxRecDepth 100000 in
theorem zT0_362 : TT 0 362 L S M Q = TR (z_st (.iaload) 1 362 L S M) 0 363 M Q := T_at zk0 rfl
set_option maxRecDepth 100000 in
theorem zT0_363 : TT 0 363 L S M Q = TR (z_st (.aload 0) 1 363 L S M) 0 364 M Q := T_at zk0 rfl
set_option maxRecDepth 100000 in
theorem zT0_364 : TT 0 364 L S M Q = TR (z_st (.iload 3) 1 364 L S M) 0 365 M Q := T_at zk0 rfl
set_option maxRecDepth 100000 in
theorem zT0_365 : TT 0 365 L S M Q = TR (z_st (.iconst 2) 1 365 L S M) 0 366 M Q := T_at zk0 rfl
set_option maxRecDepth 100000 in
theorem zT0_366 : TT 0 366 L S M Q = TR (z_st (.iadd) 1 366 L S M) 0 367 M Q := T_at zk0 rfl
set_option maxRecDepth 100000 in
theorem zT0_367 : TT 0 367 L S M Q = TR (z_st (.iaload) 1 367 L S M) 0 368 M Q := T_at zk0 rfl
set_option maxRecDepth 100000 in
theorem zT0_368 : TT 0 368 L S M Q = TR (z_st (.invokevirtual 25) 3 368 L S M) 0 371 M Q := T_at zk0 rfl
set_option maxRecDepth 100000 in
theorem zT0_371 : TT 0 371 L S M Q = TR (z_st (.if_icmp .eq 952) 3 371 L S M) 0 374 M Q := T_at zk0 rfl
set_option maxRecDepth 100000 in
theorem zT0_374 : TT 0 374 L S M Q = TR (z_st (.iconst 0) 1 374 L S M) 0 375 M Q := T_at zk0 rfl
set_option maxRecDepth 100000 in
theorem zT0_375 : TT 0 375 L S M Q = TR (z_st (.ret 1) 1 375 L S M) 0 376 M Q := T_at zk0 rfl
set_option maxRecDepth 100000 in
theorem zT0_376 : TT 0 376 L S M Q = TR (z_st (.aload 1) 1 376 L S M) 0 377 M Q := T_at zk0 rfl
set_option maxRecDepth 100000 in
theorem zT0_377 : TT 0 377 L S M Q = TR (z_st (.aload 0) 1 377 L S M) 0 378 M Q := T_at zk0 rfl
set_option maxRecDepth 100000 in
theorem zT0_378 : TT 0 378 L S M Q = TR (z_st (.iload 3) 1 378 L S M) 0 379 M Q := T_at zk0 rfl
set_option maxRecDepth 100000 in
theorem zT0_379 : TT 0 379 L S M Q = TR (z_st (.iconst 1) 1 379 L S M) 0 380 M Q := T_at zk0 rfl
set_option maxRecDepth 100000 in
theorem zT0_380 : TT 0 380 L S M Q = TR (z_st (.iadd) 1 380 L S M) 0 381 M Q := T_at zk0 rfl
set_option maxRecDepth 100000 in
theorem zT0_381 : TT 0 381 L S M Q = TR (z_st (.iaload) 1 381 L S M) 0 382 M Q := T_at zk0 rfl
set_option maxRecDepth 100000 in
theorem zT0_382 : TT 0 382 L S M Q = TR (z_st (.i2l) 1 382 L S M) 0 383 M Q := T_at zk0 rfl
set_option maxRecDepth 100000 in
theorem zT0_383 : TT 0 383 L S M Q = TR (z_st (.iconst 32) 2 383 L S M) 0 385 M Q := T_at zk0 rfl
set_option maxRecDepth 100000 in
theorem zT0_385 : TT 0 385 L S M Q = TR (z_st (.lshl) 1 385 L S M) 0 386 M Q := T_at zk0 rfl
set_option maxRecDepth 100000 in
theorem zT0_386 : TT 0 386 L S M Q = TR (z_st (.aload 0) 1 386 L S M) 0 387 M Q := T_at zk0 rfl
set_option maxRecDepth 100000 in
theorem zT0_387 : TT 0 387 L S M Q = TR (z_st (.iload 3) 1 387 L S M) 0 388 M Q := T_at zk0 rfl
set_option maxRecDepth 100000 in
theorem zT0_388 : TT 0 388 L S M Q = TR (z_st (.iconst 2) 1 388 L S M) 0 389 M Q := T_at zk0 rfl
set_option maxRecDepth 100000 in
theorem zT0_389 : TT 0 389 L S M Q = TR (z_st (.iadd) 1 389 L S M) 0 390 M Q := T_at zk0 rfl
set_option maxRecDepth 100000 in
theorem zT0_390 : TT 0 390 L S M Q = TR (z_st (.iaload) 1 390 L S M) 0 391 M Q := T_at zk0 rfl
set_option maxRecDepth 100000 in
theorem zT0_391 : TT 0 391 L S M Q = TR (z_st (.i2l) 1 391 L S M) 0 392 M Q := T_at zk0 rfl
set_option maxRecDepth 100000 in
theorem zT0_392 : TT 0 392 L S M Q = TR (z_st (.ldc2_w 4294967295) 3 392 L S M) 0 395 M Q := T_at zk0 rfl
set_option maxRecDepth 100000 in
theorem zT0_395 : TT 0 395 L S M Q = TR (z_st (.land) 1 395 L S M) 0 396 M Q := T_at zk0 rfl
set_option maxRecDepth 100000 in
theorem zT0_396 : TT 0 396 L S M Q = TR (z_st (.lor) 1 396 L S M) 0 397 M Q := T_at zk0 rfl
set_option maxRecDepth 100000 in
theorem zT0_397 : TT 0 397 L S M Q = TR (z_st (.aload 0) 1 397 L S M) 0 398 M Q := T_at zk0 rfl
set_option maxRecDepth 100000 in
theorem zT0_398 : TT 0 398 L S M Q = TR (z_st (.iload 3) 1 398 L S M) 0 399 M Q := T_at zk0 rfl
set_option maxRecDepth 100000 in
theorem zT0_399 : TT 0 399 L S M Q = TR (z_st (.iconst 3) 1 399 L S M) 0 400 M Q := T_at zk0 rfl
set_option maxRecDepth 100000 in
theorem zT0_400 : TT 0 400 L S M Q = TR (z_st (.iadd) 1 400 L S M) 0 401 M Q := T_at zk0 rfl
set_option maxRecDepth 100000 in
theorem zT0_401 : TT 0 401 L S M Q = TR (z_st (.iaload) 1 401 L S M) 0 402 M Q := T_at zk0 rfl
set_option maxRecDepth 100000 in
theorem zT0_402 : TT 0 402 L S M Q = TR (z_st (.invokevirtual 90) 3 402 L S M) 0 405 M Q := T_at zk0 rfl
set_option maxRecDepth 100000 in
theorem zT0_405 : TT 0 405 L S M Q = TR (z_st (.aload 2) 1 405 L S M) 0 406 M Q := T_at zk0 rfl
set_option maxRecDepth 100000 in
theorem zT0_406 : TT 0 406 L S M Q = TR (z_st (.aload 0) 1 406 L S M) 0 407 M Q := T_at zk0 rfl
set_option maxRecDepth 100000 in
theorem zT0_407 : TT 0 407 L S M Q = TR (z_st (.iload 3) 1 407 L S M) 0 408 M Q := T_at zk0 rfl
set_option maxRecDepth 100000 in
theorem zT0_408 : TT 0 408 L S M Q = TR (z_st (.iconst 1) 1 408 L S M) 0 409 M Q := T_at zk0 rfl
set_option maxRecDepth 100000 in
theorem zT0_409 : TT 0 409 L S M Q = TR (z_st (.iadd) 1 409 L S M) 0 410 M Q := T_at zk0 rfl
set_option maxRecDepth 100000 in
theorem zT0_410 : TT 0 410 L S M Q = TR (z_st (.iaload) 1 410 L S M) 0 411 M Q := T_at zk0 rfl
set_option maxRecDepth 100000 in
theorem zT0_411 : TT 0 411 L S M Q = TR (z_st (.i2l) 1 411 L S M) 0 412 M Q := T_at zk0 rfl
set_option maxRecDepth 100000 in
theorem zT0_412 : TT 0 412 L S M Q = TR (z_st (.iconst 32) 2 412 L S M) 0 414 M Q := T_at zk0 rfl
set_option maxRecDepth 100000 in
theorem zT0_414 : TT 0 414 L S M Q = TR (z_st (.lshl) 1 414 L S M) 0 415 M Q := T_at zk0 rfl
set_option maxRecDepth 100000 in
theorem zT0_415 : TT 0 415 L S M Q = TR (z_st (.aload 0) 1 415 L S M) 0 416 M Q := T_at zk0 rfl
set_option maxRecDepth 100000 in
theorem zT0_416 : TT 0 416 L S M Q = TR (z_st (.iload 3) 1 416 L S M) 0 417 M Q := T_at zk0 rfl
set_option maxRecDepth 100000 in
theorem zT0_417 : TT 0 417 L S M Q = TR (z_st (.iconst 2) 1 417 L S M) 0 418 M Q := T_at zk0 rfl
set_option maxRecDepth 100000 in
theorem zT0_418 : TT 0 418 L S M Q = TR (z_st (.iadd) 1 418 L S M) 0 419 M Q := T_at zk0 rfl
set_option maxRecDepth 100000 in
theorem zT0_419 : TT 0 419 L S M Q = TR (z_st (.iaload) 1 419 L S M) 0 420 M Q := T_at zk0 rfl
set_option maxRecDepth 100000 in
theorem zT0_420 : TT 0 420 L S M Q = TR (z_st (.i2l) 1 420 L S M) 0 421 M Q := T_at zk0 rfl
set_option maxRecDepth 100000 in
theorem zT0_421 : TT 0 421 L S M Q = TR (z_st (.ldc2_w 4294967295) 3 421 L S M) 0 424 M Q := T_at zk0 rfl
set_option maxRecDepth 100000 in
theorem zT0_424 : TT 0 424 L S M Q = TR (z_st (.land) 1 424 L S M) 0 425 M Q := T_at zk0 rfl
set_option maxRecDepth 100000 in
theorem zT0_425 : TT 0 425 L S M Q = TR (z_st (.lor) 1 425 L S M) 0 426 M Q := T_at zk0 rfl
set_option maxRecDepth 100000 in
theorem zT0_426 : TT 0 426 L S M Q = TR (z_st (.aload 0) 1 426 L S M) 0 427 M Q := T_at zk0 rfl
set_option maxRecDepth 100000 in
theorem zT0_427 : TT 0 427 L S M Q = TR (z_st (.iload 3) 1 427 L S M) 0 428 M Q := T_at zk0 rfl
set_option maxRecDepth 100000 in
theorem zT0_428 : TT 0 428 L S M Q = TR (z_st (.iconst 3) 1 428 L S M) 0 429 M Q := T_at zk0 rfl
set_option maxRecDepth 100000 in
theorem zT0_429 : TT 0 429 L S M Q = TR (z_st (.iadd) 1 429 L S M) 0 430 M Q := T_at zk0 rfl
set_option maxRecDepth 100000 in
theorem zT0_430 : TT 0 430 L S M Q = TR (z_st (.iaload) 1 430 L S M) 0 431 M Q := T_at zk0 rfl
set_option maxRecDepth 100000 in
theorem zT0_431 : TT 0 431 L S M Q = TR (z_st (.invokevirtual 26) 3 431 L S M) 0 434 M Q := T_at zk0 rfl
set_option maxRecDepth 100000 in
theorem zT0_434 : TT 0 434 L S M Q = TR (z_st (.if_icmp .eq 952) 3 434 L S M) 0 437 M Q := T_at zk0 rfl
set_option maxRecDepth 100000 in
theorem zT0_437 : TT 0 437 L S M Q = TR (z_st (.iconst 0) 1 437 L S M) 0 438 M Q := T_at zk0 rfl
set_option maxRecDepth 100000 in
theorem zT0_438 : TT 0 438 L S M Q = TR (z_st (.ret 1) 1 438 L S M) 0 439 M Q := T_at zk0 rfl
set_option maxRecDepth 100000 in
theorem zT0_439 : TT 0 439 L S M Q = TR (z_st (.aload 1) 1 439 L S M) 0 440 M Q := T_at zk0 rfl
set_option maxRecDepth 100000 in
theorem zT0_440 : TT 0 440 L S M Q = TR (z_st (.invokevirtual 91) 3 440 L S M) 0 443 M Q := T_at zk0 rfl
set_option maxRecDepth 100000 in
theorem zT0_443 : TT 0 443 L S M Q = TR (z_st (.aload 2) 1 443 L S M) 0 444 M Q := T_at zk0 rfl
set_option maxRecDepth 100000 in
theorem zT0_444 : TT 0 444 L S M Q = TR (z_st (.invokevirtual 27) 3 444 L S M) 0 447 M Q := T_at zk0 rfl
set_option maxRecDepth 100000 in
theorem zT0_447 : TT 0 447 L S M Q = TR (z_st (.if_icmp .eq 952) 3 447 L S M) 0 450 M Q := T_at zk0 rfl
set_option maxRecDepth 100000 in
theorem zT0_450 : TT 0 450 L S M Q = TR (z_st (.iconst 0) 1 450 L S M) 0 451 M Q := T_at zk0 rfl
set_option maxRecDepth 100000 in
theorem zT0_451 : TT 0 451 L S M Q = TR (z_st (.ret 1) 1 451 L S M) 0 452 M Q := T_at zk0 rfl
set_option maxRecDepth 100000 in
theorem zT0_452 : TT 0 452 L S M Q = TR (z_st (.aload 1) 1 452 L S M) 0 453 M Q := T_at zk0 rfl
set_option maxRecDepth 100000 in
theorem zT0_453 : TT 0 453 L S M Q = TR (z_st (.invokevirtual 92) 3 453 L S M) 0 456 M Q := T_at zk0 rfl
set_option maxRecDepth 100000 in
theorem zT0_456 : TT 0 456 L S M Q = TR (z_st (.aload 2) 1 456 L S M) 0 457 M Q := T_at zk0 rfl
set_option maxRecDepth 100000 in
theorem zT0_457 : TT 0 457 L S M Q = TR (z_st (.invokevirtual 35) 3 457 L S M) 0 460 M Q := T_at zk0 rfl
set_option maxRecDepth 100000 in
theorem zT0_460 : TT 0 460 L S M Q = TR (z_st (.if_icmp .eq 952) 3 460 L S M) 0 463 M Q := T_at zk0 rfl
set_option maxRecDepth 100000 in
theorem zT0_463 : TT 0 463 L S M Q = TR (z_st (.iconst 0) 1 463 L S M) 0 464 M Q := T_at zk0 rfl
set_option maxRecDepth 100000 in
theorem zT0_464 : TT 0 464 L S M Q = TR (z_st (.ret 1) 1 464 L S M) 0 465 M Q := T_at zk0 rfl
set_option maxRecDepth 100000 in
theorem zT0_465 : TT 0 465 L S M Q = TR (z_st (.aload 1) 1 465 L S M) 0 466 M Q := T_at zk0 rfl
set_option maxRecDepth 100000 in
theorem zT0_466 : TT 0 466 L S M Q = TR (z_st (.invokevirtual 93) 3 466 L S M) 0 469 M Q := T_at zk0 rfl
set_option maxRecDepth 100000 in
theorem zT0_469 : TT 0 469 L S M Q = TR (z_st (.aload 2) 1 469 L S M) 0 470 M Q := T_at zk0 rfl
set_option maxRecDepth 100000 in
theorem zT0_470 : TT 0 470 L S M Q = TR (z_st (.invokevirtual 50) 3 470 L S M) 0 473 M Q := T_at zk0 rfl
set_option maxRecDepth 100000 in
theorem zT0_473 : TT 0 473 L S M Q = TR (z_st (.if_icmp .eq 952) 3 473 L S M) 0 476 M Q := T_at zk0 rfl
set_option maxRecDepth 100000 in
theorem zT0_476 : TT 0 476 L S M Q = TR (z_st (.iconst 0) 1 476 L S M) 0 477 M Q := T_at zk0 rfl
set_option maxRecDepth 100000 in
theorem zT0_477 : TT 0 477 L S M Q = TR (z_st (.ret 1) 1 477 L S M) 0 478 M Q := T_at zk0 rfl
set_option maxRecDepth 100000 in
theorem zT0_478 : TT 0 478 L S M Q = TR (z_st (.aload 1) 1 478 L S M) 0 479 M Q := T_at zk0 rfl
set_option maxRecDepth 100000 in
theorem zT0_479 : TT 0 479 L S M Q = TR (z_st (.aload 0) 1 479 L S M) 0 480 M Q := T_at zk0 rfl
set_option maxRecDepth 100000 in
theorem zT0_480 : TT 0 480 L S M Q = TR (z_st (.iload 3) 1 480 L S M) 0 481 M Q := T_at zk0 rfl
set_option maxRecDepth 100000 in
theorem zT0_481 : TT 0 481 L S M Q = TR (z_st (.iconst 1) 1 481 L S M) 0 482 M Q := T_at zk0 rfl
set_option maxRecDepth 100000 in
theorem zT0_482 : TT 0 482 L S M Q = TR (z_st (.iadd) 1 482 L S M) 0 483 M Q := T_at zk0 rfl
set_option maxRecDepth 100000 in
theorem zT0_483 : TT 0 483 L S M Q = TR (z_st (.iaload) 1 483 L S M) 0 484 M Q := T_at zk0 rfl
set_option maxRecDepth 100000 in
theorem zT0_484 : TT 0 484 L S M Q = TR (z_st (.invokevirtual 94) 3 484 L S M) 0 487 M Q := T_at zk0 rfl
set_option maxRecDepth 100000 in
theorem zT0_487 : TT 0 487 L S M Q = TR (z_st (.aload 2) 1 487 L S M) 0 488 M Q := T_at zk0 rfl
set_option maxRecDepth 100000 in
theorem zT0_488 : TT 0 488 L S M Q = TR (z_st (.aload 0) 1 488 L S M) 0 489 M Q := T_at zk0 rfl
set_option maxRecDepth 100000 in
theorem zT0_489 : TT 0 489 L S M Q = TR (z_st (.iload 3) 1 489 L S M) 0 490 M Q := T_at zk0 rfl
set_option maxRecDepth 100000 in
theorem zT0_490 : TT 0 490 L S M Q = TR (z_st (.iconst 1) 1 490 L S M) 0 491 M Q := T_at zk0 rfl
set_option maxRecDepth 100000 in
theorem zT0_491 : TT 0 491 L S M Q = TR (z_st (.iadd) 1 491 L S M) 0 492 M Q := T_at zk0 rfl
set_option maxRecDepth 100000 in
theorem zT0_492 : TT 0 492 L S M Q = TR (z_st (.iaload) 1 492 L S M) 0 493 M Q := T_at zk0 rfl
set_option maxRecDepth 100000 in
theorem zT0_493 : TT 0 493 L S M Q = TR (z_st (.invokevirtual 52) 3 493 L S M) 0 496 M Q := T_at zk0 rfl
set_option maxRecDepth 100000 in
theorem zT0_496 : TT 0 496 L S M Q = TR (z_st (.if_icmp .eq 952) 3 496 L S M) 0 499 M Q := T_at zk0 rfl
set_option maxRecDepth 100000 in
theorem zT0_499 : TT 0 499 L S M Q = TR (z_st (.iconst 0) 1 499 L S M) 0 500 M Q := T_at zk0 rfl
set_option maxRecDepth 100000 in
theorem zT0_500 : TT 0 500 L S M Q = TR (z_st (.ret 1) 1 500 L S M) 0 501 M Q := T_at zk0 rfl
set_option maxRecDepth 100000 in
theorem zT0_501 : TT 0 501 L S M Q = TR (z_st (.aload 1) 1 501 L S M) 0 502 M Q := T_at zk0 rfl
set_option maxRecDepth 100000 in
theorem zT0_502 : TT 0 502 L S M Q = TR (z_st (.aload 0) 1 502 L S M) 0 503 M Q := T_at zk0 rfl
set_option maxRecDepth 100000 in
theorem zT0_503 : TT 0 503 L S M Q = TR (z_st (.iload 3) 1 503 L S M) 0 504 M Q := T_at zk0 rfl
set_option maxRecDepth 100000 in
theorem zT0_504 : TT 0 504 L S M Q = TR (z_st (.iconst 1) 1 504 L S M) 0 505 M Q := T_at zk0 rfl
set_option maxRecDepth 100000 in
theorem zT0_505 : TT 0 505 L S M Q = TR (z_st (.iadd) 1 505 L S M) 0 506 M Q := T_at zk0 rfl
set_option maxRecDepth 100000 in
theorem zT0_506 : TT 0 506 L S M Q = TR (z_st (.iaload) 1 506 L S M) 0 507 M Q := T_at zk0 rfl
set_option maxRecDepth 100000 in
theorem zT0_507 : TT 0 507 L S M Q = TR (z_st (.aload 0) 1 507 L S M) 0 508 M Q := T_at zk0 rfl
set_option maxRecDepth 100000 in
theorem zT0_508 : TT 0 508 L S M Q = TR (z_st (.iload 3) 1 508 L S M) 0 509 M Q := T_at zk0 rfl
set_option maxRecDepth 100000 in
theorem zT0_509 : TT 0 509 L S M Q = TR (z_st (.iconst 2) 1 509 L S M) 0 510 M Q := T_at zk0 rfl
set_option maxRecDepth 100000 in
theorem zT0_510 : TT 0 510 L S M Q = TR (z_st (.iadd) 1 510 L S M) 0 511 M Q := T_at zk0 rfl
set_option maxRecDepth 100000 in
theorem zT0_511 : TT 0 511 L S M Q = TR (z_st (.iaload) 1 511 L S M) 0 512 M Q := T_at zk0 rfl
set_option maxRecDepth 100000 in
theorem zT0_512 : TT 0 512 L S M Q = TR (z_st (.invokevirtual 95) 3 512 L S M) 0 515 M Q := T_at zk0 rfl
set_option maxRecDepth 100000 in
theorem zT0_515 : TT 0 515 L S M Q = TR (z_st (.aload 2) 1 515 L S M) 0 516 M Q := T_at zk0 rfl
set_option maxRecDepth 100000 in
theorem zT0_516 : TT 0 516 L S M Q = TR (z_st (.aload 0) 1 516 L S M) 0 517 M Q := T_at zk0 rfl
set_option maxRecDepth 100000 in
theorem zT0_517 : TT 0 517 L S M Q = TR (z_st (.iload 3) 1 517 L S M) 0 518 M Q := T_at zk0 rfl
set_option maxRecDepth 100000 in
theorem zT0_518 : TT 0 518 L S M Q = TR (z_st (.iconst 1) 1 518 L S M) 0 519 M Q := T_at zk0 rfl
set_option maxRecDepth 100000 in
theorem zT0_519 : TT 0 519 L S M Q = TR (z_st (.iadd) 1 519 L S M) 0 520 M Q := T_at zk0 rfl
set_option maxRecDepth 100000 in
theorem zT0_520 : TT 0 520 L S M Q = TR (z_st (.iaload) 1 520 L S M) 0 521 M Q := T_at zk0 rfl
set_option maxRecDepth 100000 in
theorem zT0_521 : TT 0 521 L S M Q = TR (z_st (.aload 0) 1 521 L S M) 0 522 M Q := T_at zk0 rfl
set_option maxRecDepth 100000 in
theorem zT0_522 : TT 0 522 L S M Q = TR (z_st (.iload 3) 1 522 L S M) 0 523 M Q := T_at zk0 rfl
set_option maxRecDepth 100000 in
theorem zT0_523 : TT 0 523 L S M Q = TR (z_st (.iconst 2) 1 523 L S M) 0 524 M Q := T_at zk0 rfl
set_option maxRecDepth 100000 in
theorem zT0_524 : TT 0 524 L S M Q = TR (z_st (.iadd) 1 524 L S M) 0 525 M Q := T_at zk0 rfl
set_option maxRecDepth 100000 in
theorem zT0_525 : TT 0 525 L S M Q = TR (z_st (.iaload) 1 525 L S M) 0 526 M Q := T_at zk0 rfl
set_option maxRecDepth 100000 in
theorem zT0_526 : TT 0 526 L S M Q = TR (z_st (.invokevirtual 56) 3 526 L S M) 0 529 M Q := T_at zk0 rfl
set_option maxRecDepth 100000 in
theorem zT0_529 : TT 0 529 L S M Q = TR (z_st (.if_icmp .eq 952) 3 529 L S M) 0 532 M Q := T_at zk0 rfl
set_option maxRecDepth 100000 in
theorem zT0_532 : TT 0 532 L S M Q = TR (z_st (.iconst 0) 1 532 L S M) 0 533 M Q := T_at zk0 rfl
set_option maxRecDepth 100000 in
theorem zT0_533 : TT 0 533 L S M Q = TR (z_st (.ret 1) 1 533 L S M) 0 534 M Q := T_at zk0 rfl
set_option maxRecDepth 100000 in
theorem zT0_534 : TT 0 534 L S M Q = TR (z_st (.aload 1) 1 534 L S M) 0 535 M Q := T_at zk0 rfl
set_option maxRecDepth 100000 in
theorem zT0_535 : TT 0 535 L S M Q = TR (z_st (.aload 0) 1 535 L S M) 0 536 M Q := T_at zk0 rfl
set_option maxRecDepth 100000 in
theorem zT0_536 : TT 0 536 L S M Q = TR (z_st (.iload 3) 1 536 L S M) 0 537 M Q := T_at zk0 rfl
set_option maxRecDepth 100000 in
theorem zT0_537 : TT 0 537 L S M Q = TR (z_st (.iconst 1) 1 537 L S M) 0 538 M Q := T_at zk0 rfl
set_option maxRecDepth 100000 in
theorem zT0_538 : TT 0 538 L S M Q = TR (z_st (.iadd) 1 538 L S M) 0 539 M Q := T_at zk0 rfl
set_option maxRecDepth 100000 in
theorem zT0_539 : TT 0 539 L S M Q = TR (z_st (.iaload) 1 539 L S M) 0 540 M Q := T_at zk0 rfl
set_option maxRecDepth 100000 in
theorem zT0_540 : TT 0 540 L S M Q = TR (z_st (.invokevirtual 96) 3 540 L S M) 0 543 M Q := T_at zk0 rfl
set_option maxRecDepth 100000 in
theorem zT0_543 : TT 0 543 L S M Q = TR (z_st (.aload 2) 1 543 L S M) 0 544 M Q := T_at zk0 rfl
set_option maxRecDepth 100000 in
theorem zT0_544 : TT 0 544 L S M Q = TR (z_st (.aload 0) 1 544 L S M) 0 545 M Q := T_at zk0 rfl
set_option maxRecDepth 100000 in
theorem zT0_545 : TT 0 545 L S M Q = TR (z_st (.iload 3) 1 545 L S M) 0 546 M Q := T_at zk0 rfl
set_option maxRecDepth 100000 in
theorem zT0_546 : TT 0 546 L S M Q = TR (z_st (.iconst 1) 1 546 L S M) 0 547 M Q := T_at zk0 rfl
set_option maxRecDepth 100000 in
theorem zT0_547 : TT 0 547 L S M Q = TR (z_st (.iadd) 1 547 L S M) 0 548 M Q := T_at zk0 rfl
set_option maxRecDepth 100000 in
theorem zT0_548 : TT 0 548 L S M Q = TR (z_st (.iaload) 1 548 L S M) 0 549 M Q := T_at zk0 rfl
set_option maxRecDepth 100000 in
theorem zT0_549 : TT 0 549 L S M Q = TR (z_st (.invokevirtual 57) 3 549 L S M) 0 552 M Q := T_at zk0 rfl
set_option maxRecDepth 100000 in
theorem zT0_552 : TT 0 552 L S M Q = TR (z_st (.if_icmp .eq 952) 3 552 L S M) 0 555 M Q := T_at zk0 rfl
set_option maxRecDepth 100000 in
theorem zT0_555 : TT 0 555 L S M Q = TR (z_st (.iconst 0) 1 555 L S M) 0 556 M Q := T_at zk0 rfl
set_option maxRecDepth 100000 in
theorem zT0_556 : TT 0 556 L S M Q = TR (z_st (.ret 1) 1 556 L S M) 0 557 M Q := T_at zk0 rfl
set_option maxRecDepth 100000 in
theorem zT0_557 : TT 0 557 L S M Q = TR (z_st (.aload 1) 1 557 L S M) 0 558 M Q := T_at zk0 rfl
set_option maxRecDepth 100000 in
theorem zT0_558 : TT 0 558 L S M Q = TR (z_st (.aload 0) 1 558 L S M) 0 559 M Q := T_at zk0 rfl
set_option maxRecDepth 100000 in
theorem zT0_559 : TT 0 559 L S M Q = TR (z_st (.iload 3) 1 559 L S M) 0 560 M Q := T_at zk0 rfl
set_option maxRecDepth 100000 in
theorem zT0_560 : TT 0 560 L S M Q = TR (z_st (.iconst 1) 1 560 L S M) 0 561 M Q := T_at zk0 rfl
set_option maxRecDepth 100000 in
theorem zT0_561 : TT 0 561 L S M Q = TR (z_st (.iadd) 1 561 L S M) 0 562 M Q := T_at zk0 rfl
set_option maxRecDepth 100000 in
theorem zT0_562 : TT 0 562 L S M Q = TR (z_st (.iaload) 1 562 L S M) 0 563 M Q := T_at zk0 rfl
set_option maxRecDepth 100000 in
theorem zT0_563 : TT 0 563 L S M Q = TR (z_st (.invokevirtual 97) 3 563 L S M) 0 566 M Q := T_at zk0 rfl
set_option maxRecDepth 100000 in
theorem zT0_566 : TT 0 566 L S M Q = TR (z_st (.aload 2) 1 566 L S M) 0 567 M Q := T_at zk0 rfl
set_option maxRecDepth 100000 in
theorem zT0_567 : TT 0 567 L S M Q = TR (z_st (.aload 0) 1 567 L S M) 0 568 M Q := T_at zk0 rfl
set_option maxRecDepth 100000 in
theorem zT0_568 : TT 0 568 L S M Q = TR (z_st (.iload 3) 1 568 L S M) 0 569 M Q := T_at zk0 rfl
set_option maxRecDepth 100000 in
theorem zT0_569 : TT 0 569 L S M Q = TR (z_st (.iconst 1) 1 569 L S M) 0 570 M Q := T_at zk0 rfl
set_option maxRecDepth 100000 in
theorem zT0_570 : TT 0 570 L S M Q = TR (z_st (.iadd) 1 570 L S M) 0 571 M Q := T_at zk0 rfl
set_option maxRecDepth 100000 in
theorem zT0_571 : TT 0 571 L S M Q = TR (z_st (.iaload) 1 571 L S M) 0 572 M Q := T_at zk0 rfl
set_option maxRecDepth 100000 in
theorem zT0_572 : TT 0 572 L S M Q = TR (z_st (.invokevirtual 58) 3 572 L S M) 0 575 M Q := T_at zk0 rfl
set_option maxRecDepth 100000 in
theorem zT0_575 : TT 0 575 L S M Q = TR (z_st (.if_icmp .eq 952) 3 575 L S M) 0 578 M Q := T_at zk0 rfl
set_option maxRecDepth 100000 in
theorem zT0_578 : TT 0 578 L S M Q = TR (z_st (.iconst 0) 1 578 L S M) 0 579 M Q := T_at zk0 rfl
set_option maxRecDepth 100000 in
theorem zT0_579 : TT 0 579 L S M Q = TR (z_st (.ret 1) 1 579 L S M) 0 580 M Q := T_at zk0 rfl
set_option maxRecDepth 100000 in
theorem zT0_580 : TT 0 580 L S M Q = TR (z_st (.aload 1) 1 580 L S M) 0 581 M Q := T_at zk0 rfl
set_option maxRecDepth 100000 in
theorem zT0_581 : TT 0 581 L S M Q = TR (z_st (.invokevirtual 98) 3 581 L S M) 0 584 M Q := T_at zk0 rfl
set_option maxRecDepth 100000 in
theorem zT0_584 : TT 0 584 L S M Q = TR (z_st (.aload 2) 1 584 L S M) 0 585 M Q := T_at zk0 rfl
set_option maxRecDepth 100000 in
theorem zT0_585 : TT 0 585 L S M Q = TR (z_st (.invokevirtual 59) 3 585 L S M) 0 588 M Q := T_at zk0 rfl
set_option maxRecDepth 100000 in
theorem zT0_588 : TT 0 588 L S M Q = TR (z_st (.if_icmp .eq 952) 3 588 L S M) 0 591 M Q := T_at zk0 rfl
set_option maxRecDepth 100000 in
theorem zT0_591 : TT 0 591 L S M Q = TR (z_st (.iconst 0) 1 591 L S M) 0 592 M Q := T_at zk0 rfl
set_option maxRecDepth 100000 in
theorem zT0_592 : TT 0 592 L S M Q = TR (z_st (.ret 1) 1 592 L S M) 0 593 M Q := T_at zk0 rfl
set_option maxRecDepth 100000 in
theorem zT0_593 : TT 0 593 L S M Q = TR (z_st (.aload 1) 1 593 L S M) 0 594 M Q := T_at zk0 rfl
set_option maxRecDepth 100000 in
theorem zT0_594 : TT 0 594 L S M Q = TR (z_st (.invokevirtual 99) 3 594 L S M) 0 597 M Q := T_at zk0 rfl
set_option maxRecDepth 100000 in
theorem zT0_597 : TT 0 597 L S M Q = TR (z_st (.aload 2) 1 597 L S M) 0 598 M Q := T_at zk0 rfl
set_option maxRecDepth 100000 in
theorem zT0_598 : TT 0 598 L S M Q = TR (z_st (.invokevirtual 60) 3 598 L S M) 0 601 M Q := T_at zk0 rfl
set_option maxRecDepth 100000 in
theorem zT0_601 : TT 0 601 L S M Q = TR (z_st (.if_icmp .eq 952) 3 601 L S M) 0 604 M Q := T_at zk0 rfl
set_option maxRecDepth 100000 in
theorem zT0_604 : TT 0 604 L S M Q = TR (z_st (.iconst 0) 1 604 L S M) 0 605 M Q := T_at zk0 rfl
set_option maxRecDepth 100000 in
theorem zT0_605 : TT 0 605 L S M Q = TR (z_st (.ret 1) 1 605 L S M) 0 606 M Q := T_at zk0 rfl
set_option maxRecDepth 100000 in
theorem zT0_606 : TT 0 606 L S M Q = TR (z_st (.aload 1) 1 606 L S M) 0 607 M Q := T_at zk0 rfl
set_option maxRecDepth 100000 in
theorem zT0_607 : TT 0 607 L S M Q = TR (z_st (.aload 0) 1 607 L S M) 0 608 M Q := T_at zk0 rfl
set_option maxRecDepth 100000 in
theorem zT0_608 : TT 0 608 L S M Q = TR (z_st (.iload 3) 1 608 L S M) 0 609 M Q := T_at zk0 rfl
set_option maxRecDepth 100000 in
theorem zT0_609 : TT 0 609 L S M Q = TR (z_st (.iconst 1) 1 609 L S M) 0 610 M Q := T_at zk0 rfl
set_option maxRecDepth 100000 in
theorem zT0_610 : TT 0 610 L S M Q = TR (z_st (.iadd) 1 610 L S M) 0 611 M Q := T_at zk0 rfl
set_option maxRecDepth 100000 in
theorem zT0_611 : TT 0 611 L S M Q = TR (z_st (.iaload) 1 611 L S M) 0 612 M Q := T_at zk0 rfl
set_option maxRecDepth 100000 in
theorem zT0_612 : TT 0 612 L S M Q = TR (z_st (.invokevirtual 100) 3 612 L S M) 0 615 M Q := T_at zk0 rfl
set_option maxRecDepth 100000 in
theorem zT0_615 : TT 0 615 L S M Q = TR (z_st (.aload 2) 1 615 L S M) 0 616 M Q := T_at zk0 rfl
set_option maxRecDepth 100000 in
theorem zT0_616 : TT 0 616 L S M Q = TR (z_st (.aload 0) 1 616 L S M) 0 617 M Q := T_at zk0 rfl
set_option maxRecDepth 100000 in
theorem zT0_617 : TT 0 617 L S M Q = TR (z_st (.iload 3) 1 617 L S M) 0 618 M Q := T_at zk0 rfl
set_option maxRecDepth 100000 in
theorem zT0_618 : TT 0 618 L S M Q = TR (z_st (.iconst 1) 1 618 L S M) 0 619 M Q := T_at zk0 rfl
set_option maxRecDepth 100000 in
theorem zT0_619 : TT 0 619 L S M Q = TR (z_st (.iadd) 1 619 L S M) 0 620 M Q := T_at zk0 rfl
set_option maxRecDepth 100000 in
theorem zT0_620 : TT 0 620 L S M Q = TR (z_st (.iaload) 1 620 L S M) 0 621 M Q := T_at zk0 rfl
set_option maxRecDepth 100000 in
theorem zT0_621 : TT 0 621 L S M Q = TR (z_st (.invokevirtual 61) 3 621 L S M) 0 624 M Q := T_at zk0 rfl
set_option maxRecDepth 100000 in
theorem zT0_624 : TT 0 624 L S M Q = TR (z_st (.if_icmp .eq 952) 3 624 L S M) 0 627 M Q := T_at zk0 rfl
set_option maxRecDepth 100000 in
theorem zT0_627 : TT 0 627 L S M Q = TR (z_st (.iconst 0) 1 627 L S M) 0 628 M Q := T_at zk0 rfl
set_option maxRecDepth 100000 in
theorem zT0_628 : TT 0 628 L S M Q = TR (z_st (.ret 1) 1 628 L S M) 0 629 M Q := T_at zk0 rfl
set_option maxRecDepth 100000 in
theorem zT0_629 : TT 0 629 L S M Q = TR (z_st (.aload 1) 1 629 L S M) 0 630 M Q := T_at zk0 rfl
set_option maxRecDepth 100000 in
theorem zT0_630 : TT 0 630 L S M Q = TR (z_st (.aload 0) 1 630 L S M) 0 631 M Q := T_at zk0 rfl
set_option maxRecDepth 100000 in
theorem zT0_631 : TT 0 631 L S M Q = TR (z_st (.iload 3) 1 631 L S M) 0 632 M Q := T_at zk0 rfl
set_option maxRecDepth 100000 in
theorem zT0_632 : TT 0 632 L S M Q = TR (z_st (.iconst 1) 1 632 L S M) 0 633 M Q := T_at zk0 rfl
set_option maxRecDepth 100000 in
theorem zT0_633 : TT 0 633 L S M Q = TR (z_st (.iadd) 1 633 L S M) 0 634 M Q := T_at zk0 rfl
set_option maxRecDepth 100000 in
theorem zT0_634 : TT 0 634 L S M Q = TR (z_st (.iaload) 1 634 L S M) 0 635 M Q := T_at zk0 rfl
set_option maxRecDepth 100000 in
theorem zT0_635 : TT 0 635 L S M Q = TR (z_st (.invokevirtual 101) 3 635 L S M) 0 638 M Q := T_at zk0 rfl
set_option maxRecDepth 100000 in
theorem zT0_638 : TT 0 638 L S M Q = TR (z_st (.aload 2) 1 638 L S M) 0 639 M Q := T_at zk0 rfl
set_option maxRecDepth 100000 in
theorem zT0_639 : TT 0 639 L S M Q = TR (z_st (.aload 0) 1 639 L S M) 0 640 M Q := T_at zk0 rfl
set_option maxRecDepth 100000 in
theorem zT0_640 : TT 0 640 L S M Q = TR (z_st (.iload 3) 1 640 L S M) 0 641 M Q := T_at zk0 rfl
set_option maxRecDepth 100000 in
theorem zT0_641 : TT 0 641 L S M Q = TR (z_st (.iconst 1) 1 641 L S M) 0 642 M Q := T_at zk0 rfl
set_option maxRecDepth 100000 in
theorem zT0_642 : TT 0 642 L S M Q = TR (z_st (.iadd) 1 642 L S M) 0 643 M Q := T_at zk0 rfl
set_option maxRecDepth 100000 in
theorem zT0_643 : TT 0 643 L S M Q = TR (z_st (.iaload) 1 643 L S M) 0 644 M Q := T_at zk0 rfl
set_option maxRecDepth 100000 in
theorem zT0_644 : TT 0 644 L S M Q = TR (z_st (.invokevirtual 65) 3 644 L S M) 0 647 M Q := T_at zk0 rfl
set_option maxRecDepth 100000 in
theorem zT0_647 : TT 0 647 L S M Q = TR (z_st (.if_icmp .eq 952) 3 647 L S M) 0 650 M Q := T_at zk0 rfl
set_option maxRecDepth 100000 in
theorem zT0_650 : TT 0 650 L S M Q = TR (z_st (.iconst 0) 1 650 L S M) 0 651 M Q := T_at zk0 rfl
set_option maxRecDepth 100000 in
theorem zT0_651 : TT 0 651 L S M Q = TR (z_st (.ret 1) 1 651 L S M) 0 652 M Q := T_at zk0 rfl
set_option maxRecDepth 100000 in
theorem zT0_652 : TT 0 652 L S M Q = TR (z_st (.aload 1) 1 652 L S M) 0 653 M Q := T_at zk0 rfl
set_option maxRecDepth 100000 in
theorem zT0_653 : TT 0 653 L S M Q = TR (z_st (.aload 0) 1 653 L S M) 0 654 M Q := T_at zk0 rfl
set_option maxRecDepth 100000 in
theorem zT0_654 : TT 0 654 L S M Q = TR (z_st (.iload 3) 1 654 L S M) 0 655 M Q := T_at zk0 rfl
set_option maxRecDepth 100000 in
theorem zT0_655 : TT 0 655 L S M Q = TR (z_st (.iconst 1) 1 655 L S M) 0 656 M Q := T_at zk0 rfl
set_option maxRecDepth 100000 in
theorem zT0_656 : TT 0 656 L S M Q = TR (z_st (.iadd) 1 656 L S M) 0 657 M Q := T_at zk0 rfl
set_option maxRecDepth 100000 in
theorem zT0_657 : TT 0 657 L S M Q = TR (z_st (.iaload) 1 657 L S M) 0 658 M Q := T_at zk0 rfl
set_option maxRecDepth 100000 in
theorem zT0_658 : TT 0 658 L S M Q = TR (z_st (.aload 0) 1 658 L S M) 0 659 M Q := T_at zk0 rfl
set_option maxRecDepth 100000 in
theorem zT0_659 : TT 0 659 L S M Q = TR (z_st (.iload 3) 1 659 L S M) 0 660 M Q := T_at zk0 rfl
set_option maxRecDepth 100000 in
theorem zT0_660 : TT 0 660 L S M Q = TR (z_st (.iconst 2) 1 660 L S M) 0 661 M Q := T_at zk0 rfl
set_option maxRecDepth 100000 in
theorem zT0_661 : TT 0 661 L S M Q = TR (z_st (.iadd) 1 661 L S M) 0 662 M Q := T_at zk0 rfl
set_option maxRecDepth 100000 in
theorem zT0_662 : TT 0 662 L S M Q = TR (z_st (.iaload) 1 662 L S M) 0 663 M Q := T_at zk0 rfl
set_option maxRecDepth 100000 in
theorem zT0_663 : TT 0 663 L S M Q = TR (z_st (.invokevirtual 102) 3 663 L S M) 0 666 M Q := T_at zk0 rfl
set_option maxRecDepth 100000 in
theorem zT0_666 : TT 0 666 L S M Q = TR (z_st (.aload 2) 1 666 L S M) 0 667 M Q := T_at zk0 rfl
set_option maxRecDepth 100000 in
theorem zT0_667 : TT 0 667 L S M Q = TR (z_st (.aload 0) 1 667 L S M) 0 668 M Q := T_at zk0 rfl
set_option maxRecDepth 100000 in
theorem zT0_668 : TT 0 668 L S M Q = TR (z_st (.iload 3) 1 668 L S M) 0 669 M Q := T_at zk0 rfl
set_option maxRecDepth 100000 in
theorem zT0_669 : TT 0 669 L S M Q = TR (z_st (.iconst 1) 1 669 L S M) 0 670 M Q := T_at zk0 rfl
set_option maxRecDepth 100000 in
theorem zT0_670 : TT 0 670 L S M Q = TR (z_st (.iadd) 1 670 L S M) 0 671 M Q := T_at zk0 rfl
set_option maxRecDepth 100000 in
theorem zT0_671 : TT 0 671 L S M Q = TR (z_st (.iaload) 1 671 L S M) 0 672 M Q := T_at zk0 rfl
set_option maxRecDepth 100000 in
theorem zT0_672 : TT 0 672 L S M Q = TR (z_st (.aload 0) 1 672 L S M) 0 673 M Q := T_at zk0 rfl
set_option maxRecDepth 100000 in
theorem zT0_673 : TT 0 673 L S M Q = TR (z_st (.iload 3) 1 673 L S M) 0 674 M Q := T_at zk0 rfl
set_option maxRecDepth 100000 in
theorem zT0_674 : TT 0 674 L S M Q = TR (z_st (.iconst 2) 1 674 L S M) 0 675 M Q := T_at zk0 rfl
set_option maxRecDepth 100000 in
theorem zT0_675 : TT 0 675 L S M Q = TR (z_st (.iadd) 1 675 L S M) 0 676 M Q := T_at zk0 rfl
set_option maxRecDepth 100000 in
theorem zT0_676 : TT 0 676 L S M Q = TR (z_st (.iaload) 1 676 L S M) 0 677 M Q := T_at zk0 rfl
set_option maxRecDepth 100000 in
theorem zT0_677 : TT 0 677 L S M Q = TR (z_st (.invokevirtual 66) 3 677 L S M) 0 680 M Q := T_at zk0 rfl
set_option maxRecDepth 100000 in
theorem zT0_680 : TT 0 680 L S M Q = TR (z_st (.if_icmp .eq 952) 3 680 L S M) 0 683 M Q := T_at zk0 rfl
set_option maxRecDepth 100000 in
theorem zT0_683 : TT 0 683 L S M Q = TR (z_st (.iconst 0) 1 683 L S M) 0 684 M Q := T_at zk0 rfl
set_option maxRecDepth 100000 in
theorem zT0_684 : TT 0 684 L S M Q = TR (z_st (.ret 1) 1 684 L S M) 0 685 M Q := T_at zk0 rfl
set_option maxRecDepth 100000 in
theorem zT0_685 : TT 0 685 L S M Q = TR (z_st (.aload 1) 1 685 L S M) 0 686 M Q := T_at zk0 rfl
set_option maxRecDepth 100000 in
theorem zT0_686 : TT 0 686 L S M Q = TR (z_st (.aload 0) 1 686 L S M) 0 687 M Q := T_at zk0 rfl
set_option maxRecDepth 100000 in
theorem zT0_687 : TT 0 687 L S M Q = TR (z_st (.iload 3) 1 687 L S M) 0 688 M Q := T_at zk0 rfl
set_option maxRecDepth 100000 in
theorem zT0_688 : TT 0 688 L S M Q = TR (z_st (.iconst 1) 1 688 L S M) 0 689 M Q := T_at zk0 rfl
set_option maxRecDepth 100000 in
theorem zT0_689 : TT 0 689 L S M Q = TR (z_st (.iadd) 1 689 L S M) 0 690 M Q := T_at zk0 rfl
set_option maxRecDepth 100000 in
theorem zT0_690 : TT 0 690 L S M Q = TR (z_st (.iaload) 1 690 L S M) 0 691 M Q := T_at zk0 rfl
set_option maxRecDepth 100000 in
theorem zT0_691 : TT 0 691 L S M Q = TR (z_st (.invokevirtual 103) 3 691 L S M) 0 694 M Q := T_at zk0 rfl
set_option maxRecDepth 100000 in
theorem zT0_694 : TT 0 694 L S M Q = TR (z_st (.aload 2) 1 694 L S M) 0 695 M Q := T_at zk0 rfl
set_option maxRecDepth 100000 in
theorem zT0_695 : TT 0 695 L S M Q = TR (z_st (.aload 0) 1 695 L S M) 0 696 M Q := T_at zk0 rfl
set_option maxRecDepth 100000 in
theorem zT0_696 : TT 0 696 L S M Q = TR (z_st (.iload 3) 1 696 L S M) 0 697 M Q := T_at zk0 rfl
set_option maxRecDepth 100000 in
theorem zT0_697 : TT 0 697 L S M Q = TR (z_st (.iconst 1) 1 697 L S M) 0 698 M Q := T_at zk0 rfl
set_option maxRecDepth 100000 in
theorem zT0_698 : TT 0 698 L S M Q = TR (z_st (.iadd) 1 698 L S M) 0 699 M Q := T_at zk0 rfl
set_option maxRecDepth 100000 in
theorem zT0_699 : TT 0 699 L S M Q = TR (z_st (.iaload) 1 699 L S M) 0 700 M Q := T_at zk0 rfl
set_option maxRecDepth 100000 in
theorem zT0_700 : TT 0 700 L S M Q = TR (z_st (.invokevirtual 67) 3 700 L S M) 0 703 M Q := T_at zk0 rfl
set_option maxRecDepth 100000 in
theorem zT0_703 : TT 0 703 L S M Q = TR (z_st (.if_icmp .eq 952) 3 703 L S M) 0 706 M Q := T_at zk0 rfl
set_option maxRecDepth 100000 in
theorem zT0_706 : TT 0 706 L S M Q = TR (z_st (.iconst 0) 1 706 L S M) 0 707 M Q := T_at zk0 rfl
set_option maxRecDepth 100000 in
theorem zT0_707 : TT 0 707 L S M Q = TR (z_st (.ret 1) 1 707 L S M) 0 708 M Q := T_at zk0 rfl
set_option maxRecDepth 100000 in
theorem zT0_708 : TT 0 708 L S M Q = TR (z_st (.aload 1) 1 708 L S M) 0 709 M Q := T_at zk0 rfl
set_option maxRecDepth 100000 in
theorem zT0_709 : TT 0 709 L S M Q = TR (z_st (.invokevirtual 104) 3 709 L S M) 0 712 M Q := T_at zk0 rfl
set_option maxRecDepth 100000 in
theorem zT0_712 : TT 0 712 L S M Q = TR (z_st (.aload 2) 1 712 L S M) 0 713 M Q := T_at zk0 rfl
set_option maxRecDepth 100000 in
theorem zT0_713 : TT 0 713 L S M Q = TR (z_st (.invokevirtual 68) 3 713 L S M) 0 716 M Q := T_at zk0 rfl
set_option maxRecDepth 100000 in
theorem zT0_716 : TT 0 716 L S M Q = TR (z_st (.if_icmp .eq 952) 3 716 L S M) 0 719 M Q := T_at zk0 rfl
set_option maxRecDepth 100000 in
theorem zT0_719 : TT 0 719 L S M Q = TR (z_st (.iconst 0) 1 719 L S M) 0 720 M Q := T_at zk0 rfl
set_option maxRecDepth 100000 in
theorem zT0_720 : TT 0 720 L S M Q = TR (z_st (.ret 1) 1 720 L S M) 0 721 M Q := T_at zk0 rfl
set_option maxRecDepth 100000 in
theorem zT0_721 : TT 0 721 L S M Q = TR (z_st (.aload 1) 1 721 L S M) 0 722 M Q := T_at zk0 rfl
set_option maxRecDepth 100000 in
theorem zT0_722 : TT 0 722 L S M Q = TR (z_st (.aload 0) 1 722 L S M) 0 723 M Q := T_at zk0 rfl
set_option maxRecDepth 100000 in
theorem zT0_723 : TT 0 723 L S M Q = TR (z_st (.iload 3) 1 723 L S M) 0 724 M Q := T_at zk0 rfl
set_option maxRecDepth 100000 in
theorem zT0_724 : TT 0 724 L S M Q = TR (z_st (.iconst 1) 1 724 L S M) 0 725 M Q := T_at zk0 rfl
set_option maxRecDepth 100000 in
theorem zT0_725 : TT 0 725 L S M Q = TR (z_st (.iadd) 1 725 L S M) 0 726 M Q := T_at zk0 rfl
set_option maxRecDepth 100000 in
theorem zT0_726 : TT 0 726 L S M Q = TR (z_st (.iaload) 1 726 L S M) 0 727 M Q := T_at zk0 rfl
set_option maxRecDepth 100000 in
theorem zT0_727 : TT 0 727 L S M Q = TR (z_st (.invokevirtual 105) 3 727 L S M) 0 730 M Q := T_at zk0 rfl
set_option maxRecDepth 100000 in
theorem zT0_730 : TT 0 730 L S M Q = TR (z_st (.aload 2) 1 730 L S M) 0 731 M Q := T_at zk0 rfl
set_option maxRecDepth 100000 in
theorem zT0_731 : TT 0 731 L S M Q = TR (z_st (.aload 0) 1 731 L S M) 0 732 M Q := T_at zk0 rfl
set_option maxRecDepth 100000 in
theorem zT0_732 : TT 0 732 L S M Q = TR (z_st (.iload 3) 1 732 L S M) 0 733 M Q := T_at zk0 rfl
set_option maxRecDepth 100000 in
theorem zT0_733 : TT 0 733 L S M Q = TR (z_st (.iconst 1) 1 733 L S M) 0 734 M Q := T_at zk0 rfl
set_option maxRecDepth 100000 in
theorem zT0_734 : TT 0 734 L S M Q = TR (z_st (.iadd) 1 734 L S M) 0 735 M Q := T_at zk0 rfl
set_option maxRecDepth 100000 in
theorem zT0_735 : TT 0 735 L S M Q = TR (z_st (.iaload) 1 735 L S M) 0 736 M Q := T_at zk0 rfl
set_option maxRecDepth 100000 in
theorem zT0_736 : TT 0 736 L S M Q = TR (z_st (.invokevirtual 69) 3 736 L S M) 0 739 M Q := T_at zk0 rfl
set_option maxRecDepth 100000 in
theorem zT0_739 : TT 0 739 L S M Q = TR (z_st (.if_icmp .eq 952) 3 739 L S M) 0 742 M Q := T_at zk0 rfl
set_option maxRecDepth 100000 in
theorem zT0_742 : TT 0 742 L S M Q = TR (z_st (.iconst 0) 1 742 L S M) 0 743 M Q := T_at zk0 rfl
set_option maxRecDepth 100000 in
theorem zT0_743 : TT 0 743 L S M Q = TR (z_st (.ret 1) 1 743 L S M) 0 744 M Q := T_at zk0 rfl
set_option maxRecDepth 100000 in
theorem zT0_744 : TT 0 744 L S M Q = TR (z_st (.aload 1) 1 744 L S M) 0 745 M Q := T_at zk0 rfl
set_option maxRecDepth 100000 in
theorem zT0_745 : TT 0 745 L S M Q = TR (z_st (.invokevirtual 106) 3 745 L S M) 0 748 M Q := T_at zk0 rfl
set_option maxRecDepth 100000 in
theorem zT0_748 : TT 0 748 L S M Q = TR (z_st (.aload 2) 1 748 L S M) 0 749 M Q := T_at zk0 rfl
set_option maxRecDepth 100000 in
theorem zT0_749 : TT 0 749 L S M Q = TR (z_st (.invokevirtual 70) 3 749 L S M) 0 752 M Q := T_at zk0 rfl
set_option maxRecDepth 100000 in
theorem zT0_752 : TT 0 752 L S M Q = TR (z_st (.if_icmp .eq 952) 3 752 L S M) 0 755 M Q := T_at zk0 rfl
set_option maxRecDepth 100000 in
theorem zT0_755 : TT 0 755 L S M Q = TR (z_st (.iconst 0) 1 755 L S M) 0 756 M Q := T_at zk0 rfl
set_option maxRecDepth 100000 in
theorem zT0_756 : TT 0 756 L S M Q = TR (z_st (.ret 1) 1 756 L S M) 0 757 M Q := T_at zk0 rfl
set_option maxRecDepth 100000 in
theorem zT0_757 : TT 0 757 L S M Q = TR (z_st (.aload 1) 1 757 L S M) 0 758 M Q := T_at zk0 rfl
set_option maxRecDepth 100000 in
theorem zT0_758 : TT 0 758 L S M Q = TR (z_st (.aload 0) 1 758 L S M) 0 759 M Q := T_at zk0 rfl
set_option maxRecDepth 100000 in
theorem zT0_759 : TT 0 759 L S M Q = TR (z_st (.iload 3) 1 759 L S M) 0 760 M Q := T_at zk0 rfl
set_option maxRecDepth 100000 in
theorem zT0_760 : TT 0 760 L S M Q = TR (z_st (.iconst 1) 1 760 L S M) 0 761 M Q := T_at zk0 rfl
set_option maxRecDepth 100000 in
theorem zT0_761 : TT 0 761 L S M Q = TR (z_st (.iadd) 1 761 L S M) 0 762 M Q := T_at zk0 rfl
set_option maxRecDepth 100000 in
theorem zT0_762 : TT 0 762 L S M Q = TR (z_st (.iaload) 1 762 L S M) 0 763 M Q := T_at zk0 rfl
set_option maxRecDepth 100000 in
theorem zT0_763 : TT 0 763 L S M Q = TR (z_st (.aload 0) 1 763 L S M) 0 764 M Q := T_at zk0 rfl
set_option maxRecDepth 100000 in
theorem zT0_764 : TT 0 764 L S M Q = TR (z_st (.iload 3) 1 764 L S M) 0 765 M Q := T_at zk0 rfl
set_option maxRecDepth 100000 in
theorem zT0_765 : TT 0 765 L S M Q = TR (z_st (.iconst 2) 1 765 L S M) 0 766 M Q := T_at zk0 rfl
set_option maxRecDepth 100000 in
theorem zT0_766 : TT 0 766 L S M Q = TR (z_st (.iadd) 1 766 L S M) 0 767 M Q := T_at zk0 rfl
set_option maxRecDepth 100000 in
theorem zT0_767 : TT 0 767 L S M Q = TR (z_st (.iaload) 1 767 L S M) 0 768 M Q := T_at zk0 rfl
set_option maxRecDepth 100000 in
theorem zT0_768 : TT 0 768 L S M Q = TR (z_st (.invokevirtual 107) 3 768 L S M) 0 771 M Q := T_at zk0 rfl
set_option maxRecDepth 100000 in
theorem zT0_771 : TT 0 771 L S M Q = TR (z_st (.aload 2) 1 771 L S M) 0 772 M Q := T_at zk0 rfl
set_option maxRecDepth 100000 in
theorem zT0_772 : TT 0 772 L S M Q = TR (z_st (.aload 0) 1 772 L S M) 0 773 M Q := T_at zk0 rfl
set_option maxRecDepth 100000 in
theorem zT0_773 : TT 0 773 L S M Q = TR (z_st (.iload 3) 1 773 L S M) 0 774 M Q := T_at zk0 rfl
set_option maxRecDepth 100000 in
theorem zT0_774 : TT 0 774 L S M Q = TR (z_st (.iconst 1) 1 774 L S M) 0 775 M Q := T_at zk0 rfl
set_option maxRecDepth 100000 in
theorem zT0_775 : TT 0 775 L S M Q = TR (z_st (.iadd) 1 775 L S M) 0 776 M Q := T_at zk0 rfl
set_option maxRecDepth 100000 in
theorem zT0_776 : TT 0 776 L S M Q = TR (z_st (.iaload) 1 776 L S M) 0 777 M Q := T_at zk0 rfl
set_option maxRecDepth 100000 in
theorem zT0_777 : TT 0 777 L S M Q = TR (z_st (.aload 0) 1 777 L S M) 0 778 M Q := T_at zk0 rfl
set_option maxRecDepth 100000 in
theorem zT0_778 : TT 0 778 L S M Q = TR (z_st (.iload 3) 1 778 L S M) 0 779 M Q := T_at zk0 rfl
set_option maxRecDepth 100000 in
theorem zT0_779 : TT 0 779 L S M Q = TR (z_st (.iconst 2) 1 779 L S M) 0 780 M Q := T_at zk0 rfl
set_option maxRecDepth 100000 in
theorem zT0_780 : TT 0 780 L S M Q = TR (z_st (.iadd) 1 780 L S M) 0 781 M Q := T_at zk0 rfl
set_option maxRecDepth 100000 in
theorem zT0_781 : TT 0 781 L S M Q = TR (z_st (.iaload) 1 781 L S M) 0 782 M Q := T_at zk0 rfl
set_option maxRecDepth 100000 in
theorem zT0_782 : TT 0 782 L S M Q = TR (z_st (.invokevirtual 72) 3 782 L S M) 0 785 M Q := T_at zk0 rfl
set_option maxRecDepth 100000 in
theorem zT0_785 : TT 0 785 L S M Q = TR (z_st (.if_icmp .eq 952) 3 785 L S M) 0 788 M Q := T_at zk0 rfl
set_option maxRecDepth 100000 in
theorem zT0_788 : TT 0 788 L S M Q = TR (z_st (.iconst 0) 1 788 L S M) 0 789 M Q := T_at zk0 rfl
set_option maxRecDepth 100000 in
theorem zT0_789 : TT 0 789 L S M Q = TR (z_st (.ret 1) 1 789 L S M) 0 790 M Q := T_at zk0 rfl
set_option maxRecDepth 100000 in
theorem zT0_790 : TT 0 790 L S M Q = TR (z_st (.aload 1) 1 790 L S M) 0 791 M Q := T_at zk0 rfl
set_option maxRecDepth 100000 in
theorem zT0_791 : TT 0 791 L S M Q = TR (z_st (.aload 0) 1 791 L S M) 0 792 M Q := T_at zk0 rfl
set_option maxRecDepth 100000 in
theorem zT0_792 : TT 0 792 L S M Q = TR (z_st (.iload 3) 1 792 L S M) 0 793 M Q := T_at zk0 rfl
set_option maxRecDepth 100000 in
theorem zT0_793 : TT 0 793 L S M Q = TR (z_st (.iconst 1) 1 793 L S M) 0 794 M Q := T_at zk0 rfl
set_option maxRecDepth 100000 in
theorem zT0_794 : TT 0 794 L S M Q = TR (z_st (.iadd) 1 794 L S M) 0 795 M Q := T_at zk0 rfl
set_option maxRecDepth 100000 in
theorem zT0_795 : TT 0 795 L S M Q = TR (z_st (.iaload) 1 795 L S M) 0 796 M Q := T_at zk0 rfl
set_option maxRecDepth 100000 in
theorem zT0_796 : TT 0 796 L S M Q = TR (z_st (.invokevirtual 108) 3 796 L S M) 0 799 M Q := T_at zk0 rfl
set_option maxRecDepth 100000 in
theorem zT0_799 : TT 0 799 L S M Q = TR (z_st (.aload 2) 1 799 L S M) 0 800 M Q := T_at zk0 rfl
set_option maxRecDepth 100000 in
theorem zT0_800 : TT 0 800 L S M Q = TR (z_st (.aload 0) 1 800 L S M) 0 801 M Q := T_at zk0 rfl
set_option maxRecDepth 100000 in
theorem zT0_801 : TT 0 801 L S M Q = TR (z_st (.iload 3) 1 801 L S M) 0 802 M Q := T_at zk0 rfl
set_option maxRecDepth 100000 in
theorem zT0_802 : TT 0 802 L S M Q = TR (z_st (.iconst 1) 1 802 L S M) 0 803 M Q := T_at zk0 rfl
set_option maxRecDepth 100000 in
theorem zT0_803 : TT 0 803 L S M Q = TR (z_st (.iadd) 1 803 L S M) 0 804 M Q := T_at zk0 rfl
set_option maxRecDepth 100000 in
theorem zT0_804 : TT 0 804 L S M Q = TR (z_st (.iaload) 1 804 L S M) 0 805 M Q := T_at zk0 rfl
set_option maxRecDepth 100000 in
theorem zT0_805 : TT 0 805 L S M Q = TR (z_st (.invokevirtual 74) 3 805 L S M) 0 808 M Q := T_at zk0 rfl
set_option maxRecDepth 100000 in
theorem zT0_808 : TT 0 808 L S M Q = TR (z_st (.if_icmp .eq 952) 3 808 L S M) 0 811 M Q := T_at zk0 rfl
set_option maxRecDepth 100000 in
theorem zT0_811 : TT 0 811 L S M Q = TR (z_st (.iconst 0) 1 811 L S M) 0 812 M Q := T_at zk0 rfl
set_option maxRecDepth 100000 in
theorem zT0_812 : TT 0 812 L S M Q = TR (z_st (.ret 1) 1 812 L S M) 0 813 M Q := T_at zk0 rfl
set_option maxRecDepth 100000 in
theorem zT0_813 : TT 0 813 L S M Q = TR (z_st (.aload 1) 1 813 L S M) 0 814 M Q := T_at zk0 rfl
set_option maxRecDepth 100000 in
theorem zT0_814 : TT 0 814 L S M Q = TR (z_st (.aload 0) 1 814 L S M) 0 815 M Q := T_at zk0 rfl
set_option maxRecDepth 100000 in
theorem zT0_815 : TT 0 815 L S M Q = TR (z_st (.iload 3) 1 815 L S M) 0 816 M Q := T_at zk0 rfl
set_option maxRecDepth 100000 in
theorem zT0_816 : TT 0 816 L S M Q = TR (z_st (.iconst 1) 1 816 L S M) 0 817 M Q := T_at zk0 rfl
set_option maxRecDepth 100000 in
theorem zT0_817 : TT 0 817 L S M Q = TR (z_st (.iadd) 1 817 L S M) 0 818 M Q := T_at zk0 rfl
set_option maxRecDepth 100000 in
theorem zT0_818 : TT 0 818 L S M Q = TR (z_st (.iaload) 1 818 L S M) 0 819 M Q := T_at zk0 rfl
set_option maxRecDepth 100000 in
theorem zT0_819 : TT 0 819 L S M Q = TR (z_st (.aload 0) 1 819 L S M) 0 820 M Q := T_at zk0 rfl
set_option maxRecDepth 100000 in
theorem zT0_820 : TT 0 820 L S M Q = TR (z_st (.iload 3) 1 820 L S M) 0 821 M Q := T_at zk0 rfl
set_option maxRecDepth 100000 in
theorem zT0_821 : TT 0 821 L S M Q = TR (z_st (.iconst 2) 1 821 L S M) 0 822 M Q := T_at zk0 rfl
set_option maxRecDepth 100000 in
theorem zT0_822 : TT 0 822 L S M Q = TR (z_st (.iadd) 1 822 L S M) 0 823 M Q := T_at zk0 rfl
set_option maxRecDepth 100000 in
theorem zT0_823 : TT 0 823 L S M Q = TR (z_st (.iaload) 1 823 L S M) 0 824 M Q := T_at zk0 rfl
set_option maxRecDepth 100000 in
theorem zT0_824 : TT 0 824 L S M Q = TR (z_st (.invokevirtual 109) 3 824 L S M) 0 827 M Q := T_at zk0 rfl
set_option maxRecDepth 100000 in
theorem zT0_827 : TT 0 827 L S M Q = TR (z_st (.aload 2) 1 827 L S M) 0 828 M Q := T_at zk0 rfl
set_option maxRecDepth 100000 in
theorem zT0_828 : TT 0 828 L S M Q = TR (z_st (.aload 0) 1 828 L S M) 0 829 M Q := T_at zk0 rfl
set_option maxRecDepth 100000 in
theorem zT0_829 : TT 0 829 L S M Q = TR (z_st (.iload 3) 1 829 L S M) 0 830 M Q := T_at zk0 rfl
set_option maxRecDepth 100000 in
theorem zT0_830 : TT 0 830 L S M Q = TR (z_st (.iconst 1) 1 830 L S M) 0 831 M Q := T_at zk0 rfl
set_option maxRecDepth 100000 in
theorem zT0_831 : TT 0 831 L S M Q = TR (z_st (.iadd) 1 831 L S M) 0 832 M Q := T_at zk0 rfl
set_option maxRecDepth 100000 in
theorem zT0_832 : TT 0 832 L S M Q = TR (z_st (.iaload) 1 832 L S M) 0 833 M Q := T_at zk0 rfl
set_option maxRecDepth 100000 in
theorem zT0_833 : TT 0 833 L S M Q = TR (z_st (.aload 0) 1 833 L S M) 0 834 M Q := T_at zk0 rfl
set_option maxRecDepth 100000 in
theorem zT0_834 : TT 0 834 L S M Q = TR (z_st (.iload 3) 1 834 L S M) 0 835 M Q := T_at zk0 rfl
set_option maxRecDepth 100000 in
theorem zT0_835 : TT 0 835 L S M Q = TR (z_st (.iconst 2) 1 835 L S M) 0 836 M Q := T_at zk0 rfl
set_option maxRecDepth 100000 in
theorem zT0_836 : TT 0 836 L S M Q = TR (z_st (.iadd) 1 836 L S M) 0 837 M Q := T_at zk0 rfl
set_option maxRecDepth 100000 in
theorem zT0_837 : TT 0 837 L S M Q = TR (z_st (.iaload) 1 837 L S M) 0 838 M Q := T_at zk0 rfl
set_option maxRecDepth 100000 in
theorem zT0_838 : TT 0 838 L S M Q = TR (z_st (.invokevirtual 75) 3 838 L S M) 0 841 M Q := T_at zk0 rfl
set_option maxRecDepth 100000 in
theorem zT0_841 : TT 0 841 L S M Q = TR (z_st (.if_icmp .eq 952) 3 841 L S M) 0 844 M Q := T_at zk0 rfl
set_option maxRecDepth 100000 in
theorem zT0_844 : TT 0 844 L S M Q = TR (z_st (.iconst 0) 1 844 L S M) 0 845 M Q := T_at zk0 rfl
set_option maxRecDepth 100000 in
theorem zT0_845 : TT 0 845 L S M Q = TR (z_st (.ret 1) 1 845 L S M) 0 846 M Q := T_at zk0 rfl
set_option maxRecDepth 100000 in
theorem zT0_846 : TT 0 846 L S M Q = TR (z_st (.aload 1) 1 846 L S M) 0 847 M Q := T_at zk0 rfl
set_option maxRecDepth 100000 in
theorem zT0_847 : TT 0 847 L S M Q = TR (z_st (.aload 0) 1 847 L S M) 0 848 M Q := T_at zk0 rfl
set_option maxRecDepth 100000 in
theorem zT0_848 : TT 0 848 L S M Q = TR (z_st (.iload 3) 1 848 L S M) 0 849 M Q := T_at zk0 rfl
set_option maxRecDepth 100000 in
theorem zT0_849 : TT 0 849 L S M Q = TR (z_st (.iconst 1) 1 849 L S M) 0 850 M Q := T_at zk0 rfl
set_option maxRecDepth 100000 in
theorem zT0_850 : TT 0 850 L S M Q = TR (z_st (.iadd) 1 850 L S M) 0 851 M Q := T_at zk0 rfl
set_option maxRecDepth 100000 in
theorem zT0_851 : TT 0 851 L S M Q = TR (z_st (.iaload) 1 851 L S M) 0 852 M Q := T_at zk0 rfl
set_option maxRecDepth 100000 in
theorem zT0_852 : TT 0 852 L S M Q = TR (z_st (.invokevirtual 110) 3 852 L S M) 0 855 M Q := T_at zk0 rfl
set_option maxRecDepth 100000 in
theorem zT0_855 : TT 0 855 L S M Q = TR (z_st (.aload 2) 1 855 L S M) 0 856 M Q := T_at zk0 rfl
set_option maxRecDepth 100000 in
theorem zT0_856 : TT 0 856 L S M Q = TR (z_st (.aload 0) 1 856 L S M) 0 857 M Q := T_at zk0 rfl
set_option maxRecDepth 100000 in
theorem zT0_857 : TT 0 857 L S M Q = TR (z_st (.iload 3) 1 857 L S M) 0 858 M Q := T_at zk0 rfl
set_option maxRecDepth 100000 in
theorem zT0_858 : TT 0 858 L S M Q = TR (z_st (.iconst 1) 1 858 L S M) 0 859 M Q := T_at zk0 rfl
set_option maxRecDepth 100000 in
theorem zT0_859 : TT 0 859 L S M Q = TR (z_st (.iadd) 1 859 L S M) 0 860 M Q := T_at zk0 rfl
set_option maxRecDepth 100000 in
theorem zT0_860 : TT 0 860 L S M Q = TR (z_st (.iaload) 1 860 L S M) 0 861 M Q := T_at zk0 rfl
set_option maxRecDepth 100000 in
theorem zT0_861 : TT 0 861 L S M Q = TR (z_st (.invokevirtual 76) 3 861 L S M) 0 864 M Q := T_at zk0 rfl
set_option maxRecDepth 100000 in
theorem zT0_864 : TT 0 864 L S M Q = TR (z_st (.if_icmp .eq 952) 3 864 L S M) 0 867 M Q := T_at zk0 rfl
set_option maxRecDepth 100000 in
theorem zT0_867 : TT 0 867 L S M Q = TR (z_st (.iconst 0) 1 867 L S M) 0 868 M Q := T_at zk0 rfl
set_option maxRecDepth 100000 in
theorem zT0_868 : TT 0 868 L S M Q = TR (z_st (.ret 1) 1 868 L S M) 0 869 M Q := T_at zk0 rfl
set_option maxRecDepth 100000 in
theorem zT0_869 : TT 0 869 L S M Q = TR (z_st (.aload 1) 1 869 L S M) 0 870 M Q := T_at zk0 rfl
set_option maxRecDepth 100000 in
theorem zT0_870 : TT 0 870 L S M Q = TR (z_st (.aload 0) 1 870 L S M) 0 871 M Q := T_at zk0 rfl
set_option maxRecDepth 100000 in
theorem zT0_871 : TT 0 871 L S M Q = TR (z_st (.iload 3) 1 871 L S M) 0 872 M Q := T_at zk0 rfl
set_option maxRecDepth 100000 in
theorem zT0_872 : TT 0 872 L S M Q = TR (z_st (.iconst 1) 1 872 L S M) 0 873 M Q := T_at zk0 rfl
set_option maxRecDepth 100000 in
theorem zT0_873 : TT 0 873 L S M Q = TR (z_st (.iadd) 1 873 L S M) 0 874 M Q := T_at zk0 rfl
set_option maxRecDepth 100000 in
theorem zT0_874 : TT 0 874 L S M Q = TR (z_st (.iaload) 1 874 L S M) 0 875 M Q := T_at zk0 rfl
set_option maxRecDepth 100000 in
theorem zT0_875 : TT 0 875 L S M Q = TR (z_st (.invokevirtual 111) 3 875 L S M) 0 878 M Q := T_at zk0 rfl
set_option maxRecDepth 100000 in
theorem zT0_878 : TT 0 878 L S M Q = TR (z_st (.aload 2) 1 878 L S M) 0 879 M Q := T_at zk0 rfl
set_option maxRecDepth 100000 in
theorem zT0_879 : TT 0 879 L S M Q = TR (z_st (.aload 0) 1 879 L S M) 0 880 M Q := T_at zk0 rfl
set_option maxRecDepth 100000 in
theorem zT0_880 : TT 0 880 L S M Q = TR (z_st (.iload 3) 1 880 L S M) 0 881 M Q := T_at zk0 rfl
set_option maxRecDepth 100000 in
theorem zT0_881 : TT 0 881 L S M Q = TR (z_st (.iconst 1) 1 881 L S M) 0 882 M Q := T_at zk0 rfl
set_option maxRecDepth 100000 in
theorem zT0_882 : TT 0 882 L S M Q = TR (z_st (.iadd) 1 882 L S M) 0 883 M Q := T_at zk0 rfl
set_option maxRecDepth 100000 in
theorem zT0_883 : TT 0 883 L S M Q = TR (z_st (.iaload) 1 883 L S M) 0 884 M Q := T_at zk0 rfl
set_option maxRecDepth 100000 in
theorem zT0_884 : TT 0 884 L S M Q = TR (z_st (.invokevirtual 77) 3 884 L S M) 0 887 M Q := T_at zk0 rfl
set_option maxRecDepth 100000 in
theorem zT0_887 : TT 0 887 L S M Q = TR (z_st (.if_icmp .eq 952) 3 887 L S M) 0 890 M Q := T_at zk0 rfl
set_option maxRecDepth 100000 in
theorem zT0_890 : TT 0 890 L S M Q = TR (z_st (.iconst 0) 1 890 L S M) 0 891 M Q := T_at zk0 rfl
set_option maxRecDepth 100000 in
theorem zT0_891 : TT 0 891 L S M Q = TR (z_st (.ret 1) 1 891 L S M) 0 892 M Q := T_at zk0 rfl
set_option maxRecDepth 100000 in
theorem zT0_892 : TT 0 892 L S M Q = TR (z_st (.aload 1) 1 892 L S M) 0 893 M Q := T_at zk0 rfl
set_option maxRecDepth 100000 in
theorem zT0_893 : TT 0 893 L S M Q = TR (z_st (.aload 0) 1 893 L S M) 0 894 M Q := T_at zk0 rfl
set_option maxRecDepth 100000 in
theorem zT0_894 : TT 0 894 L S M Q = TR (z_st (.iload 3) 1 894 L S M) 0 895 M Q := T_at zk0 rfl
set_option maxRecDepth 100000 in
theorem zT0_895 : TT 0 895 L S M Q = TR (z_st (.iconst 1) 1 895 L S M) 0 896 M Q := T_at zk0 rfl
set_option maxRecDepth 100000 in
theorem zT0_896 : TT 0 896 L S M Q = TR (z_st (.iadd) 1 896 L S M) 0 897 M Q := T_at zk0 rfl
set_option maxRecDepth 100000 in
theorem zT0_897 : TT 0 897 L S M Q = TR (z_st (.iaload) 1 897 L S M) 0 898 M Q := T_at zk0 rfl
set_option maxRecDepth 100000 in
theorem zT0_898 : TT 0 898 L S M Q = TR (z_st (.invokevirtual 112) 3 898 L S M) 0 901 M Q := T_at zk0 rfl
set_option maxRecDepth 100000 in
theorem zT0_901 : TT 0 901 L S M Q = TR (z_st (.aload 2) 1 901 L S M) 0 902 M Q := T_at zk0 rfl
set_option maxRecDepth 100000 in
theorem zT0_902 : TT 0 902 L S M Q = TR (z_st (.aload 0) 1 902 L S M) 0 903 M Q := T_at zk0 rfl
set_option maxRecDepth 100000 in
theorem zT0_903 : TT 0 903 L S M Q = TR (z_st (.iload 3) 1 903 L S M) 0 904 M Q := T_at zk0 rfl
set_option maxRecDepth 100000 in
theorem zT0_904 : TT 0 904 L S M Q = TR (z_st (.iconst 1) 1 904 L S M) 0 905 M Q := T_at zk0 rfl
set_option maxRecDepth 100000 in
theorem zT0_905 : TT 0 905 L S M Q = TR (z_st (.iadd) 1 905 L S M) 0 906 M Q := T_at zk0 rfl
set_option maxRecDepth 100000 in
theorem zT0_906 : TT 0 906 L S M Q = TR (z_st (.iaload) 1 906 L S M) 0 907 M Q := T_at zk0 rfl
set_option maxRecDepth 100000 in
theorem zT0_907 : TT 0 907 L S M Q = TR (z_st (.invokevirtual 78) 3 907 L S M) 0 910 M Q := T_at zk0 rfl
set_option maxRecDepth 100000 in
theorem zT0_910 : TT 0 910 L S M Q = TR (z_st (.if_icmp .eq 952) 3 910 L S M) 0 913 M Q := T_at zk0 rfl
set_option maxRecDepth 100000 in
theorem zT0_913 : TT 0 913 L S M Q = TR (z_st (.iconst 0) 1 913 L S M) 0 914 M Q := T_at zk0 rfl
set_option maxRecDepth 100000 in
theorem zT0_914 : TT 0 914 L S M Q = TR (z_st (.ret 1) 1 914 L S M) 0 915 M Q := T_at zk0 rfl
set_option maxRecDepth 100000 in
theorem zT0_915 : TT 0 915 L S M Q = TR (z_st (.aload 1) 1 915 L S M) 0 916 M Q := T_at zk0 rfl
set_option maxRecDepth 100000 in
theorem zT0_916 : TT 0 916 L S M Q = TR (z_st (.aload 0) 1 916 L S M) 0 917 M Q := T_at zk0 rfl
set_option maxRecDepth 100000 in
theorem zT0_917 : TT 0 917 L S M Q = TR (z_st (.iload 3) 1 917 L S M) 0 918 M Q := T_at zk0 rfl
set_option maxRecDepth 100000 in
theorem zT0_918 : TT 0 918 L S M Q = TR (z_st (.iconst 1) 1 918 L S M) 0 919 M Q := T_at zk0 rfl
set_option maxRecDepth 100000 in
theorem zT0_919 : TT 0 919 L S M Q = TR (z_st (.iadd) 1 919 L S M) 0 920 M Q := T_at zk0 rfl
set_option maxRecDepth 100000 in
theorem zT0_920 : TT 0 920 L S M Q = TR (z_st (.iaload) 1 920 L S M) 0 921 M Q := T_at zk0 rfl
set_option maxRecDepth 100000 in
theorem zT0_921 : TT 0 921 L S M Q = TR (z_st (.invokevirtual 113) 3 921 L S M) 0 924 M Q := T_at zk0 rfl
set_option maxRecDepth 100000 in
theorem zT0_924 : TT 0 924 L S M Q = TR (z_st (.aload 2) 1 924 L S M) 0 925 M Q := T_at zk0 rfl
set_option maxRecDepth 100000 in
theorem zT0_925 : TT 0 925 L S M Q = TR (z_st (.aload 0) 1 925 L S M) 0 926 M Q := T_at zk0 rfl
set_option maxRecDepth 100000 in
theorem zT0_926 : TT 0 926 L S M Q = TR (z_st (.iload 3) 1 926 L S M) 0 927 M Q := T_at zk0 rfl
set_option maxRecDepth 100000 in
theorem zT0_927 : TT 0 927 L S M Q = TR (z_st (.iconst 1) 1 927 L S M) 0 928 M Q := T_at zk0 rfl
set_option maxRecDepth 100000 in
theorem zT0_928 : TT 0 928 L S M Q = TR (z_st (.iadd) 1 928 L S M) 0 929 M Q := T_at zk0 rfl
set_option maxRecDepth 100000 in
theorem zT0_929 : TT 0 929 L S M Q = TR (z_st (.iaload) 1 929 L S M) 0 930 M Q := T_at zk0 rfl
set_option maxRecDepth 100000 in
theorem zT0_930 : TT 0 930 L S M Q = TR (z_st (.invokevirtual 80) 3 930 L S M) 0 933 M Q := T_at zk0 rfl
set_option maxRecDepth 100000 in
theorem zT0_933 : TT 0 933 L S M Q = TR (z_st (.if_icmp .eq 952) 3 933 L S M) 0 936 M Q := T_at zk0 rfl
set_option maxRecDepth 100000 in
theorem zT0_936 : TT 0 936 L S M Q = TR (z_st (.iconst 0) 1 936 L S M) 0 937 M Q := T_at zk0 rfl
set_option maxRecDepth 100000 in
theorem zT0_937 : TT 0 937 L S M Q = TR (z_st (.ret 1) 1 937 L S M) 0 938 M Q := T_at zk0 rfl
set_option maxRecDepth 100000 in
theorem zT0_938 : TT 0 938 L S M Q = TR (z_st (.aload 1) 1 938 L S M) 0 939 M Q := T_at zk0 rfl
set_option maxRecDepth 100000 in
theorem zT0_939 : TT 0 939 L S M Q = TR (z_st (.invokevirtual 114) 3 939 L S M) 0 942 M Q := T_at zk0 rfl
set_option maxRecDepth 100000 in
theorem zT0_942 : TT 0 942 L S M Q = TR (z_st (.aload 2) 1 942 L S M) 0 943 M Q := T_at zk0 rfl
set_option maxRecDepth 100000 in
theorem zT0_943 : TT 0 943 L S M Q = TR (z_st (.invokevirtual 82) 3 943 L S M) 0 946 M Q := T_at zk0 rfl
set_option maxRecDepth 100000 in
theorem zT0_946 : TT 0 946 L S M Q = TR (z_st (.lcmp) 1 946 L S M) 0 947 M Q := T_at zk0 rfl
set_option maxRecDepth 100000 in
theorem zT0_947 : TT 0 947 L S M Q = TR (z_st (.ifCond .eq 952) 3 947 L S M) 0 950 M Q := T_at zk0 rfl
set_option maxRecDepth 100000 in
theorem zT0_950 : TT 0 950 L S M Q = TR (z_st (.iconst 0) 1 950 L S M) 0 951 M Q := T_at zk0 rfl
set_option maxRecDepth 100000 in
theorem zT0_951 : TT 0 951 L S M Q = TR (z_st (.ret 1) 1 951 L S M) 0 952 M Q := T_at zk0 rfl
set_option maxRecDepth 100000 in
theorem zT0_952 : TT 0 952 L S M Q = TR (z_st (.iinc 3 6) 3 952 L S M) 0 955 M Q := T_at zk0 rfl
set_option maxRecDepth 100000 in
theorem zT0_955 : TT 0 955 L S M Q = TR (z_st (.goto 18) 3 955 L S M) 0 958 M Q := T_at zk0 rfl
set_option maxRecDepth 100000 in
theorem zT0_958 : TT 0 958 L S M Q = TR (z_st (.iconst 1) 1 958 L S M) 0 959 M Q := T_at zk0 rfl
set_option maxRecDepth 100000 in
theorem zT0_959 : TT 0 959 L S M Q = TR (z_st (.ret 1) 1 959 L S M) 0 960 M Q := T_at zk0 rfl
theorem zk1 : z_coL.getD 1 [] = zc1 := rfl
theorem zT1_0 : TT 1 0 L S M Q = TR (z_st (.aload 0) 1 0 L S M) 1 1 M Q := T_at zk1 rfl
theorem zT1_1 : TT 1 1 L S M Q = TR (z_st (.athrow) 3 1 L S M) 1 4 M Q := T_at zk1 rfl
theorem zT1_4 : TT 1 4 L S M Q = TR (z_st (.aload 0) 1 4 L S M) 1 5 M Q := T_at zk1 rfl
theorem zT1_5 : TT 1 5 L S M Q = TR (z_st (.iconst 440) 3 5 L S M) 1 8 M Q := T_at zk1 rfl
theorem zT1_8 : TT 1 8 L S M Q = TR (z_st (.newarray .int) 2 8 L S M) 1 10 M Q := T_at zk1 rfl
theorem zT1_10 : TT 1 10 L S M Q = TR (z_st (.fstore 71) 3 10 L S M) 1 13 M Q := T_at zk1 rfl
theorem zT1_13 : TT 1 13 L S M Q = TR (z_st (.aload 0) 1 13 L S M) 1 14 M Q := T_at zk1 rfl
theorem zT1_14 : TT 1 14 L S M Q = TR (z_st (.iconst 2) 1 14 L S M) 1 15 M Q := T_at zk1 rfl
theorem zT1_15 : TT 1 15 L S M Q = TR (z_st (.newarray .boolean) 2 15 L S M) 1 17 M Q := T_at zk1 rfl
theorem zT1_17 : TT 1 17 L S M Q = TR (z_st (.fstore 72) 3 17 L S M) 1 20 M Q := T_at zk1 rfl
theorem zT1_20 : TT 1 20 L S M Q = TR (z_st (.aload 0) 1 20 L S M) 1 21 M Q := T_at zk1 rfl
theorem zT1_21 : TT 1 21 L S M Q = TR (z_st (.iconst 200) 3 21 L S M) 1 24 M Q := T_at zk1 rfl
theorem zT1_24 : TT 1 24 L S M Q = TR (z_st (.newarray .int) 2 24 L S M) 1 26 M Q := T_at zk1 rfl
theorem zT1_26 : TT 1 26 L S M Q = TR (z_st (.fstore 73) 3 26 L S M) 1 29 M Q := T_at zk1 rfl
theorem zT1_29 : TT 1 29 L S M Q = TR (z_st (.aload 0) 1 29 L S M) 1 30 M Q := T_at zk1 rfl
theorem zT1_30 : TT 1 30 L S M Q = TR (z_st (.iconst 3) 1 30 L S M) 1 31 M Q := T_at zk1 rfl
theorem zT1_31 : TT 1 31 L S M Q = TR (z_st (.newarray .int) 2 31 L S M) 1 33 M Q := T_at zk1 rfl
theorem zT1_33 : TT 1 33 L S M Q = TR (z_st (.fstore 75) 3 33 L S M) 1 36 M Q := T_at zk1 rfl
theorem zT1_36 : TT 1 36 L S M Q = TR (z_st (.aload 0) 1 36 L S M) 1 37 M Q := T_at zk1 rfl
theorem zT1_37 : TT 1 37 L S M Q = TR (z_st (.iconst 50) 2 37 L S M) 1 39 M Q := T_at zk1 rfl
theorem zT1_39 : TT 1 39 L S M Q = TR (z_st (.newarray .int) 2 39 L S M) 1 41 M Q := T_at zk1 rfl
theorem zT1_41 : TT 1 41 L S M Q = TR (z_st (.fstore 76) 3 41 L S M) 1 44 M Q := T_at zk1 rfl
theorem zT1_44 : TT 1 44 L S M Q = TR (z_st (.aload 0) 1 44 L S M) 1 45 M Q := T_at zk1 rfl
theorem zT1_45 : TT 1 45 L S M Q = TR (z_st (.iconst 250) 3 45 L S M) 1 48 M Q := T_at zk1 rfl
theorem zT1_48 : TT 1 48 L S M Q = TR (z_st (.newarray .int) 2 48 L S M) 1 50 M Q := T_at zk1 rfl
theorem zT1_50 : TT 1 50 L S M Q = TR (z_st (.fstore 77) 3 50 L S M) 1 53 M Q := T_at zk1 rfl
theorem zT1_53 : TT 1 53 L S M Q = TR (z_st (.aload 0) 1 53 L S M) 1 54 M Q := T_at zk1 rfl
theorem zT1_54 : TT 1 54 L S M Q = TR (z_st (.iconst 4096) 3 54 L S M) 1 57 M Q := T_at zk1 rfl
theorem zT1_57 : TT 1 57 L S M Q = TR (z_st (.newarray .int) 2 57 L S M) 1 59 M Q := T_at zk1 rfl
theorem zT1_59 : TT 1 59 L S M Q = TR (z_st (.fstore 86) 3 59 L S M) 1 62 M Q := T_at zk1 rfl
theorem zT1_62 : TT 1 62 L S M Q = TR (z_st (.aload 0) 1 62 L S M) 1 63 M Q := T_at zk1 rfl
theorem zT1_63 : TT 1 63 L S M Q = TR (z_st (.iconst 4096) 3 63 L S M) 1 66 M Q := T_at zk1 rfl
theorem zT1_66 : TT 1 66 L S M Q = TR (z_st (.newarray .int) 2 66 L S M) 1 68 M Q := T_at zk1 rfl
theorem zT1_68 : TT 1 68 L S M Q = TR (z_st (.fstore 87) 3 68 L S M) 1 71 M Q := T_at zk1 rfl
theorem zT1_71 : TT 1 71 L S M Q = TR (z_st (.aload 0) 1 71 L S M) 1 72 M Q := T_at zk1 rfl
theorem zT1_72 : TT 1 72 L S M Q = TR (z_st (.iconst 3) 1 72 L S M) 1 73 M Q := T_at zk1 rfl
theorem zT1_73 : TT 1 73 L S M Q = TR (z_st (.newarray .int) 2 73 L S M) 1 75 M Q := T_at zk1 rfl
theorem zT1_75 : TT 1 75 L S M Q = TR (z_st (.fstore 88) 3 75 L S M) 1 78 M Q := T_at zk1 rfl
theorem zT1_78 : TT 1 78 L S M Q = TR (z_st (.aload 0) 1 78 L S M) 1 79 M Q := T_at zk1 rfl
theorem zT1_79 : TT 1 79 L S M Q = TR (z_st (.iconst 18) 2 79 L S M) 1 81 M Q := T_at zk1 rfl
theorem zT1_81 : TT 1 81 L S M Q = TR (z_st (.newarray .int) 2 81 L S M) 1 83 M Q := T_at zk1 rfl
theorem zT1_83 : TT 1 83 L S M Q = TR (z_st (.fstore 89) 3 83 L S M) 1 86 M Q := T_at zk1 rfl
theorem zT1_86 : TT 1 86 L S M Q = TR (z_st (.aload 0) 1 86 L S M) 1 87 M Q := T_at zk1 rfl
theorem zT1_87 : TT 1 87 L S M Q = TR (z_st (.iconst 18) 2 87 L S M) 1 89 M Q := T_at zk1 rfl
theorem zT1_89 : TT 1 89 L S M Q = TR (z_st (.newarray .int) 2 89 L S M) 1 91 M Q := T_at zk1 rfl
theorem zT1_91 : TT 1 91 L S M Q = TR (z_st (.fstore 91) 3 91 L S M) 1 94 M Q := T_at zk1 rfl
theorem zT1_94 : TT 1 94 L S M Q = TR (z_st (.aload 0) 1 94 L S M) 1 95 M Q := T_at zk1 rfl
theorem zT1_95 : TT 1 95 L S M Q = TR (z_st (.iconst 6) 2 95 L S M) 1 97 M Q := T_at zk1 rfl
theorem zT1_97 : TT 1 97 L S M Q = TR (z_st (.newarray .int) 2 97 L S M) 1 99 M Q := T_at zk1 rfl
theorem zT1_99 : TT 1 99 L S M Q = TR (z_st (.fstore 92) 3 99 L S M) 1 102 M Q := T_at zk1 rfl
theorem zT1_102 : TT 1 102 L S M Q = TR (z_st (.aload 0) 1 102 L S M) 1 103 M Q := T_at zk1 rfl
theorem zT1_103 : TT 1 103 L S M Q = TR (z_st (.iconst 18) 2 103 L S M) 1 105 M Q := T_at zk1 rfl
theorem zT1_105 : TT 1 105 L S M Q = TR (z_st (.newarray .int) 2 105 L S M) 1 107 M Q := T_at zk1 rfl
theorem zT1_107 : TT 1 107 L S M Q = TR (z_st (.fstore 93) 3 107 L S M) 1 110 M Q := T_at zk1 rfl
theorem zT1_110 : TT 1 110 L S M Q = TR (z_st (.aload 0) 1 110 L S M) 1 111 M Q := T_at zk1 rfl
theorem zT1_111 : TT 1 111 L S M Q = TR (z_st (.iconst 4096) 3 111 L S M) 1 114 M Q := T_at zk1 rfl
theorem zT1_114 : TT 1 114 L S M Q = TR (z_st (.newarray .int) 2 114 L S M) 1 116 M Q := T_at zk1 rfl
theorem zT1_116 : TT 1 116 L S M Q = TR (z_st (.fstore 94) 3 116 L S M) 1 119 M Q := T_at zk1 rfl
theorem zT1_119 : TT 1 119 L S M Q = TR (z_st (.aload 0) 1 119 L S M) 1 120 M Q := T_at zk1 rfl
theorem zT1_120 : TT 1 120 L S M Q = TR (z_st (.iconst 4096) 3 120 L S M) 1 123 M Q := T_at zk1 rfl
theorem zT1_123 : TT 1 123 L S M Q = TR (z_st (.newarray .int) 2 123 L S M) 1 125 M Q := T_at zk1 rfl
theorem zT1_125 : TT 1 125 L S M Q = TR (z_st (.fstore 95) 3 125 L S M) 1 128 M Q := T_at zk1 rfl
theorem zT1_128 : TT 1 128 L S M Q = TR (z_st (.aload 0) 1 128 L S M) 1 129 M Q := T_at zk1 rfl
theorem zT1_129 : TT 1 129 L S M Q = TR (z_st (.iconst 10) 2 129 L S M) 1 131 M Q := T_at zk1 rfl
theorem zT1_131 : TT 1 131 L S M Q = TR (z_st (.newarray .long) 2 131 L S M) 1 133 M Q := T_at zk1 rfl
theorem zT1_133 : TT 1 133 L S M Q = TR (z_st (.fstore 96) 3 133 L S M) 1 136 M Q := T_at zk1 rfl
theorem zT1_136 : TT 1 136 L S M Q = TR (z_st (.aload 0) 1 136 L S M) 1 137 M Q := T_at zk1 rfl
theorem zT1_137 : TT 1 137 L S M Q = TR (z_st (.iconst 10) 2 137 L S M) 1 139 M Q := T_at zk1 rfl
theorem zT1_139 : TT 1 139 L S M Q = TR (z_st (.newarray .long) 2 139 L S M) 1 141 M Q := T_at zk1 rfl
theorem zT1_141 : TT 1 141 L S M Q = TR (z_st (.dup) 1 141 L S M) 1 142 M Q := T_at zk1 rfl
theorem zT1_142 : TT 1 142 L S M Q = TR (z_st (.iconst 0) 1 142 L S M) 1 143 M Q := T_at zk1 rfl
theorem zT1_143 : TT 1 143 L S M Q = TR (z_st (.ldc2_w 1) 1 143 L S M) 1 144 M Q := T_at zk1 rfl
theorem zT1_144 : TT 1 144 L S M Q = TR (z_st (.lastore) 1 144 L S M) 1 145 M Q := T_at zk1 rfl
theorem zT1_145 : TT 1 145 L S M Q = TR (z_st (.dup) 1 145 L S M) 1 146 M Q := T_at zk1 rfl
theorem zT1_146 : TT 1 146 L S M Q = TR (z_st (.iconst 1) 1 146 L S M) 1 147 M Q := T_at zk1 rfl
theorem zT1_147 : TT 1 147 L S M Q = TR (z_st (.ldc2_w 0) 1 147 L S M) 1 148 M Q := T_at zk1 rfl
theorem zT1_148 : TT 1 148 L S M Q = TR (z_st (.lastore) 1 148 L S M) 1 149 M Q := T_at zk1 rfl
theorem zT1_149 : TT 1 149 L S M Q = TR (z_st (.dup) 1 149 L S M) 1 150 M Q := T_at zk1 rfl
theorem zT1_150 : TT 1 150 L S M Q = TR (z_st (.iconst 2) 1 150 L S M) 1 151 M Q := T_at zk1 rfl
theorem zT1_151 : TT 1 151 L S M Q = TR (z_st (.ldc2_w 0) 1 151 L S M) 1 152 M Q := T_at zk1 rfl
theorem zT1_152 : TT 1 152 L S M Q = TR (z_st (.lastore) 1 152 L S M) 1 153 M Q := T_at zk1 rfl
theorem zT1_153 : TT 1 153 L S M Q = TR (z_st (.dup) 1 153 L S M) 1 154 M Q := T_at zk1 rfl
theorem zT1_154 : TT 1 154 L S M Q = TR (z_st (.iconst 3) 1 154 L S M) 1 155 M Q := T_at zk1 rfl
theorem zT1_155 : TT 1 155 L S M Q = TR (z_st (.ldc2_w 0) 1 155 L S M) 1 156 M Q := T_at zk1 rfl
theorem zT1_156 : TT 1 156 L S M Q = TR (z_st (.lastore) 1 156 L S M) 1 157 M Q := T_at zk1 rfl
theorem zT1_157 : TT 1 157 L S M Q = TR (z_st (.dup) 1 157 L S M) 1 158 M Q := T_at zk1 rfl
theorem zT1_158 : TT 1 158 L S M Q = TR (z_st (.iconst 4) 1 158 L S M) 1 159 M Q := T_at zk1 rfl
theorem zT1_159 : TT 1 159 L S M Q = TR (z_st (.ldc2_w 0) 1 159 L S M) 1 160 M Q := T_at zk1 rfl
theorem zT1_160 : TT 1 160 L S M Q = TR (z_st (.lastore) 1 160 L S M) 1 161 M Q := T_at zk1 rfl
theorem zT1_161 : TT 1 161 L S M Q = TR (z_st (.dup) 1 161 L S M) 1 162 M Q := T_at zk1 rfl
theorem zT1_162 : TT 1 162 L S M Q = TR (z_st (.iconst 5) 1 162 L S M) 1 163 M Q := T_at zk1 rfl
set_option maxRecDepth 100000 in
theorem zT1_163 : TT 1 163 L S M Q = TR (z_st (.ldc2_w 0) 1 163 L S M) 1 164 M Q := T_at zk1 rfl
set_option maxRecDepth 100000 in
theorem zT1_164 : TT 1 164 L S M Q = TR (z_st (.lastore) 1 164 L S M) 1 165 M Q := T_at zk1 rfl
set_option maxRecDepth 100000 in
theorem zT1_165 : TT 1 165 L S M Q = TR (z_st (.dup) 1 165 L S M) 1 166 M Q := T_at zk1 rfl
set_option maxRecDepth 100000 in
theorem zT1_166 : TT 1 166 L S M Q = TR (z_st (.iconst 6) 2 166 L S M) 1 168 M Q := T_at zk1 rfl
set_option maxRecDepth 100000 in
theorem zT1_168 : TT 1 168 L S M Q = TR (z_st (.ldc2_w 0) 1 168 L S M) 1 169 M Q := T_at zk1 rfl
set_option maxRecDepth 100000 in
theorem zT1_169 : TT 1 169 L S M Q = TR (z_st (.lastore) 1 169 L S M) 1 170 M Q := T_at zk1 rfl
set_option maxRecDepth 100000 in
theorem zT1_170 : TT 1 170 L S M Q = TR (z_st (.dup) 1 170 L S M) 1 171 M Q := T_at zk1 rfl
set_option maxRecDepth 100000 in
theorem zT1_171 : TT 1 171 L S M Q = TR (z_st (.iconst 7) 2 171 L S M) 1 173 M Q := T_at zk1 rfl
set_option maxRecDepth 100000 in
theorem zT1_173 : TT 1 173 L S M Q = TR (z_st (.ldc2_w 0) 1 173 L S M) 1 174 M Q := T_at zk1 rfl
set_option maxRecDepth 100000 in
theorem zT1_174 : TT 1 174 L S M Q = TR (z_st (.lastore) 1 174 L S M) 1 175 M Q := T_at zk1 rfl
set_option maxRecDepth 100000 in
theorem zT1_175 : TT 1 175 L S M Q = TR (z_st (.dup) 1 175 L S M) 1 176 M Q := T_at zk1 rfl
set_option maxRecDepth 100000 in
theorem zT1_176 : TT 1 176 L S M Q = TR (z_st (.iconst 8) 2 176 L S M) 1 178 M Q := T_at zk1 rfl
set_option maxRecDepth 100000 in
theorem zT1_178 : TT 1 178 L S M Q = TR (z_st (.ldc2_w 0) 1 178 L S M) 1 179 M Q := T_at zk1 rfl
set_option maxRecDepth 100000 in
theorem zT1_179 : TT 1 179 L S M Q = TR (z_st (.lastore) 1 179 L S M) 1 180 M Q := T_at zk1 rfl
set_option maxRecDepth 100000 in
theorem zT1_180 : TT 1 180 L S M Q = TR (z_st (.dup) 1 180 L S M) 1 181 M Q := T_at zk1 rfl
set_option maxRecDepth 100000 in
theorem zT1_181 : TT 1 181 L S M Q = TR (z_st (.iconst 9) 2 181 L S M) 1 183 M Q := T_at zk1 rfl
set_option maxRecDepth 100000 in
theorem zT1_183 : TT 1 183 L S M Q = TR (z_st (.ldc2_w 0) 1 183 L S M) 1 184 M Q := T_at zk1 rfl
set_option maxRecDepth 100000 in
theorem zT1_184 : TT 1 184 L S M Q = TR (z_st (.lastore) 1 184 L S M) 1 185 M Q := T_at zk1 rfl
set_option maxRecDepth 100000 in
theorem zT1_185 : TT 1 185 L S M Q = TR (z_st (.fstore 98) 3 185 L S M) 1 188 M Q := T_at zk1 rfl
set_option maxRecDepth 100000 in
theorem zT1_188 : TT 1 188 L S M Q = TR (z_st (.aload 0) 1 188 L S M) 1 189 M Q := T_at zk1 rfl
set_option maxRecDepth 100000 in
theorem zT1_189 : TT 1 189 L S M Q = TR (z_st (.iconst 1) 1 189 L S M) 1 190 M Q := T_at zk1 rfl
set_option maxRecDepth 100000 in
theorem zT1_190 : TT 1 190 L S M Q = TR (z_st (.putfield 99) 3 190 L S M) 1 193 M Q := T_at zk1 rfl
set_option maxRecDepth 100000 in
theorem zT1_193 : TT 1 193 L S M Q = TR (z_st (.aload 0) 1 193 L S M) 1 194 M Q := T_at zk1 rfl
set_option maxRecDepth 100000 in
theorem zT1_194 : TT 1 194 L S M Q = TR (z_st (.fload 71) 3 194 L S M) 1 197 M Q := T_at zk1 rfl
set_option maxRecDepth 100000 in
theorem zT1_197 : TT 1 197 L S M Q = TR (z_st (.iconst 53) 2 197 L S M) 1 199 M Q := T_at zk1 rfl
set_option maxRecDepth 100000 in
theorem zT1_199 : TT 1 199 L S M Q = TR (z_st (.iconst 2) 1 199 L S M) 1 200 M Q := T_at zk1 rfl
set_option maxRecDepth 100000 in
theorem zT1_200 : TT 1 200 L S M Q = TR (z_st (.iastore) 1 200 L S M) 1 201 M Q := T_at zk1 rfl
set_option maxRecDepth 100000 in
theorem zT1_201 : TT 1 201 L S M Q = TR (z_st (.return_) 1 201 L S M) 1 202 M Q := T_at zk1 rfl
theorem zk2 : z_coL.getD 2 [] = zc2 := rfl
theorem zT2_0 : TT 2 0 L S M Q = TR (z_st (.lload 0) 1 0 L S M) 2 1 M Q := T_at zk2 rfl
theorem zT2_1 : TT 2 1 L S M Q = TR (z_st (.lload 2) 1 1 L S M) 2 2 M Q := T_at zk2 rfl
theorem zT2_2 : TT 2 2 L S M Q = TR (z_st (.lcmp) 1 2 L S M) 2 3 M Q := T_at zk2 rfl
theorem zT2_3 : TT 2 3 L S M Q = TR (z_st (.ifCond .lt 17) 3 3 L S M) 2 6 M Q := T_at zk2 rfl
theorem zT2_6 : TT 2 6 L S M Q = TR (z_st (.lload 0) 1 6 L S M) 2 7 M Q := T_at zk2 rfl
theorem zT2_7 : TT 2 7 L S M Q = TR (z_st (.lload 4) 2 7 L S M) 2 9 M Q := T_at zk2 rfl
theorem zT2_9 : TT 2 9 L S M Q = TR (z_st (.lcmp) 1 9 L S M) 2 10 M Q := T_at zk2 rfl
theorem zT2_10 : TT 2 10 L S M Q = TR (z_st (.ifCond .gt 17) 3 10 L S M) 2 13 M Q := T_at zk2 rfl
theorem zT2_13 : TT 2 13 L S M Q = TR (z_st (.iconst 1) 1 13 L S M) 2 14 M Q := T_at zk2 rfl
theorem zT2_14 : TT 2 14 L S M Q = TR (z_st (.goto 18) 3 14 L S M) 2 17 M Q := T_at zk2 rfl
theorem zT2_17 : TT 2 17 L S M Q = TR (z_st (.iconst 0) 1 17 L S M) 2 18 M Q := T_at zk2 rfl
theorem zT2_18 : TT 2 18 L S M Q = TR (z_st (.ret 1) 1 18 L S M) 2 19 M Q := T_at zk2 rfl
theorem zk3 : z_coL.getD 3 [] = zc3 := rfl
theorem zT3_0 : TT 3 0 L S M Q = TR (z_st (.iload 1) 1 0 L S M) 3 1 M Q := T_at zk3 rfl
theorem zT3_1 : TT 3 1 L S M Q = TR (z_st (.iconst (-2)) 2 1 L S M) 3 3 M Q := T_at zk3 rfl
theorem zT3_3 : TT 3 3 L S M Q = TR (z_st (.if_icmp .eq 18) 3 3 L S M) 3 6 M Q := T_at zk3 rfl
theorem zT3_6 : TT 3 6 L S M Q = TR (z_st (.iload 1) 1 6 L S M) 3 7 M Q := T_at zk3 rfl
theorem zT3_7 : TT 3 7 L S M Q = TR (z_st (.iconst (-3)) 2 7 L S M) 3 9 M Q := T_at zk3 rfl
theorem zT3_9 : TT 3 9 L S M Q = TR (z_st (.if_icmp .eq 18) 3 9 L S M) 3 12 M Q := T_at zk3 rfl
theorem zT3_12 : TT 3 12 L S M Q = TR (z_st (.iload 1) 1 12 L S M) 3 13 M Q := T_at zk3 rfl
theorem zT3_13 : TT 3 13 L S M Q = TR (z_st (.iconst (-4)) 2 13 L S M) 3 15 M Q := T_at zk3 rfl
theorem zT3_15 : TT 3 15 L S M Q = TR (z_st (.if_icmp .ne 31) 3 15 L S M) 3 18 M Q := T_at zk3 rfl
theorem zT3_18 : TT 3 18 L S M Q = TR (z_st (.aload 0) 1 18 L S M) 3 19 M Q := T_at zk3 rfl
theorem zT3_19 : TT 3 19 L S M Q = TR (z_st (.fload 75) 3 19 L S M) 3 22 M Q := T_at zk3 rfl
theorem zT3_22 : TT 3 22 L S M Q = TR (z_st (.iconst (-2)) 2 22 L S M) 3 24 M Q := T_at zk3 rfl
theorem zT3_24 : TT 3 24 L S M Q = TR (z_st (.iload 1) 1 24 L S M) 3 25 M Q := T_at zk3 rfl
theorem zT3_25 : TT 3 25 L S M Q = TR (z_st (.isub) 1 25 L S M) 3 26 M Q := T_at zk3 rfl
theorem zT3_26 : TT 3 26 L S M Q = TR (z_st (.dup2) 1 26 L S M) 3 27 M Q := T_at zk3 rfl
theorem zT3_27 : TT 3 27 L S M Q = TR (z_st (.iaload) 1 27 L S M) 3 28 M Q := T_at zk3 rfl
theorem zT3_28 : TT 3 28 L S M Q = TR (z_st (.iconst 1) 1 28 L S M) 3 29 M Q := T_at zk3 rfl
theorem zT3_29 : TT 3 29 L S M Q = TR (z_st (.iadd) 1 29 L S M) 3 30 M Q := T_at zk3 rfl
theorem zT3_30 : TT 3 30 L S M Q = TR (z_st (.iastore) 1 30 L S M) 3 31 M Q := T_at zk3 rfl
theorem zT3_31 : TT 3 31 L S M Q = TR (z_st (.iload 1) 1 31 L S M) 3 32 M Q := T_at zk3 rfl
theorem zT3_32 : TT 3 32 L S M Q = TR (z_st (.ret 0) 1 32 L S M) 3 33 M Q := T_at zk3 rfl
theorem zk4 : z_coL.getD 4 [] = zc4 := rfl
theorem zT4_0 : TT 4 0 L S M Q = TR (z_st (.aload 0) 1 0 L S M) 4 1 M Q := T_at zk4 rfl
theorem zT4_1 : TT 4 1 L S M Q = TR (z_st (.fload 75) 3 1 L S M) 4 4 M Q := T_at zk4 rfl
theorem zT4_4 : TT 4 4 L S M Q = TR (z_st (.iload 1) 1 4 L S M) 4 5 M Q := T_at zk4 rfl
theorem zT4_5 : TT 4 5 L S M Q = TR (z_st (.iconst (-10)) 2 5 L S M) 4 7 M Q := T_at zk4 rfl
theorem zT4_7 : TT 4 7 L S M Q = TR (z_st (.if_icmp .ne 14) 3 7 L S M) 4 10 M Q := T_at zk4 rfl
theorem zT4_10 : TT 4 10 L S M Q = TR (z_st (.iconst 0) 1 10 L S M) 4 11 M Q := T_at zk4 rfl
theorem zT4_11 : TT 4 11 L S M Q = TR (z_st (.goto 15) 3 11 L S M) 4 14 M Q := T_at zk4 rfl
theorem zT4_14 : TT 4 14 L S M Q = TR (z_st (.iconst 1) 1 14 L S M) 4 15 M Q := T_at zk4 rfl
theorem zT4_15 : TT 4 15 L S M Q = TR (z_st (.dup2) 1 15 L S M) 4 16 M Q := T_at zk4 rfl
theorem zT4_16 : TT 4 16 L S M Q = TR (z_st (.iaload) 1 16 L S M) 4 17 M Q := T_at zk4 rfl
theorem zT4_17 : TT 4 17 L S M Q = TR (z_st (.iconst 1) 1 17 L S M) 4 18 M Q := T_at zk4 rfl
theorem zT4_18 : TT 4 18 L S M Q = TR (z_st (.iadd) 1 18 L S M) 4 19 M Q := T_at zk4 rfl
theorem zT4_19 : TT 4 19 L S M Q = TR (z_st (.iastore) 1 19 L S M) 4 20 M Q := T_at zk4 rfl
theorem zT4_20 : TT 4 20 L S M Q = TR (z_st (.iload 1) 1 20 L S M) 4 21 M Q := T_at zk4 rfl
theorem zT4_21 : TT 4 21 L S M Q = TR (z_st (.ret 0) 1 21 L S M) 4 22 M Q := T_at zk4 rfl
theorem zk5 : z_coL.getD 5 [] = zc5 := rfl
theorem zT5_0 : TT 5 0 L S M Q = TR (z_st (.iload 0) 1 0 L S M) 5 1 M Q := T_at zk5 rfl
theorem zT5_1 : TT 5 1 L S M Q = TR (z_st (.iload 1) 1 1 L S M) 5 2 M Q := T_at zk5 rfl
theorem zT5_2 : TT 5 2 L S M Q = TR (z_st (.ishr) 1 2 L S M) 5 3 M Q := T_at zk5 rfl
theorem zT5_3 : TT 5 3 L S M Q = TR (z_st (.iconst 1) 1 3 L S M) 5 4 M Q := T_at zk5 rfl
theorem zT5_4 : TT 5 4 L S M Q = TR (z_st (.iand) 1 4 L S M) 5 5 M Q := T_at zk5 rfl
theorem zT5_5 : TT 5 5 L S M Q = TR (z_st (.iconst 1) 1 5 L S M) 5 6 M Q := T_at zk5 rfl
theorem zT5_6 : TT 5 6 L S M Q = TR (z_st (.if_icmp .ne 13) 3 6 L S M) 5 9 M Q := T_at zk5 rfl
theorem zT5_9 : TT 5 9 L S M Q = TR (z_st (.iconst 1) 1 9 L S M) 5 10 M Q := T_at zk5 rfl
theorem zT5_10 : TT 5 10 L S M Q = TR (z_st (.goto 14) 3 10 L S M) 5 13 M Q := T_at zk5 rfl
theorem zT5_13 : TT 5 13 L S M Q = TR (z_st (.iconst 0) 1 13 L S M) 5 14 M Q := T_at zk5 rfl
theorem zT5_14 : TT 5 14 L S M Q = TR (z_st (.ret 1) 1 14 L S M) 5 15 M Q := T_at zk5 rfl
theorem zk6 : z_coL.getD 6 [] = zc6 := rfl
theorem zT6_0 : TT 6 0 L S M Q = TR (z_st (.iload 0) 1 0 L S M) 6 1 M Q := T_at zk6 rfl
theorem zT6_1 : TT 6 1 L S M Q = TR (z_st (.iload 1) 1 1 L S M) 6 2 M Q := T_at zk6 rfl
theorem zT6_2 : TT 6 2 L S M Q = TR (z_st (.if_icmp .ge 9) 3 2 L S M) 6 5 M Q := T_at zk6 rfl
theorem zT6_5 : TT 6 5 L S M Q = TR (z_st (.iload 0) 1 5 L S M) 6 6 M Q := T_at zk6 rfl
theorem zT6_6 : TT 6 6 L S M Q = TR (z_st (.goto 10) 3 6 L S M) 6 9 M Q := T_at zk6 rfl
theorem zT6_9 : TT 6 9 L S M Q = TR (z_st (.iload 1) 1 9 L S M) 6 10 M Q := T_at zk6 rfl
theorem zT6_10 : TT 6 10 L S M Q = TR (z_st (.ret 0) 1 10 L S M) 6 11 M Q := T_at zk6 rfl
theorem zk7 : z_coL.getD 7 [] = zc7 := rfl
theorem zT7_0 : TT 7 0 L S M Q = TR (z_st (.iload 0) 1 0 L S M) 7 1 M Q := T_at zk7 rfl
theorem zT7_1 : TT 7 1 L S M Q = TR (z_st (.iload 1) 1 1 L S M) 7 2 M Q := T_at zk7 rfl
theorem zT7_2 : TT 7 2 L S M Q = TR (z_st (.if_icmp .le 9) 3 2 L S M) 7 5 M Q := T_at zk7 rfl
theorem zT7_5 : TT 7 5 L S M Q = TR (z_st (.iload 0) 1 5 L S M) 7 6 M Q := T_at zk7 rfl
theorem zT7_6 : TT 7 6 L S M Q = TR (z_st (.goto 10) 3 6 L S M) 7 9 M Q := T_at zk7 rfl
theorem zT7_9 : TT 7 9 L S M Q = TR (z_st (.iload 1) 1 9 L S M) 7 10 M Q := T_at zk7 rfl
theorem zT7_10 : TT 7 10 L S M Q = TR (z_st (.ret 0) 1 10 L S M) 7 11 M Q := T_at zk7 rfl
theorem zk8 : z_coL.getD 8 [] = zc8 := rfl
theorem zT8_0 : TT 8 0 L S M Q = TR (z_st (.iload 0) 1 0 L S M) 8 1 M Q := T_at zk8 rfl
theorem zT8_1 : TT 8 1 L S M Q = TR (z_st (.iconst 1) 1 1 L S M) 8 2 M Q := T_at zk8 rfl
theorem zT8_2 : TT 8 2 L S M Q = TR (z_st (.iand) 1 2 L S M) 8 3 M Q := T_at zk8 rfl
theorem zT8_3 : TT 8 3 L S M Q = TR (z_st (.iload 0) 1 3 L S M) 8 4 M Q := T_at zk8 rfl
theorem zT8_4 : TT 8 4 L S M Q = TR (z_st (.iconst 1) 1 4 L S M) 8 5 M Q := T_at zk8 rfl
theorem zT8_5 : TT 8 5 L S M Q = TR (z_st (.ishr) 1 5 L S M) 8 6 M Q := T_at zk8 rfl
theorem zT8_6 : TT 8 6 L S M Q = TR (z_st (.iconst 1) 1 6 L S M) 8 7 M Q := T_at zk8 rfl
theorem zT8_7 : TT 8 7 L S M Q = TR (z_st (.iand) 1 7 L S M) 8 8 M Q := T_at zk8 rfl
theorem zT8_8 : TT 8 8 L S M Q = TR (z_st (.iadd) 1 8 L S M) 8 9 M Q := T_at zk8 rfl
theorem zT8_9 : TT 8 9 L S M Q = TR (z_st (.iload 0) 1 9 L S M) 8 10 M Q := T_at zk8 rfl
theorem zT8_10 : TT 8 10 L S M Q = TR (z_st (.iconst 2) 1 10 L S M) 8 11 M Q := T_at zk8 rfl
theorem zT8_11 : TT 8 11 L S M Q = TR (z_st (.ishr) 1 11 L S M) 8 12 M Q := T_at zk8 rfl
theorem zT8_12 : TT 8 12 L S M Q = TR (z_st (.iconst 1) 1 12 L S M) 8 13 M Q := T_at zk8 rfl
theorem zT8_13 : TT 8 13 L S M Q = TR (z_st (.iand) 1 13 L S M) 8 14 M Q := T_at zk8 rfl
theorem zT8_14 : TT 8 14 L S M Q = TR (z_st (.iadd) 1 14 L S M) 8 15 M Q := T_at zk8 rfl
theorem zT8_15 : TT 8 15 L S M Q = TR (z_st (.ret 0) 1 15 L S M) 8 16 M Q := T_at zk8 rfl
theorem zk9 : z_coL.getD 9 [] = zc9 := rfl
theorem zT9_0 : TT 9 0 L S M Q = TR (z_st (.iconst 0) 1 0 L S M) 9 1 M Q := T_at zk9 rfl
theorem zT9_1 : TT 9 1 L S M Q = TR (z_st (.istore 3) 1 1 L S M) 9 2 M Q := T_at zk9 rfl
theorem zT9_2 : TT 9 2 L S M Q = TR (z_st (.iload 3) 1 2 L S M) 9 3 M Q := T_at zk9 rfl
theorem zT9_3 : TT 9 3 L S M Q = TR (z_st (.iconst 110) 2 3 L S M) 9 5 M Q := T_at zk9 rfl
theorem zT9_5 : TT 9 5 L S M Q = TR (z_st (.if_icmp .ge 30) 3 5 L S M) 9 8 M Q := T_at zk9 rfl
theorem zT9_8 : TT 9 8 L S M Q = TR (z_st (.aload 0) 1 8 L S M) 9 9 M Q := T_at zk9 rfl
theorem zT9_9 : TT 9 9 L S M Q = TR (z_st (.fload 71) 3 9 L S M) 9 12 M Q := T_at zk9 rfl
theorem zT9_12 : TT 9 12 L S M Q = TR (z_st (.iload 2) 1 12 L S M) 9 13 M Q := T_at zk9 rfl
theorem zT9_13 : TT 9 13 L S M Q = TR (z_st (.iload 3) 1 13 L S M) 9 14 M Q := T_at zk9 rfl
theorem zT9_14 : TT 9 14 L S M Q = TR (z_st (.iadd) 1 14 L S M) 9 15 M Q := T_at zk9 rfl
theorem zT9_15 : TT 9 15 L S M Q = TR (z_st (.aload 0) 1 15 L S M) 9 16 M Q := T_at zk9 rfl
theorem zT9_16 : TT 9 16 L S M Q = TR (z_st (.fload 71) 3 16 L S M) 9 19 M Q := T_at zk9 rfl
theorem zT9_19 : TT 9 19 L S M Q = TR (z_st (.iload 1) 1 19 L S M) 9 20 M Q := T_at zk9 rfl
theorem zT9_20 : TT 9 20 L S M Q = TR (z_st (.iload 3) 1 20 L S M) 9 21 M Q := T_at zk9 rfl
theorem zT9_21 : TT 9 21 L S M Q = TR (z_st (.iadd) 1 21 L S M) 9 22 M Q := T_at zk9 rfl
theorem zT9_22 : TT 9 22 L S M Q = TR (z_st (.iaload) 1 22 L S M) 9 23 M Q := T_at zk9 rfl
theorem zT9_23 : TT 9 23 L S M Q = TR (z_st (.iastore) 1 23 L S M) 9 24 M Q := T_at zk9 rfl
theorem zT9_24 : TT 9 24 L S M Q = TR (z_st (.iinc 3 1) 3 24 L S M) 9 27 M Q := T_at zk9 rfl
theorem zT9_27 : TT 9 27 L S M Q = TR (z_st (.goto 2) 3 27 L S M) 9 30 M Q := T_at zk9 rfl
theorem zT9_30 : TT 9 30 L S M Q = TR (z_st (.return_) 1 30 L S M) 9 31 M Q := T_at zk9 rfl
theorem zk10 : z_coL.getD 10 [] = zc10 := rfl
theorem zT10_0 : TT 10 0 L S M Q = TR (z_st (.iconst 0) 1 0 L S M) 10 1 M Q := T_at zk10 rfl
theorem zT10_1 : TT 10 1 L S M Q = TR (z_st (.istore 2) 1 1 L S M) 10 2 M Q := T_at zk10 rfl
theorem zT10_2 : TT 10 2 L S M Q = TR (z_st (.iload 2) 1 2 L S M) 10 3 M Q := T_at zk10 rfl
theorem zT10_3 : TT 10 3 L S M Q = TR (z_st (.iconst 3) 1 3 L S M) 10 4 M Q := T_at zk10 rfl
theorem zT10_4 : TT 10 4 L S M Q = TR (z_st (.if_icmp .ge 25) 3 4 L S M) 10 7 M Q := T_at zk10 rfl
theorem zT10_7 : TT 10 7 L S M Q = TR (z_st (.aload 0) 1 7 L S M) 10 8 M Q := T_at zk10 rfl
theorem zT10_8 : TT 10 8 L S M Q = TR (z_st (.fload 71) 3 8 L S M) 10 11 M Q := T_at zk10 rfl
theorem zT10_11 : TT 10 11 L S M Q = TR (z_st (.iload 1) 1 11 L S M) 10 12 M Q := T_at zk10 rfl
theorem zT10_12 : TT 10 12 L S M Q = TR (z_st (.iconst 55) 2 12 L S M) 10 14 M Q := T_at zk10 rfl
theorem zT10_14 : TT 10 14 L S M Q = TR (z_st (.iadd) 1 14 L S M) 10 15 M Q := T_at zk10 rfl
theorem zT10_15 : TT 10 15 L S M Q = TR (z_st (.iload 2) 1 15 L S M) 10 16 M Q := T_at zk10 rfl
theorem zT10_16 : TT 10 16 L S M Q = TR (z_st (.iadd) 1 16 L S M) 10 17 M Q := T_at zk10 rfl
theorem zT10_17 : TT 10 17 L S M Q = TR (z_st (.iconst 0) 1 17 L S M) 10 18 M Q := T_at zk10 rfl
theorem zT10_18 : TT 10 18 L S M Q = TR (z_st (.iastore) 1 18 L S M) 10 19 M Q := T_at zk10 rfl
theorem zT10_19 : TT 10 19 L S M Q = TR (z_st (.iinc 2 1) 3 19 L S M) 10 22 M Q := T_at zk10 rfl
theorem zT10_22 : TT 10 22 L S M Q = TR (z_st (.goto 2) 3 22 L S M) 10 25 M Q := T_at zk10 rfl
theorem zT10_25 : TT 10 25 L S M Q = TR (z_st (.aload 0) 1 25 L S M) 10 26 M Q := T_at zk10 rfl
theorem zT10_26 : TT 10 26 L S M Q = TR (z_st (.fload 71) 3 26 L S M) 10 29 M Q := T_at zk10 rfl
theorem zT10_29 : TT 10 29 L S M Q = TR (z_st (.iload 1) 1 29 L S M) 10 30 M Q := T_at zk10 rfl
theorem zT10_30 : TT 10 30 L S M Q = TR (z_st (.iconst 58) 2 30 L S M) 10 32 M Q := T_at zk10 rfl
theorem zT10_32 : TT 10 32 L S M Q = TR (z_st (.iadd) 1 32 L S M) 10 33 M Q := T_at zk10 rfl
theorem zT10_33 : TT 10 33 L S M Q = TR (z_st (.iconst 0) 1 33 L S M) 10 34 M Q := T_at zk10 rfl
theorem zT10_34 : TT 10 34 L S M Q = TR (z_st (.iastore) 1 34 L S M) 10 35 M Q := T_at zk10 rfl
theorem zT10_35 : TT 10 35 L S M Q = TR (z_st (.return_) 1 35 L S M) 10 36 M Q := T_at zk10 rfl
theorem zk11 : z_coL.getD 11 [] = zc11 := rfl
theorem zT11_0 : TT 11 0 L S M Q = TR (z_st (.iload 2) 1 0 L S M) 11 1 M Q := T_at zk11 rfl
theorem zT11_1 : TT 11 1 L S M Q = TR (z_st (.i2l) 1 1 L S M) 11 2 M Q := T_at zk11 rfl
theorem zT11_2 : TT 11 2 L S M Q = TR (z_st (.ldc2_w 0) 1 2 L S M) 11 3 M Q := T_at zk11 rfl
theorem zT11_3 : TT 11 3 L S M Q = TR (z_st (.ldc2_w 5) 3 3 L S M) 11 6 M Q := T_at zk11 rfl
theorem zT11_6 : TT 11 6 L S M Q = TR (z_st (.invokestatic 2) 3 6 L S M) 11 9 M Q := T_at zk11 rfl
theorem zT11_9 : TT 11 9 L S M Q = TR (z_st (.ifCond .eq 24) 3 9 L S M) 11 12 M Q := T_at zk11 rfl
theorem zT11_12 : TT 11 12 L S M Q = TR (z_st (.iload 3) 1 12 L S M) 11 13 M Q := T_at zk11 rfl
theorem zT11_13 : TT 11 13 L S M Q = TR (z_st (.i2l) 1 13 L S M) 11 14 M Q := T_at zk11 rfl
theorem zT11_14 : TT 11 14 L S M Q = TR (z_st (.ldc2_w 0) 1 14 L S M) 11 15 M Q := T_at zk11 rfl
theorem zT11_15 : TT 11 15 L S M Q = TR (z_st (.ldc2_w 9) 3 15 L S M) 11 18 M Q := T_at zk11 rfl
theorem zT11_18 : TT 11 18 L S M Q = TR (z_st (.invokestatic 2) 3 18 L S M) 11 21 M Q := T_at zk11 rfl
theorem zT11_21 : TT 11 21 L S M Q = TR (z_st (.ifCond .ne 27) 3 21 L S M) 11 24 M Q := T_at zk11 rfl
theorem zT11_24 : TT 11 24 L S M Q = TR (z_st (.iconst (-2)) 2 24 L S M) 11 26 M Q := T_at zk11 rfl
theorem zT11_26 : TT 11 26 L S M Q = TR (z_st (.ret 0) 1 26 L S M) 11 27 M Q := T_at zk11 rfl
theorem zT11_27 : TT 11 27 L S M Q = TR (z_st (.aload 0) 1 27 L S M) 11 28 M Q := T_at zk11 rfl
theorem zT11_28 : TT 11 28 L S M Q = TR (z_st (.fload 71) 3 28 L S M) 11 31 M Q := T_at zk11 rfl
theorem zT11_31 : TT 11 31 L S M Q = TR (z_st (.iload 1) 1 31 L S M) 11 32 M Q := T_at zk11 rfl
theorem zT11_32 : TT 11 32 L S M Q = TR (z_st (.iconst 0) 1 32 L S M) 11 33 M Q := T_at zk11 rfl
theorem zT11_33 : TT 11 33 L S M Q = TR (z_st (.iadd) 1 33 L S M) 11 34 M Q := T_at zk11 rfl
theorem zT11_34 : TT 11 34 L S M Q = TR (z_st (.iaload) 1 34 L S M) 11 35 M Q := T_at zk11 rfl
theorem zT11_35 : TT 11 35 L S M Q = TR (z_st (.istore 4) 2 35 L S M) 11 37 M Q := T_at zk11 rfl
theorem zT11_37 : TT 11 37 L S M Q = TR (z_st (.iload 4) 2 37 L S M) 11 39 M Q := T_at zk11 rfl
theorem zT11_39 : TT 11 39 L S M Q = TR (z_st (.iconst 6) 2 39 L S M) 11 41 M Q := T_at zk11 rfl
theorem zT11_41 : TT 11 41 L S M Q = TR (z_st (.if_icmp .ne 47) 3 41 L S M) 11 44 M Q := T_at zk11 rfl
theorem zT11_44 : TT 11 44 L S M Q = TR (z_st (.iconst (-4)) 2 44 L S M) 11 46 M Q := T_at zk11 rfl
theorem zT11_46 : TT 11 46 L S M Q = TR (z_st (.ret 0) 1 46 L S M) 11 47 M Q := T_at zk11 rfl
theorem zT11_47 : TT 11 47 L S M Q = TR (z_st (.aload 0) 1 47 L S M) 11 48 M Q := T_at zk11 rfl
theorem zT11_48 : TT 11 48 L S M Q = TR (z_st (.fload 71) 3 48 L S M) 11 51 M Q := T_at zk11 rfl
theorem zT11_51 : TT 11 51 L S M Q = TR (z_st (.iload 1) 1 51 L S M) 11 52 M Q := T_at zk11 rfl
theorem zT11_52 : TT 11 52 L S M Q = TR (z_st (.iconst 1) 1 52 L S M) 11 53 M Q := T_at zk11 rfl
theorem zT11_53 : TT 11 53 L S M Q = TR (z_st (.iadd) 1 53 L S M) 11 54 M Q := T_at zk11 rfl
theorem zT11_54 : TT 11 54 L S M Q = TR (z_st (.iload 4) 2 54 L S M) 11 56 M Q := T_at zk11 rfl
theorem zT11_56 : TT 11 56 L S M Q = TR (z_st (.iadd) 1 56 L S M) 11 57 M Q := T_at zk11 rfl
theorem zT11_57 : TT 11 57 L S M Q = TR (z_st (.iload 2) 1 57 L S M) 11 58 M Q := T_at zk11 rfl
theorem zT11_58 : TT 11 58 L S M Q = TR (z_st (.iastore) 1 58 L S M) 11 59 M Q := T_at zk11 rfl
theorem zT11_59 : TT 11 59 L S M Q = TR (z_st (.aload 0) 1 59 L S M) 11 60 M Q := T_at zk11 rfl
theorem zT11_60 : TT 11 60 L S M Q = TR (z_st (.fload 71) 3 60 L S M) 11 63 M Q := T_at zk11 rfl
theorem zT11_63 : TT 11 63 L S M Q = TR (z_st (.iload 1) 1 63 L S M) 11 64 M Q := T_at zk11 rfl
theorem zT11_64 : TT 11 64 L S M Q = TR (z_st (.iconst 7) 2 64 L S M) 11 66 M Q := T_at zk11 rfl
theorem zT11_66 : TT 11 66 L S M Q = TR (z_st (.iadd) 1 66 L S M) 11 67 M Q := T_at zk11 rfl
theorem zT11_67 : TT 11 67 L S M Q = TR (z_st (.iload 4) 2 67 L S M) 11 69 M Q := T_at zk11 rfl
theorem zT11_69 : TT 11 69 L S M Q = TR (z_st (.iadd) 1 69 L S M) 11 70 M Q := T_at zk11 rfl
theorem zT11_70 : TT 11 70 L S M Q = TR (z_st (.iload 3) 1 70 L S M) 11 71 M Q := T_at zk11 rfl
theorem zT11_71 : TT 11 71 L S M Q = TR (z_st (.iastore) 1 71 L S M) 11 72 M Q := T_at zk11 rfl
theorem zT11_72 : TT 11 72 L S M Q = TR (z_st (.aload 0) 1 72 L S M) 11 73 M Q := T_at zk11 rfl
theorem zT11_73 : TT 11 73 L S M Q = TR (z_st (.fload 71) 3 73 L S M) 11 76 M Q := T_at zk11 rfl
theorem zT11_76 : TT 11 76 L S M Q = TR (z_st (.iload 1) 1 76 L S M) 11 77 M Q := T_at zk11 rfl
theorem zT11_77 : TT 11 77 L S M Q = TR (z_st (.iconst 0) 1 77 L S M) 11 78 M Q := T_at zk11 rfl
theorem zT11_78 : TT 11 78 L S M Q = TR (z_st (.iadd) 1 78 L S M) 11 79 M Q := T_at zk11 rfl
theorem zT11_79 : TT 11 79 L S M Q = TR (z_st (.dup2) 1 79 L S M) 11 80 M Q := T_at zk11 rfl
theorem zT11_80 : TT 11 80 L S M Q = TR (z_st (.iaload) 1 80 L S M) 11 81 M Q := T_at zk11 rfl
theorem zT11_81 : TT 11 81 L S M Q = TR (z_st (.iconst 1) 1 81 L S M) 11 82 M Q := T_at zk11 rfl
theorem zT11_82 : TT 11 82 L S M Q = TR (z_st (.iadd) 1 82 L S M) 11 83 M Q := T_at zk11 rfl
theorem zT11_83 : TT 11 83 L S M Q = TR (z_st (.iastore) 1 83 L S M) 11 84 M Q := T_at zk11 rfl
theorem zT11_84 : TT 11 84 L S M Q = TR (z_st (.aload 0) 1 84 L S M) 11 85 M Q := T_at zk11 rfl
theorem zT11_85 : TT 11 85 L S M Q = TR (z_st (.iload 1) 1 85 L S M) 11 86 M Q := T_at zk11 rfl
theorem zT11_86 : TT 11 86 L S M Q = TR (z_st (.invokevirtual 10) 3 86 L S M) 11 89 M Q := T_at zk11 rfl
theorem zT11_89 : TT 11 89 L S M Q = TR (z_st (.iload 4) 2 89 L S M) 11 91 M Q := T_at zk11 rfl
theorem zT11_91 : TT 11 91 L S M Q = TR (z_st (.ret 0) 1 91 L S M) 11 92 M Q := T_at zk11 rfl
theorem zk12 : z_coL.getD 12 [] = zc12 := rfl
theorem zT12_0 : TT 12 0 L S M Q = TR (z_st (.aload 0) 1 0 L S M) 12 1 M Q := T_at zk12 rfl
theorem zT12_1 : TT 12 1 L S M Q = TR (z_st (.fload 71) 3 1 L S M) 12 4 M Q := T_at zk12 rfl
theorem zT12_4 : TT 12 4 L S M Q = TR (z_st (.iload 1) 1 4 L S M) 12 5 M Q := T_at zk12 rfl
theorem zT12_5 : TT 12 5 L S M Q = TR (z_st (.iconst 13) 2 5 L S M) 12 7 M Q := T_at zk12 rfl
theorem zT12_7 : TT 12 7 L S M Q = TR (z_st (.iadd) 1 7 L S M) 12 8 M Q := T_at zk12 rfl
theorem zT12_8 : TT 12 8 L S M Q = TR (z_st (.iaload) 1 8 L S M) 12 9 M Q := T_at zk12 rfl
theorem zT12_9 : TT 12 9 L S M Q = TR (z_st (.istore 2) 1 9 L S M) 12 10 M Q := T_at zk12 rfl
theorem zT12_10 : TT 12 10 L S M Q = TR (z_st (.iload 2) 1 10 L S M) 12 11 M Q := T_at zk12 rfl
theorem zT12_11 : TT 12 11 L S M Q = TR (z_st (.iconst 3) 1 11 L S M) 12 12 M Q := T_at zk12 rfl
theorem zT12_12 : TT 12 12 L S M Q = TR (z_st (.if_icmp .ne 18) 3 12 L S M) 12 15 M Q := T_at zk12 rfl
theorem zT12_15 : TT 12 15 L S M Q = TR (z_st (.iconst (-4)) 2 15 L S M) 12 17 M Q := T_at zk12 rfl
theorem zT12_17 : TT 12 17 L S M Q = TR (z_st (.ret 0) 1 17 L S M) 12 18 M Q := T_at zk12 rfl
theorem zT12_18 : TT 12 18 L S M Q = TR (z_st (.aload 0) 1 18 L S M) 12 19 M Q := T_at zk12 rfl
theorem zT12_19 : TT 12 19 L S M Q = TR (z_st (.fload 71) 3 19 L S M) 12 22 M Q := T_at zk12 rfl
theorem zT12_22 : TT 12 22 L S M Q = TR (z_st (.iload 1) 1 22 L S M) 12 23 M Q := T_at zk12 rfl
theorem zT12_23 : TT 12 23 L S M Q = TR (z_st (.iconst 14) 2 23 L S M) 12 25 M Q := T_at zk12 rfl
theorem zT12_25 : TT 12 25 L S M Q = TR (z_st (.iadd) 1 25 L S M) 12 26 M Q := T_at zk12 rfl
theorem zT12_26 : TT 12 26 L S M Q = TR (z_st (.iload 2) 1 26 L S M) 12 27 M Q := T_at zk12 rfl
theorem zT12_27 : TT 12 27 L S M Q = TR (z_st (.iadd) 1 27 L S M) 12 28 M Q := T_at zk12 rfl
theorem zT12_28 : TT 12 28 L S M Q = TR (z_st (.iconst 0) 1 28 L S M) 12 29 M Q := T_at zk12 rfl
theorem zT12_29 : TT 12 29 L S M Q = TR (z_st (.iastore) 1 29 L S M) 12 30 M Q := T_at zk12 rfl
theorem zT12_30 : TT 12 30 L S M Q = TR (z_st (.aload 0) 1 30 L S M) 12 31 M Q := T_at zk12 rfl
theorem zT12_31 : TT 12 31 L S M Q = TR (z_st (.fload 71) 3 31 L S M) 12 34 M Q := T_at zk12 rfl
theorem zT12_34 : TT 12 34 L S M Q = TR (z_st (.iload 1) 1 34 L S M) 12 35 M Q := T_at zk12 rfl
theorem zT12_35 : TT 12 35 L S M Q = TR (z_st (.iconst 13) 2 35 L S M) 12 37 M Q := T_at zk12 rfl
theorem zT12_37 : TT 12 37 L S M Q = TR (z_st (.iadd) 1 37 L S M) 12 38 M Q := T_at zk12 rfl
theorem zT12_38 : TT 12 38 L S M Q = TR (z_st (.dup2) 1 38 L S M) 12 39 M Q := T_at zk12 rfl
theorem zT12_39 : TT 12 39 L S M Q = TR (z_st (.iaload) 1 39 L S M) 12 40 M Q := T_at zk12 rfl
theorem zT12_40 : TT 12 40 L S M Q = TR (z_st (.iconst 1) 1 40 L S M) 12 41 M Q := T_at zk12 rfl
theorem zT12_41 : TT 12 41 L S M Q = TR (z_st (.iadd) 1 41 L S M) 12 42 M Q := T_at zk12 rfl
theorem zT12_42 : TT 12 42 L S M Q = TR (z_st (.iastore) 1 42 L S M) 12 43 M Q := T_at zk12 rfl
theorem zT12_43 : TT 12 43 L S M Q = TR (z_st (.aload 0) 1 43 L S M) 12 44 M Q := T_at zk12 rfl
theorem zT12_44 : TT 12 44 L S M Q = TR (z_st (.iload 1) 1 44 L S M) 12 45 M Q := T_at zk12 rfl
theorem zT12_45 : TT 12 45 L S M Q = TR (z_st (.invokevirtual 10) 3 45 L S M) 12 48 M Q := T_at zk12 rfl
theorem zT12_48 : TT 12 48 L S M Q = TR (z_st (.iload 2) 1 48 L S M) 12 49 M Q := T_at zk12 rfl
theorem zT12_49 : TT 12 49 L S M Q = TR (z_st (.ret 0) 1 49 L S M) 12 50 M Q := T_at zk12 rfl
theorem zk13 : z_coL.getD 13 [] = zc13 := rfl
theorem zT13_0 : TT 13 0 L S M Q = TR (z_st (.iload 2) 1 0 L S M) 13 1 M Q := T_at zk13 rfl
theorem zT13_1 : TT 13 1 L S M Q = TR (z_st (.i2l) 1 1 L S M) 13 2 M Q := T_at zk13 rfl
theorem zT13_2 : TT 13 2 L S M Q = TR (z_st (.ldc2_w 0) 1 2 L S M) 13 3 M Q := T_at zk13 rfl
theorem zT13_3 : TT 13 3 L S M Q = TR (z_st (.aload 0) 1 3 L S M) 13 4 M Q := T_at zk13 rfl
theorem zT13_4 : TT 13 4 L S M Q = TR (z_st (.fload 71) 3 4 L S M) 13 7 M Q := T_at zk13 rfl
theorem zT13_7 : TT 13 7 L S M Q = TR (z_st (.iload 1) 1 7 L S M) 13 8 M Q := T_at zk13 rfl
theorem zT13_8 : TT 13 8 L S M Q = TR (z_st (.iconst 13) 2 8 L S M) 13 10 M Q := T_at zk13 rfl
theorem zT13_10 : TT 13 10 L S M Q = TR (z_st (.iadd) 1 10 L S M) 13 11 M Q := T_at zk13 rfl
theorem zT13_11 : TT 13 11 L S M Q = TR (z_st (.iaload) 1 11 L S M) 13 12 M Q := T_at zk13 rfl
theorem zT13_12 : TT 13 12 L S M Q = TR (z_st (.iconst 1) 1 12 L S M) 13 13 M Q := T_at zk13 rfl
theorem zT13_13 : TT 13 13 L S M Q = TR (z_st (.isub) 1 13 L S M) 13 14 M Q := T_at zk13 rfl
theorem zT13_14 : TT 13 14 L S M Q = TR (z_st (.i2l) 1 14 L S M) 13 15 M Q := T_at zk13 rfl
theorem zT13_15 : TT 13 15 L S M Q = TR (z_st (.invokestatic 2) 3 15 L S M) 13 18 M Q := T_at zk13 rfl
theorem zT13_18 : TT 13 18 L S M Q = TR (z_st (.ifCond .eq 85) 3 18 L S M) 13 21 M Q := T_at zk13 rfl
theorem zT13_21 : TT 13 21 L S M Q = TR (z_st (.iload 3) 1 21 L S M) 13 22 M Q := T_at zk13 rfl
theorem zT13_22 : TT 13 22 L S M Q = TR (z_st (.i2l) 1 22 L S M) 13 23 M Q := T_at zk13 rfl
theorem zT13_23 : TT 13 23 L S M Q = TR (z_st (.ldc2_w 0) 1 23 L S M) 13 24 M Q := T_at zk13 rfl
theorem zT13_24 : TT 13 24 L S M Q = TR (z_st (.ldc2_w 3) 3 24 L S M) 13 27 M Q := T_at zk13 rfl
theorem zT13_27 : TT 13 27 L S M Q = TR (z_st (.invokestatic 2) 3 27 L S M) 13 30 M Q := T_at zk13 rfl
theorem zT13_30 : TT 13 30 L S M Q = TR (z_st (.ifCond .eq 85) 3 30 L S M) 13 33 M Q := T_at zk13 rfl
theorem zT13_33 : TT 13 33 L S M Q = TR (z_st (.iload 4) 2 33 L S M) 13 35 M Q := T_at zk13 rfl
theorem zT13_35 : TT 13 35 L S M Q = TR (z_st (.i2l) 1 35 L S M) 13 36 M Q := T_at zk13 rfl
theorem zT13_36 : TT 13 36 L S M Q = TR (z_st (.ldc2_w 0) 1 36 L S M) 13 37 M Q := T_at zk13 rfl
theorem zT13_37 : TT 13 37 L S M Q = TR (z_st (.ldc2_w 3) 3 37 L S M) 13 40 M Q := T_at zk13 rfl
theorem zT13_40 : TT 13 40 L S M Q = TR (z_st (.invokestatic 2) 3 40 L S M) 13 43 M Q := T_at zk13 rfl
theorem zT13_43 : TT 13 43 L S M Q = TR (z_st (.ifCond .eq 85) 3 43 L S M) 13 46 M Q := T_at zk13 rfl
theorem zT13_46 : TT 13 46 L S M Q = TR (z_st (.iload 3) 1 46 L S M) 13 47 M Q := T_at zk13 rfl
theorem zT13_47 : TT 13 47 L S M Q = TR (z_st (.iload 4) 2 47 L S M) 13 49 M Q := T_at zk13 rfl
theorem zT13_49 : TT 13 49 L S M Q = TR (z_st (.iadd) 1 49 L S M) 13 50 M Q := T_at zk13 rfl
theorem zT13_50 : TT 13 50 L S M Q = TR (z_st (.ifCond .le 85) 3 50 L S M) 13 53 M Q := T_at zk13 rfl
theorem zT13_53 : TT 13 53 L S M Q = TR (z_st (.iload 5) 2 53 L S M) 13 55 M Q := T_at zk13 rfl
theorem zT13_55 : TT 13 55 L S M Q = TR (z_st (.i2l) 1 55 L S M) 13 56 M Q := T_at zk13 rfl
theorem zT13_56 : TT 13 56 L S M Q = TR (z_st (.ldc2_w 0) 1 56 L S M) 13 57 M Q := T_at zk13 rfl
theorem zT13_57 : TT 13 57 L S M Q = TR (z_st (.iload 3) 1 57 L S M) 13 58 M Q := T_at zk13 rfl
theorem zT13_58 : TT 13 58 L S M Q = TR (z_st (.iload 4) 2 58 L S M) 13 60 M Q := T_at zk13 rfl
theorem zT13_60 : TT 13 60 L S M Q = TR (z_st (.iadd) 1 60 L S M) 13 61 M Q := T_at zk13 rfl
theorem zT13_61 : TT 13 61 L S M Q = TR (z_st (.i2l) 1 61 L S M) 13 62 M Q := T_at zk13 rfl
theorem zT13_62 : TT 13 62 L S M Q = TR (z_st (.invokestatic 2) 3 62 L S M) 13 65 M Q := T_at zk13 rfl
theorem zT13_65 : TT 13 65 L S M Q = TR (z_st (.ifCond .eq 85) 3 65 L S M) 13 68 M Q := T_at zk13 rfl
theorem zT13_68 : TT 13 68 L S M Q = TR (z_st (.iload 6) 2 68 L S M) 13 70 M Q := T_at zk13 rfl
theorem zT13_70 : TT 13 70 L S M Q = TR (z_st (.i2l) 1 70 L S M) 13 71 M Q := T_at zk13 rfl
theorem zT13_71 : TT 13 71 L S M Q = TR (z_st (.ldc2_w 1) 1 71 L S M) 13 72 M Q := T_at zk13 rfl
theorem zT13_72 : TT 13 72 L S M Q = TR (z_st (.ldc2_w 5) 3 72 L S M) 13 75 M Q := T_at zk13 rfl
theorem zT13_75 : TT 13 75 L S M Q = TR (z_st (.invokestatic 2) 3 75 L S M) 13 78 M Q := T_at zk13 rfl
theorem zT13_78 : TT 13 78 L S M Q = TR (z_st (.ifCond .eq 85) 3 78 L S M) 13 81 M Q := T_at zk13 rfl
theorem zT13_81 : TT 13 81 L S M Q = TR (z_st (.iconst 1) 1 81 L S M) 13 82 M Q := T_at zk13 rfl
theorem zT13_82 : TT 13 82 L S M Q = TR (z_st (.goto 86) 3 82 L S M) 13 85 M Q := T_at zk13 rfl
theorem zT13_85 : TT 13 85 L S M Q = TR (z_st (.iconst 0) 1 85 L S M) 13 86 M Q := T_at zk13 rfl
theorem zT13_86 : TT 13 86 L S M Q = TR (z_st (.istore 7) 2 86 L S M) 13 88 M Q := T_at zk13 rfl
theorem zT13_88 : TT 13 88 L S M Q = TR (z_st (.iload 7) 2 88 L S M) 13 90 M Q := T_at zk13 rfl
theorem zT13_90 : TT 13 90 L S M Q = TR (z_st (.ifCond .ne 96) 3 90 L S M) 13 93 M Q := T_at zk13 rfl
theorem zT13_93 : TT 13 93 L S M Q = TR (z_st (.iconst (-2)) 2 93 L S M) 13 95 M Q := T_at zk13 rfl
theorem zT13_95 : TT 13 95 L S M Q = TR (z_st (.ret 0) 1 95 L S M) 13 96 M Q := T_at zk13 rfl
theorem zT13_96 : TT 13 96 L S M Q = TR (z_st (.aload 0) 1 96 L S M) 13 97 M Q := T_at zk13 rfl
theorem zT13_97 : TT 13 97 L S M Q = TR (z_st (.fload 71) 3 97 L S M) 13 100 M Q := T_at zk13 rfl
theorem zT13_100 : TT 13 100 L S M Q = TR (z_st (.iload 1) 1 100 L S M) 13 101 M Q := T_at zk13 rfl
theorem zT13_101 : TT 13 101 L S M Q = TR (z_st (.iconst 14) 2 101 L S M) 13 103 M Q := T_at zk13 rfl
theorem zT13_103 : TT 13 103 L S M Q = TR (z_st (.iadd) 1 103 L S M) 13 104 M Q := T_at zk13 rfl
theorem zT13_104 : TT 13 104 L S M Q = TR (z_st (.iload 2) 1 104 L S M) 13 105 M Q := T_at zk13 rfl
theorem zT13_105 : TT 13 105 L S M Q = TR (z_st (.iadd) 1 105 L S M) 13 106 M Q := T_at zk13 rfl
theorem zT13_106 : TT 13 106 L S M Q = TR (z_st (.iaload) 1 106 L S M) 13 107 M Q := T_at zk13 rfl
theorem zT13_107 : TT 13 107 L S M Q = TR (z_st (.istore 8) 2 107 L S M) 13 109 M Q := T_at zk13 rfl
theorem zT13_109 : TT 13 109 L S M Q = TR (z_st (.iload 8) 2 109 L S M) 13 111 M Q := T_at zk13 rfl
theorem zT13_111 : TT 13 111 L S M Q = TR (z_st (.iconst 3) 1 111 L S M) 13 112 M Q := T_at zk13 rfl
theorem zT13_112 : TT 13 112 L S M Q = TR (z_st (.if_icmp .ne 118) 3 112 L S M) 13 115 M Q := T_at zk13 rfl
theorem zT13_115 : TT 13 115 L S M Q = TR (z_st (.iconst (-4)) 2 115 L S M) 13 117 M Q := T_at zk13 rfl
theorem zT13_117 : TT 13 117 L S M Q = TR (z_st (.ret 0) 1 117 L S M) 13 118 M Q := T_at zk13 rfl
theorem zT13_118 : TT 13 118 L S M Q = TR (z_st (.iload 1) 1 118 L S M) 13 119 M Q := T_at zk13 rfl
theorem zT13_119 : TT 13 119 L S M Q = TR (z_st (.iconst 17) 2 119 L S M) 13 121 M Q := T_at zk13 rfl
theorem zT13_121 : TT 13 121 L S M Q = TR (z_st (.iadd) 1 121 L S M) 13 122 M Q := T_at zk13 rfl
theorem zT13_122 : TT 13 122 L S M Q = TR (z_st (.iconst 12) 2 122 L S M) 13 124 M Q := T_at zk13 rfl
theorem zT13_124 : TT 13 124 L S M Q = TR (z_st (.iload 2) 1 124 L S M) 13 125 M Q := T_at zk13 rfl
theorem zT13_125 : TT 13 125 L S M Q = TR (z_st (.imul) 1 125 L S M) 13 126 M Q := T_at zk13 rfl
theorem zT13_126 : TT 13 126 L S M Q = TR (z_st (.iadd) 1 126 L S M) 13 127 M Q := T_at zk13 rfl
theorem zT13_127 : TT 13 127 L S M Q = TR (z_st (.iconst 4) 1 127 L S M) 13 128 M Q := T_at zk13 rfl
theorem zT13_128 : TT 13 128 L S M Q = TR (z_st (.iload 8) 2 128 L S M) 13 130 M Q := T_at zk13 rfl
theorem zT13_130 : TT 13 130 L S M Q = TR (z_st (.imul) 1 130 L S M) 13 131 M Q := T_at zk13 rfl
theorem zT13_131 : TT 13 131 L S M Q = TR (z_st (.iadd) 1 131 L S M) 13 132 M Q := T_at zk13 rfl
theorem zT13_132 : TT 13 132 L S M Q = TR (z_st (.istore 9) 2 132 L S M) 13 134 M Q := T_at zk13 rfl
theorem zT13_134 : TT 13 134 L S M Q = TR (z_st (.aload 0) 1 134 L S M) 13 135 M Q := T_at zk13 rfl
theorem zT13_135 : TT 13 135 L S M Q = TR (z_st (.fload 71) 3 135 L S M) 13 138 M Q := T_at zk13 rfl
theorem zT13_138 : TT 13 138 L S M Q = TR (z_st (.iload 9) 2 138 L S M) 13 140 M Q := T_at zk13 rfl
theorem zT13_140 : TT 13 140 L S M Q = TR (z_st (.iload 3) 1 140 L S M) 13 141 M Q := T_at zk13 rfl
theorem zT13_141 : TT 13 141 L S M Q = TR (z_st (.iastore) 1 141 L S M) 13 142 M Q := T_at zk13 rfl
theorem zT13_142 : TT 13 142 L S M Q = TR (z_st (.aload 0) 1 142 L S M) 13 143 M Q := T_at zk13 rfl
theorem zT13_143 : TT 13 143 L S M Q = TR (z_st (.fload 71) 3 143 L S M) 13 146 M Q := T_at zk13 rfl
theorem zT13_146 : TT 13 146 L S M Q = TR (z_st (.iload 9) 2 146 L S M) 13 148 M Q := T_at zk13 rfl
theorem zT13_148 : TT 13 148 L S M Q = TR (z_st (.iconst 1) 1 148 L S M) 13 149 M Q := T_at zk13 rfl
theorem zT13_149 : TT 13 149 L S M Q = TR (z_st (.iadd) 1 149 L S M) 13 150 M Q := T_at zk13 rfl
theorem zT13_150 : TT 13 150 L S M Q = TR (z_st (.iload 4) 2 150 L S M) 13 152 M Q := T_at zk13 rfl
theorem zT13_152 : TT 13 152 L S M Q = TR (z_st (.iastore) 1 152 L S M) 13 153 M Q := T_at zk13 rfl
set_option maxRecDepth 100000 in
theorem zT13_153 : TT 13 153 L S M Q = TR (z_st (.aload 0) 1 153 L S M) 13 154 M Q := T_at zk13 rfl
set_option maxRecDepth 100000 in
theorem zT13_154 : TT 13 154 L S M Q = TR (z_st (.fload 71) 3 154 L S M) 13 157 M Q := T_at zk13 rfl
set_option maxRecDepth 100000 in
theorem zT13_157 : TT 13 157 L S M Q = TR (z_st (.iload 9) 2 157 L S M) 13 159 M Q := T_at zk13 rfl
set_option maxRecDepth 100000 in
theorem zT13_159 : TT 13 159 L S M Q = TR (z_st (.iconst 2) 1 159 L S M) 13 160 M Q := T_at zk13 rfl
set_option maxRecDepth 100000 in
theorem zT13_160 : TT 13 160 L S M Q = TR (z_st (.iadd) 1 160 L S M) 13 161 M Q := T_at zk13 rfl
set_option maxRecDepth 100000 in
theorem zT13_161 : TT 13 161 L S M Q = TR (z_st (.iload 5) 2 161 L S M) 13 163 M Q := T_at zk13 rfl
set_option maxRecDepth 100000 in
theorem zT13_163 : TT 13 163 L S M Q = TR (z_st (.iastore) 1 163 L S M) 13 164 M Q := T_at zk13 rfl
set_option maxRecDepth 100000 in
theorem zT13_164 : TT 13 164 L S M Q = TR (z_st (.aload 0) 1 164 L S M) 13 165 M Q := T_at zk13 rfl
set_option maxRecDepth 100000 in
theorem zT13_165 : TT 13 165 L S M Q = TR (z_st (.fload 71) 3 165 L S M) 13 168 M Q := T_at zk13 rfl
set_option maxRecDepth 100000 in
theorem zT13_168 : TT 13 168 L S M Q = TR (z_st (.iload 9) 2 168 L S M) 13 170 M Q := T_at zk13 rfl
set_option maxRecDepth 100000 in
theorem zT13_170 : TT 13 170 L S M Q = TR (z_st (.iconst 3) 1 170 L S M) 13 171 M Q := T_at zk13 rfl
set_option maxRecDepth 100000 in
theorem zT13_171 : TT 13 171 L S M Q = TR (z_st (.iadd) 1 171 L S M) 13 172 M Q := T_at zk13 rfl
set_option maxRecDepth 100000 in
theorem zT13_172 : TT 13 172 L S M Q = TR (z_st (.iload 6) 2 172 L S M) 13 174 M Q := T_at zk13 rfl
set_option maxRecDepth 100000 in
theorem zT13_174 : TT 13 174 L S M Q = TR (z_st (.iastore) 1 174 L S M) 13 175 M Q := T_at zk13 rfl
set_option maxRecDepth 100000 in
theorem zT13_175 : TT 13 175 L S M Q = TR (z_st (.aload 0) 1 175 L S M) 13 176 M Q := T_at zk13 rfl
set_option maxRecDepth 100000 in
theorem zT13_176 : TT 13 176 L S M Q = TR (z_st (.fload 71) 3 176 L S M) 13 179 M Q := T_at zk13 rfl
set_option maxRecDepth 100000 in
theorem zT13_179 : TT 13 179 L S M Q = TR (z_st (.iload 1) 1 179 L S M) 13 180 M Q := T_at zk13 rfl
set_option maxRecDepth 100000 in
theorem zT13_180 : TT 13 180 L S M Q = TR (z_st (.iconst 14) 2 180 L S M) 13 182 M Q := T_at zk13 rfl
set_option maxRecDepth 100000 in
theorem zT13_182 : TT 13 182 L S M Q = TR (z_st (.iadd) 1 182 L S M) 13 183 M Q := T_at zk13 rfl
set_option maxRecDepth 100000 in
theorem zT13_183 : TT 13 183 L S M Q = TR (z_st (.iload 2) 1 183 L S M) 13 184 M Q := T_at zk13 rfl
set_option maxRecDepth 100000 in
theorem zT13_184 : TT 13 184 L S M Q = TR (z_st (.iadd) 1 184 L S M) 13 185 M Q := T_at zk13 rfl
set_option maxRecDepth 100000 in
theorem zT13_185 : TT 13 185 L S M Q = TR (z_st (.dup2) 1 185 L S M) 13 186 M Q := T_at zk13 rfl
set_option maxRecDepth 100000 in
theorem zT13_186 : TT 13 186 L S M Q = TR (z_st (.iaload) 1 186 L S M) 13 187 M Q := T_at zk13 rfl
set_option maxRecDepth 100000 in
theorem zT13_187 : TT 13 187 L S M Q = TR (z_st (.iconst 1) 1 187 L S M) 13 188 M Q := T_at zk13 rfl
set_option maxRecDepth 100000 in
theorem zT13_188 : TT 13 188 L S M Q = TR (z_st (.iadd) 1 188 L S M) 13 189 M Q := T_at zk13 rfl
set_option maxRecDepth 100000 in
theorem zT13_189 : TT 13 189 L S M Q = TR (z_st (.iastore) 1 189 L S M) 13 190 M Q := T_at zk13 rfl
set_option maxRecDepth 100000 in
theorem zT13_190 : TT 13 190 L S M Q = TR (z_st (.aload 0) 1 190 L S M) 13 191 M Q := T_at zk13 rfl
set_option maxRecDepth 100000 in
theorem zT13_191 : TT 13 191 L S M Q = TR (z_st (.iload 1) 1 191 L S M) 13 192 M Q := T_at zk13 rfl
set_option maxRecDepth 100000 in
theorem zT13_192 : TT 13 192 L S M Q = TR (z_st (.invokevirtual 10) 3 192 L S M) 13 195 M Q := T_at zk13 rfl
set_option maxRecDepth 100000 in
theorem zT13_195 : TT 13 195 L S M Q = TR (z_st (.iload 8) 2 195 L S M) 13 197 M Q := T_at zk13 rfl
set_option maxRecDepth 100000 in
theorem zT13_197 : TT 13 197 L S M Q = TR (z_st (.ret 0) 1 197 L S M) 13 198 M Q := T_at zk13 rfl
theorem zk14 : z_coL.getD 14 [] = zc14 := rfl
theorem zT14_0 : TT 14 0 L S M Q = TR (z_st (.iload 2) 1 0 L S M) 14 1 M Q := T_at zk14 rfl
theorem zT14_1 : TT 14 1 L S M Q = TR (z_st (.i2l) 1 1 L S M) 14 2 M Q := T_at zk14 rfl
theorem zT14_2 : TT 14 2 L S M Q = TR (z_st (.ldc2_w 0) 1 2 L S M) 14 3 M Q := T_at zk14 rfl
theorem zT14_3 : TT 14 3 L S M Q = TR (z_st (.ldc2_w 6) 3 3 L S M) 14 6 M Q := T_at zk14 rfl
theorem zT14_6 : TT 14 6 L S M Q = TR (z_st (.invokestatic 2) 3 6 L S M) 14 9 M Q := T_at zk14 rfl
theorem zT14_9 : TT 14 9 L S M Q = TR (z_st (.ifCond .ne 15) 3 9 L S M) 14 12 M Q := T_at zk14 rfl
theorem zT14_12 : TT 14 12 L S M Q = TR (z_st (.iconst (-2)) 2 12 L S M) 14 14 M Q := T_at zk14 rfl
theorem zT14_14 : TT 14 14 L S M Q = TR (z_st (.ret 0) 1 14 L S M) 14 15 M Q := T_at zk14 rfl
theorem zT14_15 : TT 14 15 L S M Q = TR (z_st (.aload 0) 1 15 L S M) 14 16 M Q := T_at zk14 rfl
theorem zT14_16 : TT 14 16 L S M Q = TR (z_st (.fload 71) 3 16 L S M) 14 19 M Q := T_at zk14 rfl
theorem zT14_19 : TT 14 19 L S M Q = TR (z_st (.iload 1) 1 19 L S M) 14 20 M Q := T_at zk14 rfl
theorem zT14_20 : TT 14 20 L S M Q = TR (z_st (.iconst 53) 2 20 L S M) 14 22 M Q := T_at zk14 rfl
theorem zT14_22 : TT 14 22 L S M Q = TR (z_st (.iadd) 1 22 L S M) 14 23 M Q := T_at zk14 rfl
theorem zT14_23 : TT 14 23 L S M Q = TR (z_st (.iaload) 1 23 L S M) 14 24 M Q := T_at zk14 rfl
theorem zT14_24 : TT 14 24 L S M Q = TR (z_st (.istore 3) 1 24 L S M) 14 25 M Q := T_at zk14 rfl
theorem zT14_25 : TT 14 25 L S M Q = TR (z_st (.aload 0) 1 25 L S M) 14 26 M Q := T_at zk14 rfl
theorem zT14_26 : TT 14 26 L S M Q = TR (z_st (.fload 71) 3 26 L S M) 14 29 M Q := T_at zk14 rfl
theorem zT14_29 : TT 14 29 L S M Q = TR (z_st (.iload 1) 1 29 L S M) 14 30 M Q := T_at zk14 rfl
theorem zT14_30 : TT 14 30 L S M Q = TR (z_st (.iconst 53) 2 30 L S M) 14 32 M Q := T_at zk14 rfl
theorem zT14_32 : TT 14 32 L S M Q = TR (z_st (.iadd) 1 32 L S M) 14 33 M Q := T_at zk14 rfl
theorem zT14_33 : TT 14 33 L S M Q = TR (z_st (.iload 2) 1 33 L S M) 14 34 M Q := T_at zk14 rfl
theorem zT14_34 : TT 14 34 L S M Q = TR (z_st (.iastore) 1 34 L S M) 14 35 M Q := T_at zk14 rfl
theorem zT14_35 : TT 14 35 L S M Q = TR (z_st (.aload 0) 1 35 L S M) 14 36 M Q := T_at zk14 rfl
theorem zT14_36 : TT 14 36 L S M Q = TR (z_st (.iload 1) 1 36 L S M) 14 37 M Q := T_at zk14 rfl
theorem zT14_37 : TT 14 37 L S M Q = TR (z_st (.invokevirtual 10) 3 37 L S M) 14 40 M Q := T_at zk14 rfl
theorem zT14_40 : TT 14 40 L S M Q = TR (z_st (.iload 3) 1 40 L S M) 14 41 M Q := T_at zk14 rfl
theorem zT14_41 : TT 14 41 L S M Q = TR (z_st (.ret 0) 1 41 L S M) 14 42 M Q := T_at zk14 rfl
theorem zk15 : z_coL.getD 15 [] = zc15 := rfl
theorem zT15_0 : TT 15 0 L S M Q = TR (z_st (.iload 2) 1 0 L S M) 15 1 M Q := T_at zk15 rfl
theorem zT15_1 : TT 15 1 L S M Q = TR (z_st (.ifCond .eq 8) 3 1 L S M) 15 4 M Q := T_at zk15 rfl
theorem zT15_4 : TT 15 4 L S M Q = TR (z_st (.iconst 1) 1 4 L S M) 15 5 M Q := T_at zk15 rfl
theorem zT15_5 : TT 15 5 L S M Q = TR (z_st (.goto 9) 3 5 L S M) 15 8 M Q := T_at zk15 rfl
theorem zT15_8 : TT 15 8 L S M Q = TR (z_st (.iconst 0) 1 8 L S M) 15 9 M Q := T_at zk15 rfl
theorem zT15_9 : TT 15 9 L S M Q = TR (z_st (.istore 3) 1 9 L S M) 15 10 M Q := T_at zk15 rfl
theorem zT15_10 : TT 15 10 L S M Q = TR (z_st (.aload 0) 1 10 L S M) 15 11 M Q := T_at zk15 rfl
theorem zT15_11 : TT 15 11 L S M Q = TR (z_st (.fload 71) 3 11 L S M) 15 14 M Q := T_at zk15 rfl
theorem zT15_14 : TT 15 14 L S M Q = TR (z_st (.iload 1) 1 14 L S M) 15 15 M Q := T_at zk15 rfl
theorem zT15_15 : TT 15 15 L S M Q = TR (z_st (.iconst 54) 2 15 L S M) 15 17 M Q := T_at zk15 rfl
theorem zT15_17 : TT 15 17 L S M Q = TR (z_st (.iadd) 1 17 L S M) 15 18 M Q := T_at zk15 rfl
theorem zT15_18 : TT 15 18 L S M Q = TR (z_st (.iaload) 1 18 L S M) 15 19 M Q := T_at zk15 rfl
theorem zT15_19 : TT 15 19 L S M Q = TR (z_st (.iload 3) 1 19 L S M) 15 20 M Q := T_at zk15 rfl
theorem zT15_20 : TT 15 20 L S M Q = TR (z_st (.if_icmp .ne 26) 3 20 L S M) 15 23 M Q := T_at zk15 rfl
theorem zT15_23 : TT 15 23 L S M Q = TR (z_st (.iconst (-3)) 2 23 L S M) 15 25 M Q := T_at zk15 rfl
theorem zT15_25 : TT 15 25 L S M Q = TR (z_st (.ret 0) 1 25 L S M) 15 26 M Q := T_at zk15 rfl
theorem zT15_26 : TT 15 26 L S M Q = TR (z_st (.aload 0) 1 26 L S M) 15 27 M Q := T_at zk15 rfl
theorem zT15_27 : TT 15 27 L S M Q = TR (z_st (.fload 71) 3 27 L S M) 15 30 M Q := T_at zk15 rfl
theorem zT15_30 : TT 15 30 L S M Q = TR (z_st (.iload 1) 1 30 L S M) 15 31 M Q := T_at zk15 rfl
theorem zT15_31 : TT 15 31 L S M Q = TR (z_st (.iconst 54) 2 31 L S M) 15 33 M Q := T_at zk15 rfl
theorem zT15_33 : TT 15 33 L S M Q = TR (z_st (.iadd) 1 33 L S M) 15 34 M Q := T_at zk15 rfl
theorem zT15_34 : TT 15 34 L S M Q = TR (z_st (.iload 3) 1 34 L S M) 15 35 M Q := T_at zk15 rfl
theorem zT15_35 : TT 15 35 L S M Q = TR (z_st (.iastore) 1 35 L S M) 15 36 M Q := T_at zk15 rfl
theorem zT15_36 : TT 15 36 L S M Q = TR (z_st (.aload 0) 1 36 L S M) 15 37 M Q := T_at zk15 rfl
theorem zT15_37 : TT 15 37 L S M Q = TR (z_st (.iload 1) 1 37 L S M) 15 38 M Q := T_at zk15 rfl
theorem zT15_38 : TT 15 38 L S M Q = TR (z_st (.invokevirtual 10) 3 38 L S M) 15 41 M Q := T_at zk15 rfl
theorem zT15_41 : TT 15 41 L S M Q = TR (z_st (.iconst 1) 1 41 L S M) 15 42 M Q := T_at zk15 rfl
theorem zT15_42 : TT 15 42 L S M Q = TR (z_st (.ret 0) 1 42 L S M) 15 43 M Q := T_at zk15 rfl
theorem zk16 : z_coL.getD 16 [] = zc16 := rfl
theorem zT16_0 : TT 16 0 L S M Q = TR (z_st (.aload 0) 1 0 L S M) 16 1 M Q := T_at zk16 rfl
theorem zT16_1 : TT 16 1 L S M Q = TR (z_st (.aload 0) 1 1 L S M) 16 2 M Q := T_at zk16 rfl
theorem zT16_2 : TT 16 2 L S M Q = TR (z_st (.iconst 0) 1 2 L S M) 16 3 M Q := T_at zk16 rfl
theorem zT16_3 : TT 16 3 L S M Q = TR (z_st (.iload 1) 1 3 L S M) 16 4 M Q := T_at zk16 rfl
theorem zT16_4 : TT 16 4 L S M Q = TR (z_st (.iload 2) 1 4 L S M) 16 5 M Q := T_at zk16 rfl
theorem zT16_5 : TT 16 5 L S M Q = TR (z_st (.invokevirtual 11) 3 5 L S M) 16 8 M Q := T_at zk16 rfl
theorem zT16_8 : TT 16 8 L S M Q = TR (z_st (.invokevirtual 3) 3 8 L S M) 16 11 M Q := T_at zk16 rfl
theorem zT16_11 : TT 16 11 L S M Q = TR (z_st (.ret 0) 1 11 L S M) 16 12 M Q := T_at zk16 rfl
theorem zk17 : z_coL.getD 17 [] = zc17 := rfl
theorem zT17_0 : TT 17 0 L S M Q = TR (z_st (.aload 0) 1 0 L S M) 17 1 M Q := T_at zk17 rfl
theorem zT17_1 : TT 17 1 L S M Q = TR (z_st (.aload 0) 1 1 L S M) 17 2 M Q := T_at zk17 rfl
theorem zT17_2 : TT 17 2 L S M Q = TR (z_st (.iconst 0) 1 2 L S M) 17 3 M Q := T_at zk17 rfl
theorem zT17_3 : TT 17 3 L S M Q = TR (z_st (.invokevirtual 12) 3 3 L S M) 17 6 M Q := T_at zk17 rfl
theorem zT17_6 : TT 17 6 L S M Q = TR (z_st (.invokevirtual 3) 3 6 L S M) 17 9 M Q := T_at zk17 rfl
theorem zT17_9 : TT 17 9 L S M Q = TR (z_st (.ret 0) 1 9 L S M) 17 10 M Q := T_at zk17 rfl
theorem zk18 : z_coL.getD 18 [] = zc18 := rfl
theorem zT18_0 : TT 18 0 L S M Q = TR (z_st (.aload 0) 1 0 L S M) 18 1 M Q := T_at zk18 rfl
theorem zT18_1 : TT 18 1 L S M Q = TR (z_st (.aload 0) 1 1 L S M) 18 2 M Q := T_at zk18 rfl
theorem zT18_2 : TT 18 2 L S M Q = TR (z_st (.iconst 0) 1 2 L S M) 18 3 M Q := T_at zk18 rfl
theorem zT18_3 : TT 18 3 L S M Q = TR (z_st (.iload 1) 1 3 L S M) 18 4 M Q := T_at zk18 rfl
theorem zT18_4 : TT 18 4 L S M Q = TR (z_st (.iload 2) 1 4 L S M) 18 5 M Q := T_at zk18 rfl
theorem zT18_5 : TT 18 5 L S M Q = TR (z_st (.iload 3) 1 5 L S M) 18 6 M Q := T_at zk18 rfl
theorem zT18_6 : TT 18 6 L S M Q = TR (z_st (.iload 4) 2 6 L S M) 18 8 M Q := T_at zk18 rfl
theorem zT18_8 : TT 18 8 L S M Q = TR (z_st (.iload 5) 2 8 L S M) 18 10 M Q := T_at zk18 rfl
theorem zT18_10 : TT 18 10 L S M Q = TR (z_st (.invokevirtual 13) 3 10 L S M) 18 13 M Q := T_at zk18 rfl
theorem zT18_13 : TT 18 13 L S M Q = TR (z_st (.invokevirtual 3) 3 13 L S M) 18 16 M Q := T_at zk18 rfl
theorem zT18_16 : TT 18 16 L S M Q = TR (z_st (.ret 0) 1 16 L S M) 18 17 M Q := T_at zk18 rfl
theorem zk19 : z_coL.getD 19 [] = zc19 := rfl
theorem zT19_0 : TT 19 0 L S M Q = TR (z_st (.aload 0) 1 0 L S M) 19 1 M Q := T_at zk19 rfl
theorem zT19_1 : TT 19 1 L S M Q = TR (z_st (.aload 0) 1 1 L S M) 19 2 M Q := T_at zk19 rfl
theorem zT19_2 : TT 19 2 L S M Q = TR (z_st (.iconst 0) 1 2 L S M) 19 3 M Q := T_at zk19 rfl
theorem zT19_3 : TT 19 3 L S M Q = TR (z_st (.iload 1) 1 3 L S M) 19 4 M Q := T_at zk19 rfl
theorem zT19_4 : TT 19 4 L S M Q = TR (z_st (.invokevirtual 14) 3 4 L S M) 19 7 M Q := T_at zk19 rfl
theorem zT19_7 : TT 19 7 L S M Q = TR (z_st (.invokevirtual 3) 3 7 L S M) 19 10 M Q := T_at zk19 rfl
theorem zT19_10 : TT 19 10 L S M Q = TR (z_st (.ret 0) 1 10 L S M) 19 11 M Q := T_at zk19 rfl
theorem zk20 : z_coL.getD 20 [] = zc20 := rfl
theorem zT20_0 : TT 20 0 L S M Q = TR (z_st (.aload 0) 1 0 L S M) 20 1 M Q := T_at zk20 rfl
theorem zT20_1 : TT 20 1 L S M Q = TR (z_st (.aload 0) 1 1 L S M) 20 2 M Q := T_at zk20 rfl
theorem zT20_2 : TT 20 2 L S M Q = TR (z_st (.iconst 0) 1 2 L S M) 20 3 M Q := T_at zk20 rfl
theorem zT20_3 : TT 20 3 L S M Q = TR (z_st (.iload 1) 1 3 L S M) 20 4 M Q := T_at zk20 rfl
theorem zT20_4 : TT 20 4 L S M Q = TR (z_st (.invokevirtual 15) 3 4 L S M) 20 7 M Q := T_at zk20 rfl
theorem zT20_7 : TT 20 7 L S M Q = TR (z_st (.invokevirtual 3) 3 7 L S M) 20 10 M Q := T_at zk20 rfl
theorem zT20_10 : TT 20 10 L S M Q = TR (z_st (.ret 0) 1 10 L S M) 20 11 M Q := T_at zk20 rfl
theorem zk21 : z_coL.getD 21 [] = zc21 := rfl
theorem zT21_0 : TT 21 0 L S M Q = TR (z_st (.iload 1) 1 0 L S M) 21 1 M Q := T_at zk21 rfl
theorem zT21_1 : TT 21 1 L S M Q = TR (z_st (.i2l) 1 1 L S M) 21 2 M Q := T_at zk21 rfl
theorem zT21_2 : TT 21 2 L S M Q = TR (z_st (.ldc2_w 0) 1 2 L S M) 21 3 M Q := T_at zk21 rfl
theorem zT21_3 : TT 21 3 L S M Q = TR (z_st (.aload 0) 1 3 L S M) 21 4 M Q := T_at zk21 rfl
theorem zT21_4 : TT 21 4 L S M Q = TR (z_st (.fload 71) 3 4 L S M) 21 7 M Q := T_at zk21 rfl
theorem zT21_7 : TT 21 7 L S M Q = TR (z_st (.iconst 0) 1 7 L S M) 21 8 M Q := T_at zk21 rfl
theorem zT21_8 : TT 21 8 L S M Q = TR (z_st (.iaload) 1 8 L S M) 21 9 M Q := T_at zk21 rfl
theorem zT21_9 : TT 21 9 L S M Q = TR (z_st (.iconst 1) 1 9 L S M) 21 10 M Q := T_at zk21 rfl
theorem zT21_10 : TT 21 10 L S M Q = TR (z_st (.isub) 1 10 L S M) 21 11 M Q := T_at zk21 rfl
theorem zT21_11 : TT 21 11 L S M Q = TR (z_st (.i2l) 1 11 L S M) 21 12 M Q := T_at zk21 rfl
theorem zT21_12 : TT 21 12 L S M Q = TR (z_st (.invokestatic 2) 3 12 L S M) 21 15 M Q := T_at zk21 rfl
theorem zT21_15 : TT 21 15 L S M Q = TR (z_st (.ret 1) 1 15 L S M) 21 16 M Q := T_at zk21 rfl
theorem zk22 : z_coL.getD 22 [] = zc22 := rfl
theorem zT22_0 : TT 22 0 L S M Q = TR (z_st (.iload 1) 1 0 L S M) 22 1 M Q := T_at zk22 rfl
theorem zT22_1 : TT 22 1 L S M Q = TR (z_st (.i2l) 1 1 L S M) 22 2 M Q := T_at zk22 rfl
theorem zT22_2 : TT 22 2 L S M Q = TR (z_st (.ldc2_w 0) 1 2 L S M) 22 3 M Q := T_at zk22 rfl
theorem zT22_3 : TT 22 3 L S M Q = TR (z_st (.aload 0) 1 3 L S M) 22 4 M Q := T_at zk22 rfl
theorem zT22_4 : TT 22 4 L S M Q = TR (z_st (.fload 71) 3 4 L S M) 22 7 M Q := T_at zk22 rfl
theorem zT22_7 : TT 22 7 L S M Q = TR (z_st (.iconst 13) 2 7 L S M) 22 9 M Q := T_at zk22 rfl
theorem zT22_9 : TT 22 9 L S M Q = TR (z_st (.iaload) 1 9 L S M) 22 10 M Q := T_at zk22 rfl
theorem zT22_10 : TT 22 10 L S M Q = TR (z_st (.iconst 1) 1 10 L S M) 22 11 M Q := T_at zk22 rfl
theorem zT22_11 : TT 22 11 L S M Q = TR (z_st (.isub) 1 11 L S M) 22 12 M Q := T_at zk22 rfl
theorem zT22_12 : TT 22 12 L S M Q = TR (z_st (.i2l) 1 12 L S M) 22 13 M Q := T_at zk22 rfl
theorem zT22_13 : TT 22 13 L S M Q = TR (z_st (.invokestatic 2) 3 13 L S M) 22 16 M Q := T_at zk22 rfl
theorem zT22_16 : TT 22 16 L S M Q = TR (z_st (.ret 1) 1 16 L S M) 22 17 M Q := T_at zk22 rfl
theorem zk23 : z_coL.getD 23 [] = zc23 := rfl
theorem zT23_0 : TT 23 0 L S M Q = TR (z_st (.iload 0) 1 0 L S M) 23 1 M Q := T_at zk23 rfl
theorem zT23_1 : TT 23 1 L S M Q = TR (z_st (.tableswitch 56 1 5 #[36, 38, 41, 43, 53]) 35 1 L S M) 23 36 M Q := T_at zk23 rfl
theorem zT23_36 : TT 23 36 L S M Q = TR (z_st (.iconst 2) 1 36 L S M) 23 37 M Q := T_at zk23 rfl
theorem zT23_37 : TT 23 37 L S M Q = TR (z_st (.ret 0) 1 37 L S M) 23 38 M Q := T_at zk23 rfl
theorem zT23_38 : TT 23 38 L S M Q = TR (z_st (.iconst 9) 2 38 L S M) 23 40 M Q := T_at zk23 rfl
theorem zT23_40 : TT 23 40 L S M Q = TR (z_st (.ret 0) 1 40 L S M) 23 41 M Q := T_at zk23 rfl
theorem zT23_41 : TT 23 41 L S M Q = TR (z_st (.iconst 3) 1 41 L S M) 23 42 M Q := T_at zk23 rfl
theorem zT23_42 : TT 23 42 L S M Q = TR (z_st (.ret 0) 1 42 L S M) 23 43 M Q := T_at zk23 rfl
theorem zT23_43 : TT 23 43 L S M Q = TR (z_st (.iload 1) 1 43 L S M) 23 44 M Q := T_at zk23 rfl
theorem zT23_44 : TT 23 44 L S M Q = TR (z_st (.ifCond .eq 51) 3 44 L S M) 23 47 M Q := T_at zk23 rfl
theorem zT23_47 : TT 23 47 L S M Q = TR (z_st (.iconst 0) 1 47 L S M) 23 48 M Q := T_at zk23 rfl
theorem zT23_48 : TT 23 48 L S M Q = TR (z_st (.goto 52) 3 48 L S M) 23 51 M Q := T_at zk23 rfl
theorem zT23_51 : TT 23 51 L S M Q = TR (z_st (.iconst 1) 1 51 L S M) 23 52 M Q := T_at zk23 rfl
theorem zT23_52 : TT 23 52 L S M Q = TR (z_st (.ret 0) 1 52 L S M) 23 53 M Q := T_at zk23 rfl
theorem zT23_53 : TT 23 53 L S M Q = TR (z_st (.iconst 12) 2 53 L S M) 23 55 M Q := T_at zk23 rfl
theorem zT23_55 : TT 23 55 L S M Q = TR (z_st (.ret 0) 1 55 L S M) 23 56 M Q := T_at zk23 rfl
theorem zT23_56 : TT 23 56 L S M Q = TR (z_st (.iconst 1) 1 56 L S M) 23 57 M Q := T_at zk23 rfl
theorem zT23_57 : TT 23 57 L S M Q = TR (z_st (.ret 0) 1 57 L S M) 23 58 M Q := T_at zk23 rfl
theorem zk24 : z_coL.getD 24 [] = zc24 := rfl
theorem zT24_0 : TT 24 0 L S M Q = TR (z_st (.aload 0) 1 0 L S M) 24 1 M Q := T_at zk24 rfl
theorem zT24_1 : TT 24 1 L S M Q = TR (z_st (.fload 71) 3 1 L S M) 24 4 M Q := T_at zk24 rfl
theorem zT24_4 : TT 24 4 L S M Q = TR (z_st (.iconst 1) 1 4 L S M) 24 5 M Q := T_at zk24 rfl
theorem zT24_5 : TT 24 5 L S M Q = TR (z_st (.iload 1) 1 5 L S M) 24 6 M Q := T_at zk24 rfl
theorem zT24_6 : TT 24 6 L S M Q = TR (z_st (.iadd) 1 6 L S M) 24 7 M Q := T_at zk24 rfl
theorem zT24_7 : TT 24 7 L S M Q = TR (z_st (.iaload) 1 7 L S M) 24 8 M Q := T_at zk24 rfl
theorem zT24_8 : TT 24 8 L S M Q = TR (z_st (.aload 0) 1 8 L S M) 24 9 M Q := T_at zk24 rfl
theorem zT24_9 : TT 24 9 L S M Q = TR (z_st (.fload 71) 3 9 L S M) 24 12 M Q := T_at zk24 rfl
theorem zT24_12 : TT 24 12 L S M Q = TR (z_st (.iconst 54) 2 12 L S M) 24 14 M Q := T_at zk24 rfl
theorem zT24_14 : TT 24 14 L S M Q = TR (z_st (.iaload) 1 14 L S M) 24 15 M Q := T_at zk24 rfl
theorem zT24_15 : TT 24 15 L S M Q = TR (z_st (.iconst 1) 1 15 L S M) 24 16 M Q := T_at zk24 rfl
theorem zT24_16 : TT 24 16 L S M Q = TR (z_st (.if_icmp .ne 23) 3 16 L S M) 24 19 M Q := T_at zk24 rfl
theorem zT24_19 : TT 24 19 L S M Q = TR (z_st (.iconst 1) 1 19 L S M) 24 20 M Q := T_at zk24 rfl
theorem zT24_20 : TT 24 20 L S M Q = TR (z_st (.goto 24) 3 20 L S M) 24 23 M Q := T_at zk24 rfl
theorem zT24_23 : TT 24 23 L S M Q = TR (z_st (.iconst 0) 1 23 L S M) 24 24 M Q := T_at zk24 rfl
theorem zT24_24 : TT 24 24 L S M Q = TR (z_st (.invokestatic 23) 3 24 L S M) 24 27 M Q := T_at zk24 rfl
theorem zT24_27 : TT 24 27 L S M Q = TR (z_st (.ret 0) 1 27 L S M) 24 28 M Q := T_at zk24 rfl
theorem zk25 : z_coL.getD 25 [] = zc25 := rfl
theorem zT25_0 : TT 25 0 L S M Q = TR (z_st (.aload 0) 1 0 L S M) 25 1 M Q := T_at zk25 rfl
theorem zT25_1 : TT 25 1 L S M Q = TR (z_st (.iload 1) 1 1 L S M) 25 2 M Q := T_at zk25 rfl
theorem zT25_2 : TT 25 2 L S M Q = TR (z_st (.invokevirtual 21) 3 2 L S M) 25 5 M Q := T_at zk25 rfl
theorem zT25_5 : TT 25 5 L S M Q = TR (z_st (.ifCond .eq 18) 3 5 L S M) 25 8 M Q := T_at zk25 rfl
theorem zT25_8 : TT 25 8 L S M Q = TR (z_st (.iload 2) 1 8 L S M) 25 9 M Q := T_at zk25 rfl
theorem zT25_9 : TT 25 9 L S M Q = TR (z_st (.i2l) 1 9 L S M) 25 10 M Q := T_at zk25 rfl
theorem zT25_10 : TT 25 10 L S M Q = TR (z_st (.ldc2_w 0) 1 10 L S M) 25 11 M Q := T_at zk25 rfl
theorem zT25_11 : TT 25 11 L S M Q = TR (z_st (.ldc2_w 1) 1 11 L S M) 25 12 M Q := T_at zk25 rfl
theorem zT25_12 : TT 25 12 L S M Q = TR (z_st (.invokestatic 2) 3 12 L S M) 25 15 M Q := T_at zk25 rfl
theorem zT25_15 : TT 25 15 L S M Q = TR (z_st (.ifCond .ne 25) 3 15 L S M) 25 18 M Q := T_at zk25 rfl
theorem zT25_18 : TT 25 18 L S M Q = TR (z_st (.aload 0) 1 18 L S M) 25 19 M Q := T_at zk25 rfl
theorem zT25_19 : TT 25 19 L S M Q = TR (z_st (.iconst (-2)) 2 19 L S M) 25 21 M Q := T_at zk25 rfl
theorem zT25_21 : TT 25 21 L S M Q = TR (z_st (.invokevirtual 3) 3 21 L S M) 25 24 M Q := T_at zk25 rfl
theorem zT25_24 : TT 25 24 L S M Q = TR (z_st (.ret 0) 1 24 L S M) 25 25 M Q := T_at zk25 rfl
theorem zT25_25 : TT 25 25 L S M Q = TR (z_st (.aload 0) 1 25 L S M) 25 26 M Q := T_at zk25 rfl
theorem zT25_26 : TT 25 26 L S M Q = TR (z_st (.iload 1) 1 26 L S M) 25 27 M Q := T_at zk25 rfl
theorem zT25_27 : TT 25 27 L S M Q = TR (z_st (.invokevirtual 24) 3 27 L S M) 25 30 M Q := T_at zk25 rfl
theorem zT25_30 : TT 25 30 L S M Q = TR (z_st (.istore 3) 1 30 L S M) 25 31 M Q := T_at zk25 rfl
theorem zT25_31 : TT 25 31 L S M Q = TR (z_st (.iload 3) 1 31 L S M) 25 32 M Q := T_at zk25 rfl
theorem zT25_32 : TT 25 32 L S M Q = TR (z_st (.iload 2) 1 32 L S M) 25 33 M Q := T_at zk25 rfl
theorem zT25_33 : TT 25 33 L S M Q = TR (z_st (.invokestatic 5) 3 33 L S M) 25 36 M Q := T_at zk25 rfl
theorem zT25_36 : TT 25 36 L S M Q = TR (z_st (.ifCond .ne 47) 3 36 L S M) 25 39 M Q := T_at zk25 rfl
theorem zT25_39 : TT 25 39 L S M Q = TR (z_st (.iload 3) 1 39 L S M) 25 40 M Q := T_at zk25 rfl
theorem zT25_40 : TT 25 40 L S M Q = TR (z_st (.iconst 2) 1 40 L S M) 25 41 M Q := T_at zk25 rfl
theorem zT25_41 : TT 25 41 L S M Q = TR (z_st (.invokestatic 5) 3 41 L S M) 25 44 M Q := T_at zk25 rfl
theorem zT25_44 : TT 25 44 L S M Q = TR (z_st (.ifCond .eq 51) 3 44 L S M) 25 47 M Q := T_at zk25 rfl
theorem zT25_47 : TT 25 47 L S M Q = TR (z_st (.iconst 1) 1 47 L S M) 25 48 M Q := T_at zk25 rfl
theorem zT25_48 : TT 25 48 L S M Q = TR (z_st (.goto 52) 3 48 L S M) 25 51 M Q := T_at zk25 rfl
theorem zT25_51 : TT 25 51 L S M Q = TR (z_st (.iconst 0) 1 51 L S M) 25 52 M Q := T_at zk25 rfl
theorem zT25_52 : TT 25 52 L S M Q = TR (z_st (.ret 0) 1 52 L S M) 25 53 M Q := T_at zk25 rfl
theorem zk26 : z_coL.getD 26 [] = zc26 := rfl
theorem zT26_0 : TT 26 0 L S M Q = TR (z_st (.iload 3) 1 0 L S M) 26 1 M Q := T_at zk26 rfl
theorem zT26_1 : TT 26 1 L S M Q = TR (z_st (.i2l) 1 1 L S M) 26 2 M Q := T_at zk26 rfl
theorem zT26_2 : TT 26 2 L S M Q = TR (z_st (.ldc2_w 1) 1 2 L S M) 26 3 M Q := T_at zk26 rfl
theorem zT26_3 : TT 26 3 L S M Q = TR (z_st (.ldc2_w 8) 3 3 L S M) 26 6 M Q := T_at zk26 rfl
theorem zT26_6 : TT 26 6 L S M Q = TR (z_st (.invokestatic 2) 3 6 L S M) 26 9 M Q := T_at zk26 rfl
theorem zT26_9 : TT 26 9 L S M Q = TR (z_st (.ifCond .ne 19) 3 9 L S M) 26 12 M Q := T_at zk26 rfl
theorem zT26_12 : TT 26 12 L S M Q = TR (z_st (.aload 0) 1 12 L S M) 26 13 M Q := T_at zk26 rfl
theorem zT26_13 : TT 26 13 L S M Q = TR (z_st (.iconst (-2)) 2 13 L S M) 26 15 M Q := T_at zk26 rfl
theorem zT26_15 : TT 26 15 L S M Q = TR (z_st (.invokevirtual 3) 3 15 L S M) 26 18 M Q := T_at zk26 rfl
theorem zT26_18 : TT 26 18 L S M Q = TR (z_st (.ret 0) 1 18 L S M) 26 19 M Q := T_at zk26 rfl
theorem zT26_19 : TT 26 19 L S M Q = TR (z_st (.aload 0) 1 19 L S M) 26 20 M Q := T_at zk26 rfl
theorem zT26_20 : TT 26 20 L S M Q = TR (z_st (.getfield 74) 3 20 L S M) 26 23 M Q := T_at zk26 rfl
theorem zT26_23 : TT 26 23 L S M Q = TR (z_st (.iload 3) 1 23 L S M) 26 24 M Q := T_at zk26 rfl
theorem zT26_24 : TT 26 24 L S M Q = TR (z_st (.iadd) 1 24 L S M) 26 25 M Q := T_at zk26 rfl
theorem zT26_25 : TT 26 25 L S M Q = TR (z_st (.iconst 200) 3 25 L S M) 26 28 M Q := T_at zk26 rfl
theorem zT26_28 : TT 26 28 L S M Q = TR (z_st (.if_icmp .le 38) 3 28 L S M) 26 31 M Q := T_at zk26 rfl
theorem zT26_31 : TT 26 31 L S M Q = TR (z_st (.aload 0) 1 31 L S M) 26 32 M Q := T_at zk26 rfl
theorem zT26_32 : TT 26 32 L S M Q = TR (z_st (.iconst (-4)) 2 32 L S M) 26 34 M Q := T_at zk26 rfl
theorem zT26_34 : TT 26 34 L S M Q = TR (z_st (.invokevirtual 3) 3 34 L S M) 26 37 M Q := T_at zk26 rfl
theorem zT26_37 : TT 26 37 L S M Q = TR (z_st (.ret 0) 1 37 L S M) 26 38 M Q := T_at zk26 rfl
theorem zT26_38 : TT 26 38 L S M Q = TR (z_st (.iload 3) 1 38 L S M) 26 39 M Q := T_at zk26 rfl
theorem zT26_39 : TT 26 39 L S M Q = TR (z_st (.iconst 1) 1 39 L S M) 26 40 M Q := T_at zk26 rfl
theorem zT26_40 : TT 26 40 L S M Q = TR (z_st (.isub) 1 40 L S M) 26 41 M Q := T_at zk26 rfl
theorem zT26_41 : TT 26 41 L S M Q = TR (z_st (.istore 4) 2 41 L S M) 26 43 M Q := T_at zk26 rfl
theorem zT26_43 : TT 26 43 L S M Q = TR (z_st (.iload 4) 2 43 L S M) 26 45 M Q := T_at zk26 rfl
theorem zT26_45 : TT 26 45 L S M Q = TR (z_st (.ifCond .lt 85) 3 45 L S M) 26 48 M Q := T_at zk26 rfl
theorem zT26_48 : TT 26 48 L S M Q = TR (z_st (.aload 0) 1 48 L S M) 26 49 M Q := T_at zk26 rfl
theorem zT26_49 : TT 26 49 L S M Q = TR (z_st (.fload 73) 3 49 L S M) 26 52 M Q := T_at zk26 rfl
theorem zT26_52 : TT 26 52 L S M Q = TR (z_st (.aload 0) 1 52 L S M) 26 53 M Q := T_at zk26 rfl
theorem zT26_53 : TT 26 53 L S M Q = TR (z_st (.getfield 74) 3 53 L S M) 26 56 M Q := T_at zk26 rfl
theorem zT26_56 : TT 26 56 L S M Q = TR (z_st (.lload 1) 1 56 L S M) 26 57 M Q := T_at zk26 rfl
theorem zT26_57 : TT 26 57 L S M Q = TR (z_st (.iconst 8) 2 57 L S M) 26 59 M Q := T_at zk26 rfl
theorem zT26_59 : TT 26 59 L S M Q = TR (z_st (.iload 4) 2 59 L S M) 26 61 M Q := T_at zk26 rfl
theorem zT26_61 : TT 26 61 L S M Q = TR (z_st (.imul) 1 61 L S M) 26 62 M Q := T_at zk26 rfl
theorem zT26_62 : TT 26 62 L S M Q = TR (z_st (.lshr) 1 62 L S M) 26 63 M Q := T_at zk26 rfl
theorem zT26_63 : TT 26 63 L S M Q = TR (z_st (.ldc2_w 255) 3 63 L S M) 26 66 M Q := T_at zk26 rfl
theorem zT26_66 : TT 26 66 L S M Q = TR (z_st (.land) 1 66 L S M) 26 67 M Q := T_at zk26 rfl
theorem zT26_67 : TT 26 67 L S M Q = TR (z_st (.l2i) 1 67 L S M) 26 68 M Q := T_at zk26 rfl
theorem zT26_68 : TT 26 68 L S M Q = TR (z_st (.iastore) 1 68 L S M) 26 69 M Q := T_at zk26 rfl
theorem zT26_69 : TT 26 69 L S M Q = TR (z_st (.aload 0) 1 69 L S M) 26 70 M Q := T_at zk26 rfl
theorem zT26_70 : TT 26 70 L S M Q = TR (z_st (.dup) 1 70 L S M) 26 71 M Q := T_at zk26 rfl
theorem zT26_71 : TT 26 71 L S M Q = TR (z_st (.getfield 74) 3 71 L S M) 26 74 M Q := T_at zk26 rfl
theorem zT26_74 : TT 26 74 L S M Q = TR (z_st (.iconst 1) 1 74 L S M) 26 75 M Q := T_at zk26 rfl
theorem zT26_75 : TT 26 75 L S M Q = TR (z_st (.iadd) 1 75 L S M) 26 76 M Q := T_at zk26 rfl
theorem zT26_76 : TT 26 76 L S M Q = TR (z_st (.putfield 74) 3 76 L S M) 26 79 M Q := T_at zk26 rfl
theorem zT26_79 : TT 26 79 L S M Q = TR (z_st (.iinc 4 (-1)) 3 79 L S M) 26 82 M Q := T_at zk26 rfl
theorem zT26_82 : TT 26 82 L S M Q = TR (z_st (.goto 43) 3 82 L S M) 26 85 M Q := T_at zk26 rfl
theorem zT26_85 : TT 26 85 L S M Q = TR (z_st (.aload 0) 1 85 L S M) 26 86 M Q := T_at zk26 rfl
theorem zT26_86 : TT 26 86 L S M Q = TR (z_st (.getfield 74) 3 86 L S M) 26 89 M Q := T_at zk26 rfl
theorem zT26_89 : TT 26 89 L S M Q = TR (z_st (.ret 0) 1 89 L S M) 26 90 M Q := T_at zk26 rfl
theorem zk27 : z_coL.getD 27 [] = zc27 := rfl
theorem zT27_0 : TT 27 0 L S M Q = TR (z_st (.aload 0) 1 0 L S M) 27 1 M Q := T_at zk27 rfl
theorem zT27_1 : TT 27 1 L S M Q = TR (z_st (.getfield 74) 3 1 L S M) 27 4 M Q := T_at zk27 rfl
theorem zT27_4 : TT 27 4 L S M Q = TR (z_st (.istore 1) 1 4 L S M) 27 5 M Q := T_at zk27 rfl
theorem zT27_5 : TT 27 5 L S M Q = TR (z_st (.aload 0) 1 5 L S M) 27 6 M Q := T_at zk27 rfl
theorem zT27_6 : TT 27 6 L S M Q = TR (z_st (.iconst 0) 1 6 L S M) 27 7 M Q := T_at zk27 rfl
theorem zT27_7 : TT 27 7 L S M Q = TR (z_st (.putfield 74) 3 7 L S M) 27 10 M Q := T_at zk27 rfl
theorem zT27_10 : TT 27 10 L S M Q = TR (z_st (.iload 1) 1 10 L S M) 27 11 M Q := T_at zk27 rfl
theorem zT27_11 : TT 27 11 L S M Q = TR (z_st (.ret 0) 1 11 L S M) 27 12 M Q := T_at zk27 rfl
theorem zk28 : z_coL.getD 28 [] = zc28 := rfl
theorem zT28_0 : TT 28 0 L S M Q = TR (z_st (.aload 0) 1 0 L S M) 28 1 M Q := T_at zk28 rfl
theorem zT28_1 : TT 28 1 L S M Q = TR (z_st (.getfield 79) 3 1 L S M) 28 4 M Q := T_at zk28 rfl
theorem zT28_4 : TT 28 4 L S M Q = TR (z_st (.aload 0) 1 4 L S M) 28 5 M Q := T_at zk28 rfl
theorem zT28_5 : TT 28 5 L S M Q = TR (z_st (.getfield 74) 3 5 L S M) 28 8 M Q := T_at zk28 rfl
theorem zT28_8 : TT 28 8 L S M Q = TR (z_st (.if_icmp .ge 38) 3 8 L S M) 28 11 M Q := T_at zk28 rfl
theorem zT28_11 : TT 28 11 L S M Q = TR (z_st (.aload 0) 1 11 L S M) 28 12 M Q := T_at zk28 rfl
theorem zT28_12 : TT 28 12 L S M Q = TR (z_st (.fload 73) 3 12 L S M) 28 15 M Q := T_at zk28 rfl
theorem zT28_15 : TT 28 15 L S M Q = TR (z_st (.aload 0) 1 15 L S M) 28 16 M Q := T_at zk28 rfl
theorem zT28_16 : TT 28 16 L S M Q = TR (z_st (.getfield 79) 3 16 L S M) 28 19 M Q := T_at zk28 rfl
theorem zT28_19 : TT 28 19 L S M Q = TR (z_st (.iaload) 1 19 L S M) 28 20 M Q := T_at zk28 rfl
theorem zT28_20 : TT 28 20 L S M Q = TR (z_st (.iconst 32) 2 20 L S M) 28 22 M Q := T_at zk28 rfl
theorem zT28_22 : TT 28 22 L S M Q = TR (z_st (.if_icmp .ne 38) 3 22 L S M) 28 25 M Q := T_at zk28 rfl
theorem zT28_25 : TT 28 25 L S M Q = TR (z_st (.aload 0) 1 25 L S M) 28 26 M Q := T_at zk28 rfl
theorem zT28_26 : TT 28 26 L S M Q = TR (z_st (.dup) 1 26 L S M) 28 27 M Q := T_at zk28 rfl
theorem zT28_27 : TT 28 27 L S M Q = TR (z_st (.getfield 79) 3 27 L S M) 28 30 M Q := T_at zk28 rfl
theorem zT28_30 : TT 28 30 L S M Q = TR (z_st (.iconst 1) 1 30 L S M) 28 31 M Q := T_at zk28 rfl
theorem zT28_31 : TT 28 31 L S M Q = TR (z_st (.iadd) 1 31 L S M) 28 32 M Q := T_at zk28 rfl
theorem zT28_32 : TT 28 32 L S M Q = TR (z_st (.putfield 79) 3 32 L S M) 28 35 M Q := T_at zk28 rfl
theorem zT28_35 : TT 28 35 L S M Q = TR (z_st (.goto 0) 3 35 L S M) 28 38 M Q := T_at zk28 rfl
theorem zT28_38 : TT 28 38 L S M Q = TR (z_st (.aload 0) 1 38 L S M) 28 39 M Q := T_at zk28 rfl
theorem zT28_39 : TT 28 39 L S M Q = TR (z_st (.getfield 79) 3 39 L S M) 28 42 M Q := T_at zk28 rfl
theorem zT28_42 : TT 28 42 L S M Q = TR (z_st (.aload 0) 1 42 L S M) 28 43 M Q := T_at zk28 rfl
theorem zT28_43 : TT 28 43 L S M Q = TR (z_st (.getfield 74) 3 43 L S M) 28 46 M Q := T_at zk28 rfl
theorem zT28_46 : TT 28 46 L S M Q = TR (z_st (.if_icmp .ne 53) 3 46 L S M) 28 49 M Q := T_at zk28 rfl
theorem zT28_49 : TT 28 49 L S M Q = TR (z_st (.iconst 1) 1 49 L S M) 28 50 M Q := T_at zk28 rfl
theorem zT28_50 : TT 28 50 L S M Q = TR (z_st (.goto 54) 3 50 L S M) 28 53 M Q := T_at zk28 rfl
theorem zT28_53 : TT 28 53 L S M Q = TR (z_st (.iconst 0) 1 53 L S M) 28 54 M Q := T_at zk28 rfl
theorem zT28_54 : TT 28 54 L S M Q = TR (z_st (.ret 1) 1 54 L S M) 28 55 M Q := T_at zk28 rfl
theorem zk29 : z_coL.getD 29 [] = zc29 := rfl
theorem zT29_0 : TT 29 0 L S M Q = TR (z_st (.lload 0) 1 0 L S M) 29 1 M Q := T_at zk29 rfl
theorem zT29_1 : TT 29 1 L S M Q = TR (z_st (.ldc2_w 114155) 3 1 L S M) 29 4 M Q := T_at zk29 rfl
theorem zT29_4 : TT 29 4 L S M Q = TR (z_st (.lcmp) 1 4 L S M) 29 5 M Q := T_at zk29 rfl
theorem zT29_5 : TT 29 5 L S M Q = TR (z_st (.ifCond .ne 12) 3 5 L S M) 29 8 M Q := T_at zk29 rfl
theorem zT29_8 : TT 29 8 L S M Q = TR (z_st (.iconst 0) 1 8 L S M) 29 9 M Q := T_at zk29 rfl
theorem zT29_9 : TT 29 9 L S M Q = TR (z_st (.goto 61) 3 9 L S M) 29 12 M Q := T_at zk29 rfl
theorem zT29_12 : TT 29 12 L S M Q = TR (z_st (.lload 0) 1 12 L S M) 29 13 M Q := T_at zk29 rfl
theorem zT29_13 : TT 29 13 L S M Q = TR (z_st (.ldc2_w 140904) 3 13 L S M) 29 16 M Q := T_at zk29 rfl
theorem zT29_16 : TT 29 16 L S M Q = TR (z_st (.lcmp) 1 16 L S M) 29 17 M Q := T_at zk29 rfl
theorem zT29_17 : TT 29 17 L S M Q = TR (z_st (.ifCond .ne 24) 3 17 L S M) 29 20 M Q := T_at zk29 rfl
theorem zT29_20 : TT 29 20 L S M Q = TR (z_st (.iconst 1) 1 20 L S M) 29 21 M Q := T_at zk29 rfl
theorem zT29_21 : TT 29 21 L S M Q = TR (z_st (.goto 61) 3 21 L S M) 29 24 M Q := T_at zk29 rfl
theorem zT29_24 : TT 29 24 L S M Q = TR (z_st (.lload 0) 1 24 L S M) 29 25 M Q := T_at zk29 rfl
theorem zT29_25 : TT 29 25 L S M Q = TR (z_st (.ldc2_w 643248) 3 25 L S M) 29 28 M Q := T_at zk29 rfl
theorem zT29_28 : TT 29 28 L S M Q = TR (z_st (.lcmp) 1 28 L S M) 29 29 M Q := T_at zk29 rfl
theorem zT29_29 : TT 29 29 L S M Q = TR (z_st (.ifCond .ne 36) 3 29 L S M) 29 32 M Q := T_at zk29 rfl
theorem zT29_32 : TT 29 32 L S M Q = TR (z_st (.iconst 2) 1 32 L S M) 29 33 M Q := T_at zk29 rfl
theorem zT29_33 : TT 29 33 L S M Q = TR (z_st (.goto 61) 3 33 L S M) 29 36 M Q := T_at zk29 rfl
theorem zT29_36 : TT 29 36 L S M Q = TR (z_st (.lload 0) 1 36 L S M) 29 37 M Q := T_at zk29 rfl
theorem zT29_37 : TT 29 37 L S M Q = TR (z_st (.ldc2_w 384096435) 3 37 L S M) 29 40 M Q := T_at zk29 rfl
theorem zT29_40 : TT 29 40 L S M Q = TR (z_st (.lcmp) 1 40 L S M) 29 41 M Q := T_at zk29 rfl
theorem zT29_41 : TT 29 41 L S M Q = TR (z_st (.ifCond .ne 48) 3 41 L S M) 29 44 M Q := T_at zk29 rfl
theorem zT29_44 : TT 29 44 L S M Q = TR (z_st (.iconst 3) 1 44 L S M) 29 45 M Q := T_at zk29 rfl
theorem zT29_45 : TT 29 45 L S M Q = TR (z_st (.goto 61) 3 45 L S M) 29 48 M Q := T_at zk29 rfl
theorem zT29_48 : TT 29 48 L S M Q = TR (z_st (.lload 0) 1 48 L S M) 29 49 M Q := T_at zk29 rfl
theorem zT29_49 : TT 29 49 L S M Q = TR (z_st (.ldc2_w 659105125) 3 49 L S M) 29 52 M Q := T_at zk29 rfl
theorem zT29_52 : TT 29 52 L S M Q = TR (z_st (.lcmp) 1 52 L S M) 29 53 M Q := T_at zk29 rfl
theorem zT29_53 : TT 29 53 L S M Q = TR (z_st (.ifCond .ne 60) 3 53 L S M) 29 56 M Q := T_at zk29 rfl
theorem zT29_56 : TT 29 56 L S M Q = TR (z_st (.iconst 4) 1 56 L S M) 29 57 M Q := T_at zk29 rfl
theorem zT29_57 : TT 29 57 L S M Q = TR (z_st (.goto 61) 3 57 L S M) 29 60 M Q := T_at zk29 rfl
theorem zT29_60 : TT 29 60 L S M Q = TR (z_st (.iconst (-1)) 1 60 L S M) 29 61 M Q := T_at zk29 rfl
theorem zT29_61 : TT 29 61 L S M Q = TR (z_st (.ret 0) 1 61 L S M) 29 62 M Q := T_at zk29 rfl
theorem zk30 : z_coL.getD 30 [] = zc30 := rfl
theorem zT30_0 : TT 30 0 L S M Q = TR (z_st (.iload 0) 1 0 L S M) 30 1 M Q := T_at zk30 rfl
theorem zT30_1 : TT 30 1 L S M Q = TR (z_st (.ifCond .ne 8) 3 1 L S M) 30 4 M Q := T_at zk30 rfl
theorem zT30_4 : TT 30 4 L S M Q = TR (z_st (.iconst 2) 1 4 L S M) 30 5 M Q := T_at zk30 rfl
theorem zT30_5 : TT 30 5 L S M Q = TR (z_st (.goto 27) 3 5 L S M) 30 8 M Q := T_at zk30 rfl
theorem zT30_8 : TT 30 8 L S M Q = TR (z_st (.iload 0) 1 8 L S M) 30 9 M Q := T_at zk30 rfl
theorem zT30_9 : TT 30 9 L S M Q = TR (z_st (.iconst 2) 1 9 L S M) 30 10 M Q := T_at zk30 rfl
theorem zT30_10 : TT 30 10 L S M Q = TR (z_st (.if_icmp .ne 17) 3 10 L S M) 30 13 M Q := T_at zk30 rfl
theorem zT30_13 : TT 30 13 L S M Q = TR (z_st (.iconst 5) 1 13 L S M) 30 14 M Q := T_at zk30 rfl
theorem zT30_14 : TT 30 14 L S M Q = TR (z_st (.goto 27) 3 14 L S M) 30 17 M Q := T_at zk30 rfl
theorem zT30_17 : TT 30 17 L S M Q = TR (z_st (.iload 0) 1 17 L S M) 30 18 M Q := T_at zk30 rfl
theorem zT30_18 : TT 30 18 L S M Q = TR (z_st (.iconst 3) 1 18 L S M) 30 19 M Q := T_at zk30 rfl
theorem zT30_19 : TT 30 19 L S M Q = TR (z_st (.if_icmp .ne 26) 3 19 L S M) 30 22 M Q := T_at zk30 rfl
theorem zT30_22 : TT 30 22 L S M Q = TR (z_st (.iconst 1) 1 22 L S M) 30 23 M Q := T_at zk30 rfl
theorem zT30_23 : TT 30 23 L S M Q = TR (z_st (.goto 27) 3 23 L S M) 30 26 M Q := T_at zk30 rfl
theorem zT30_26 : TT 30 26 L S M Q = TR (z_st (.iconst 0) 1 26 L S M) 30 27 M Q := T_at zk30 rfl
theorem zT30_27 : TT 30 27 L S M Q = TR (z_st (.ret 0) 1 27 L S M) 30 28 M Q := T_at zk30 rfl
theorem zk31 : z_coL.getD 31 [] = zc31 := rfl
theorem zT31_0 : TT 31 0 L S M Q = TR (z_st (.aload 0) 1 0 L S M) 31 1 M Q := T_at zk31 rfl
theorem zT31_1 : TT 31 1 L S M Q = TR (z_st (.getfield 79) 3 1 L S M) 31 4 M Q := T_at zk31 rfl
theorem zT31_4 : TT 31 4 L S M Q = TR (z_st (.istore 1) 1 4 L S M) 31 5 M Q := T_at zk31 rfl
theorem zT31_5 : TT 31 5 L S M Q = TR (z_st (.ldc2_w 0) 1 5 L S M) 31 6 M Q := T_at zk31 rfl
theorem zT31_6 : TT 31 6 L S M Q = TR (z_st (.lstore 2) 1 6 L S M) 31 7 M Q := T_at zk31 rfl
theorem zT31_7 : TT 31 7 L S M Q = TR (z_st (.aload 0) 1 7 L S M) 31 8 M Q := T_at zk31 rfl
theorem zT31_8 : TT 31 8 L S M Q = TR (z_st (.getfield 79) 3 8 L S M) 31 11 M Q := T_at zk31 rfl
theorem zT31_11 : TT 31 11 L S M Q = TR (z_st (.aload 0) 1 11 L S M) 31 12 M Q := T_at zk31 rfl
theorem zT31_12 : TT 31 12 L S M Q = TR (z_st (.getfield 74) 3 12 L S M) 31 15 M Q := T_at zk31 rfl
theorem zT31_15 : TT 31 15 L S M Q = TR (z_st (.if_icmp .ge 89) 3 15 L S M) 31 18 M Q := T_at zk31 rfl
theorem zT31_18 : TT 31 18 L S M Q = TR (z_st (.aload 0) 1 18 L S M) 31 19 M Q := T_at zk31 rfl
theorem zT31_19 : TT 31 19 L S M Q = TR (z_st (.fload 73) 3 19 L S M) 31 22 M Q := T_at zk31 rfl
theorem zT31_22 : TT 31 22 L S M Q = TR (z_st (.aload 0) 1 22 L S M) 31 23 M Q := T_at zk31 rfl
theorem zT31_23 : TT 31 23 L S M Q = TR (z_st (.getfield 79) 3 23 L S M) 31 26 M Q := T_at zk31 rfl
theorem zT31_26 : TT 31 26 L S M Q = TR (z_st (.iaload) 1 26 L S M) 31 27 M Q := T_at zk31 rfl
theorem zT31_27 : TT 31 27 L S M Q = TR (z_st (.i2l) 1 27 L S M) 31 28 M Q := T_at zk31 rfl
theorem zT31_28 : TT 31 28 L S M Q = TR (z_st (.ldc2_w 97) 3 28 L S M) 31 31 M Q := T_at zk31 rfl
theorem zT31_31 : TT 31 31 L S M Q = TR (z_st (.ldc2_w 122) 3 31 L S M) 31 34 M Q := T_at zk31 rfl
theorem zT31_34 : TT 31 34 L S M Q = TR (z_st (.invokestatic 2) 3 34 L S M) 31 37 M Q := T_at zk31 rfl
theorem zT31_37 : TT 31 37 L S M Q = TR (z_st (.ifCond .eq 89) 3 37 L S M) 31 40 M Q := T_at zk31 rfl
theorem zT31_40 : TT 31 40 L S M Q = TR (z_st (.aload 0) 1 40 L S M) 31 41 M Q := T_at zk31 rfl
theorem zT31_41 : TT 31 41 L S M Q = TR (z_st (.getfield 79) 3 41 L S M) 31 44 M Q := T_at zk31 rfl
theorem zT31_44 : TT 31 44 L S M Q = TR (z_st (.iload 1) 1 44 L S M) 31 45 M Q := T_at zk31 rfl
theorem zT31_45 : TT 31 45 L S M Q = TR (z_st (.isub) 1 45 L S M) 31 46 M Q := T_at zk31 rfl
theorem zT31_46 : TT 31 46 L S M Q = TR (z_st (.iconst 7) 2 46 L S M) 31 48 M Q := T_at zk31 rfl
theorem zT31_48 : TT 31 48 L S M Q = TR (z_st (.if_icmp .ge 74) 3 48 L S M) 31 51 M Q := T_at zk31 rfl
theorem zT31_51 : TT 31 51 L S M Q = TR (z_st (.ldc2_w 32) 3 51 L S M) 31 54 M Q := T_at zk31 rfl
theorem zT31_54 : TT 31 54 L S M Q = TR (z_st (.lload 2) 1 54 L S M) 31 55 M Q := T_at zk31 rfl
theorem zT31_55 : TT 31 55 L S M Q = TR (z_st (.lmul) 1 55 L S M) 31 56 M Q := T_at zk31 rfl
theorem zT31_56 : TT 31 56 L S M Q = TR (z_st (.aload 0) 1 56 L S M) 31 57 M Q := T_at zk31 rfl
theorem zT31_57 : TT 31 57 L S M Q = TR (z_st (.fload 73) 3 57 L S M) 31 60 M Q := T_at zk31 rfl
theorem zT31_60 : TT 31 60 L S M Q = TR (z_st (.aload 0) 1 60 L S M) 31 61 M Q := T_at zk31 rfl
theorem zT31_61 : TT 31 61 L S M Q = TR (z_st (.getfield 79) 3 61 L S M) 31 64 M Q := T_at zk31 rfl
theorem zT31_64 : TT 31 64 L S M Q = TR (z_st (.iaload) 1 64 L S M) 31 65 M Q := T_at zk31 rfl
theorem zT31_65 : TT 31 65 L S M Q = TR (z_st (.i2l) 1 65 L S M) 31 66 M Q := T_at zk31 rfl
theorem zT31_66 : TT 31 66 L S M Q = TR (z_st (.ladd) 1 66 L S M) 31 67 M Q := T_at zk31 rfl
theorem zT31_67 : TT 31 67 L S M Q = TR (z_st (.ldc2_w 96) 3 67 L S M) 31 70 M Q := T_at zk31 rfl
theorem zT31_70 : TT 31 70 L S M Q = TR (z_st (.lsub) 1 70 L S M) 31 71 M Q := T_at zk31 rfl
theorem zT31_71 : TT 31 71 L S M Q = TR (z_st (.goto 75) 3 71 L S M) 31 74 M Q := T_at zk31 rfl
theorem zT31_74 : TT 31 74 L S M Q = TR (z_st (.lload 2) 1 74 L S M) 31 75 M Q := T_at zk31 rfl
theorem zT31_75 : TT 31 75 L S M Q = TR (z_st (.lstore 2) 1 75 L S M) 31 76 M Q := T_at zk31 rfl
theorem zT31_76 : TT 31 76 L S M Q = TR (z_st (.aload 0) 1 76 L S M) 31 77 M Q := T_at zk31 rfl
theorem zT31_77 : TT 31 77 L S M Q = TR (z_st (.dup) 1 77 L S M) 31 78 M Q := T_at zk31 rfl
theorem zT31_78 : TT 31 78 L S M Q = TR (z_st (.getfield 79) 3 78 L S M) 31 81 M Q := T_at zk31 rfl
theorem zT31_81 : TT 31 81 L S M Q = TR (z_st (.iconst 1) 1 81 L S M) 31 82 M Q := T_at zk31 rfl
theorem zT31_82 : TT 31 82 L S M Q = TR (z_st (.iadd) 1 82 L S M) 31 83 M Q := T_at zk31 rfl
theorem zT31_83 : TT 31 83 L S M Q = TR (z_st (.putfield 79) 3 83 L S M) 31 86 M Q := T_at zk31 rfl
theorem zT31_86 : TT 31 86 L S M Q = TR (z_st (.goto 7) 3 86 L S M) 31 89 M Q := T_at zk31 rfl
theorem zT31_89 : TT 31 89 L S M Q = TR (z_st (.lload 2) 1 89 L S M) 31 90 M Q := T_at zk31 rfl
theorem zT31_90 : TT 31 90 L S M Q = TR (z_st (.invokestatic 29) 3 90 L S M) 31 93 M Q := T_at zk31 rfl
theorem zT31_93 : TT 31 93 L S M Q = TR (z_st (.istore 4) 2 93 L S M) 31 95 M Q := T_at zk31 rfl
theorem zT31_95 : TT 31 95 L S M Q = TR (z_st (.aload 0) 1 95 L S M) 31 96 M Q := T_at zk31 rfl
theorem zT31_96 : TT 31 96 L S M Q = TR (z_st (.iload 4) 2 96 L S M) 31 98 M Q := T_at zk31 rfl
theorem zT31_98 : TT 31 98 L S M Q = TR (z_st (.iconst (-1)) 1 98 L S M) 31 99 M Q := T_at zk31 rfl
theorem zT31_99 : TT 31 99 L S M Q = TR (z_st (.if_icmp .ne 106) 3 99 L S M) 31 102 M Q := T_at zk31 rfl
theorem zT31_102 : TT 31 102 L S M Q = TR (z_st (.iload 1) 1 102 L S M) 31 103 M Q := T_at zk31 rfl
theorem zT31_103 : TT 31 103 L S M Q = TR (z_st (.goto 110) 3 103 L S M) 31 106 M Q := T_at zk31 rfl
theorem zT31_106 : TT 31 106 L S M Q = TR (z_st (.aload 0) 1 106 L S M) 31 107 M Q := T_at zk31 rfl
theorem zT31_107 : TT 31 107 L S M Q = TR (z_st (.getfield 80) 3 107 L S M) 31 110 M Q := T_at zk31 rfl
theorem zT31_110 : TT 31 110 L S M Q = TR (z_st (.putfield 80) 3 110 L S M) 31 113 M Q := T_at zk31 rfl
theorem zT31_113 : TT 31 113 L S M Q = TR (z_st (.iload 4) 2 113 L S M) 31 115 M Q := T_at zk31 rfl
theorem zT31_115 : TT 31 115 L S M Q = TR (z_st (.ret 0) 1 115 L S M) 31 116 M Q := T_at zk31 rfl
theorem zk32 : z_coL.getD 32 [] = zc32 := rfl
theorem zT32_0 : TT 32 0 L S M Q = TR (z_st (.aload 0) 1 0 L S M) 32 1 M Q := T_at zk32 rfl
theorem zT32_1 : TT 32 1 L S M Q = TR (z_st (.invokevirtual 28) 3 1 L S M) 32 4 M Q := T_at zk32 rfl
theorem zT32_4 : TT 32 4 L S M Q = TR (z_st (.ifCond .eq 17) 3 4 L S M) 32 7 M Q := T_at zk32 rfl
theorem zT32_7 : TT 32 7 L S M Q = TR (z_st (.aload 0) 1 7 L S M) 32 8 M Q := T_at zk32 rfl
theorem zT32_8 : TT 32 8 L S M Q = TR (z_st (.aload 0) 1 8 L S M) 32 9 M Q := T_at zk32 rfl
theorem zT32_9 : TT 32 9 L S M Q = TR (z_st (.getfield 74) 3 9 L S M) 32 12 M Q := T_at zk32 rfl
theorem zT32_12 : TT 32 12 L S M Q = TR (z_st (.putfield 80) 3 12 L S M) 32 15 M Q := T_at zk32 rfl
theorem zT32_15 : TT 32 15 L S M Q = TR (z_st (.iconst (-1)) 1 15 L S M) 32 16 M Q := T_at zk32 rfl
theorem zT32_16 : TT 32 16 L S M Q = TR (z_st (.ret 0) 1 16 L S M) 32 17 M Q := T_at zk32 rfl
theorem zT32_17 : TT 32 17 L S M Q = TR (z_st (.aload 0) 1 17 L S M) 32 18 M Q := T_at zk32 rfl
theorem zT32_18 : TT 32 18 L S M Q = TR (z_st (.getfield 79) 3 18 L S M) 32 21 M Q := T_at zk32 rfl
theorem zT32_21 : TT 32 21 L S M Q = TR (z_st (.istore 1) 1 21 L S M) 32 22 M Q := T_at zk32 rfl
theorem zT32_22 : TT 32 22 L S M Q = TR (z_st (.iconst 0) 1 22 L S M) 32 23 M Q := T_at zk32 rfl
theorem zT32_23 : TT 32 23 L S M Q = TR (z_st (.istore 2) 1 23 L S M) 32 24 M Q := T_at zk32 rfl
theorem zT32_24 : TT 32 24 L S M Q = TR (z_st (.aload 0) 1 24 L S M) 32 25 M Q := T_at zk32 rfl
theorem zT32_25 : TT 32 25 L S M Q = TR (z_st (.getfield 79) 3 25 L S M) 32 28 M Q := T_at zk32 rfl
theorem zT32_28 : TT 32 28 L S M Q = TR (z_st (.aload 0) 1 28 L S M) 32 29 M Q := T_at zk32 rfl
theorem zT32_29 : TT 32 29 L S M Q = TR (z_st (.getfield 74) 3 29 L S M) 32 32 M Q := T_at zk32 rfl
theorem zT32_32 : TT 32 32 L S M Q = TR (z_st (.if_icmp .ge 102) 3 32 L S M) 32 35 M Q := T_at zk32 rfl
theorem zT32_35 : TT 32 35 L S M Q = TR (z_st (.aload 0) 1 35 L S M) 32 36 M Q := T_at zk32 rfl
theorem zT32_36 : TT 32 36 L S M Q = TR (z_st (.fload 73) 3 36 L S M) 32 39 M Q := T_at zk32 rfl
theorem zT32_39 : TT 32 39 L S M Q = TR (z_st (.aload 0) 1 39 L S M) 32 40 M Q := T_at zk32 rfl
theorem zT32_40 : TT 32 40 L S M Q = TR (z_st (.getfield 79) 3 40 L S M) 32 43 M Q := T_at zk32 rfl
theorem zT32_43 : TT 32 43 L S M Q = TR (z_st (.iaload) 1 43 L S M) 32 44 M Q := T_at zk32 rfl
theorem zT32_44 : TT 32 44 L S M Q = TR (z_st (.i2l) 1 44 L S M) 32 45 M Q := T_at zk32 rfl
theorem zT32_45 : TT 32 45 L S M Q = TR (z_st (.ldc2_w 48) 3 45 L S M) 32 48 M Q := T_at zk32 rfl
theorem zT32_48 : TT 32 48 L S M Q = TR (z_st (.ldc2_w 57) 3 48 L S M) 32 51 M Q := T_at zk32 rfl
theorem zT32_51 : TT 32 51 L S M Q = TR (z_st (.invokestatic 2) 3 51 L S M) 32 54 M Q := T_at zk32 rfl
theorem zT32_54 : TT 32 54 L S M Q = TR (z_st (.ifCond .eq 102) 3 54 L S M) 32 57 M Q := T_at zk32 rfl
theorem zT32_57 : TT 32 57 L S M Q = TR (z_st (.aload 0) 1 57 L S M) 32 58 M Q := T_at zk32 rfl
theorem zT32_58 : TT 32 58 L S M Q = TR (z_st (.getfield 79) 3 58 L S M) 32 61 M Q := T_at zk32 rfl
theorem zT32_61 : TT 32 61 L S M Q = TR (z_st (.iload 1) 1 61 L S M) 32 62 M Q := T_at zk32 rfl
theorem zT32_62 : TT 32 62 L S M Q = TR (z_st (.isub) 1 62 L S M) 32 63 M Q := T_at zk32 rfl
theorem zT32_63 : TT 32 63 L S M Q = TR (z_st (.iconst 2) 1 63 L S M) 32 64 M Q := T_at zk32 rfl
theorem zT32_64 : TT 32 64 L S M Q = TR (z_st (.if_icmp .ge 87) 3 64 L S M) 32 67 M Q := T_at zk32 rfl
theorem zT32_67 : TT 32 67 L S M Q = TR (z_st (.iconst 10) 2 67 L S M) 32 69 M Q := T_at zk32 rfl
theorem zT32_69 : TT 32 69 L S M Q = TR (z_st (.iload 2) 1 69 L S M) 32 70 M Q := T_at zk32 rfl
theorem zT32_70 : TT 32 70 L S M Q = TR (z_st (.imul) 1 70 L S M) 32 71 M Q := T_at zk32 rfl
theorem zT32_71 : TT 32 71 L S M Q = TR (z_st (.aload 0) 1 71 L S M) 32 72 M Q := T_at zk32 rfl
theorem zT32_72 : TT 32 72 L S M Q = TR (z_st (.fload 73) 3 72 L S M) 32 75 M Q := T_at zk32 rfl
theorem zT32_75 : TT 32 75 L S M Q = TR (z_st (.aload 0) 1 75 L S M) 32 76 M Q := T_at zk32 rfl
theorem zT32_76 : TT 32 76 L S M Q = TR (z_st (.getfield 79) 3 76 L S M) 32 79 M Q := T_at zk32 rfl
theorem zT32_79 : TT 32 79 L S M Q = TR (z_st (.iaload) 1 79 L S M) 32 80 M Q := T_at zk32 rfl
theorem zT32_80 : TT 32 80 L S M Q = TR (z_st (.iadd) 1 80 L S M) 32 81 M Q := T_at zk32 rfl
theorem zT32_81 : TT 32 81 L S M Q = TR (z_st (.iconst 48) 2 81 L S M) 32 83 M Q := T_at zk32 rfl
theorem zT32_83 : TT 32 83 L S M Q = TR (z_st (.isub) 1 83 L S M) 32 84 M Q := T_at zk32 rfl
theorem zT32_84 : TT 32 84 L S M Q = TR (z_st (.goto 88) 3 84 L S M) 32 87 M Q := T_at zk32 rfl
theorem zT32_87 : TT 32 87 L S M Q = TR (z_st (.iload 2) 1 87 L S M) 32 88 M Q := T_at zk32 rfl
theorem zT32_88 : TT 32 88 L S M Q = TR (z_st (.istore 2) 1 88 L S M) 32 89 M Q := T_at zk32 rfl
theorem zT32_89 : TT 32 89 L S M Q = TR (z_st (.aload 0) 1 89 L S M) 32 90 M Q := T_at zk32 rfl
theorem zT32_90 : TT 32 90 L S M Q = TR (z_st (.dup) 1 90 L S M) 32 91 M Q := T_at zk32 rfl
theorem zT32_91 : TT 32 91 L S M Q = TR (z_st (.getfield 79) 3 91 L S M) 32 94 M Q := T_at zk32 rfl
theorem zT32_94 : TT 32 94 L S M Q = TR (z_st (.iconst 1) 1 94 L S M) 32 95 M Q := T_at zk32 rfl
theorem zT32_95 : TT 32 95 L S M Q = TR (z_st (.iadd) 1 95 L S M) 32 96 M Q := T_at zk32 rfl
theorem zT32_96 : TT 32 96 L S M Q = TR (z_st (.putfield 79) 3 96 L S M) 32 99 M Q := T_at zk32 rfl
theorem zT32_99 : TT 32 99 L S M Q = TR (z_st (.goto 24) 3 99 L S M) 32 102 M Q := T_at zk32 rfl
theorem zT32_102 : TT 32 102 L S M Q = TR (z_st (.aload 0) 1 102 L S M) 32 103 M Q := T_at zk32 rfl
theorem zT32_103 : TT 32 103 L S M Q = TR (z_st (.aload 0) 1 103 L S M) 32 104 M Q := T_at zk32 rfl
theorem zT32_104 : TT 32 104 L S M Q = TR (z_st (.getfield 79) 3 104 L S M) 32 107 M Q := T_at zk32 rfl
theorem zT32_107 : TT 32 107 L S M Q = TR (z_st (.iload 1) 1 107 L S M) 32 108 M Q := T_at zk32 rfl
theorem zT32_108 : TT 32 108 L S M Q = TR (z_st (.if_icmp .eq 121) 3 108 L S M) 32 111 M Q := T_at zk32 rfl
theorem zT32_111 : TT 32 111 L S M Q = TR (z_st (.aload 0) 1 111 L S M) 32 112 M Q := T_at zk32 rfl
theorem zT32_112 : TT 32 112 L S M Q = TR (z_st (.getfield 79) 3 112 L S M) 32 115 M Q := T_at zk32 rfl
theorem zT32_115 : TT 32 115 L S M Q = TR (z_st (.iload 1) 1 115 L S M) 32 116 M Q := T_at zk32 rfl
theorem zT32_116 : TT 32 116 L S M Q = TR (z_st (.isub) 1 116 L S M) 32 117 M Q := T_at zk32 rfl
theorem zT32_117 : TT 32 117 L S M Q = TR (z_st (.iconst 2) 1 117 L S M) 32 118 M Q := T_at zk32 rfl
theorem zT32_118 : TT 32 118 L S M Q = TR (z_st (.if_icmp .le 125) 3 118 L S M) 32 121 M Q := T_at zk32 rfl
theorem zT32_121 : TT 32 121 L S M Q = TR (z_st (.iload 1) 1 121 L S M) 32 122 M Q := T_at zk32 rfl
theorem zT32_122 : TT 32 122 L S M Q = TR (z_st (.goto 129) 3 122 L S M) 32 125 M Q := T_at zk32 rfl
theorem zT32_125 : TT 32 125 L S M Q = TR (z_st (.aload 0) 1 125 L S M) 32 126 M Q := T_at zk32 rfl
theorem zT32_126 : TT 32 126 L S M Q = TR (z_st (.getfield 80) 3 126 L S M) 32 129 M Q := T_at zk32 rfl
theorem zT32_129 : TT 32 129 L S M Q = TR (z_st (.putfield 80) 3 129 L S M) 32 132 M Q := T_at zk32 rfl
theorem zT32_132 : TT 32 132 L S M Q = TR (z_st (.iload 2) 1 132 L S M) 32 133 M Q := T_at zk32 rfl
theorem zT32_133 : TT 32 133 L S M Q = TR (z_st (.ret 0) 1 133 L S M) 32 134 M Q := T_at zk32 rfl
theorem zk33 : z_coL.getD 33 [] = zc33 := rfl
theorem zT33_0 : TT 33 0 L S M Q = TR (z_st (.aload 0) 1 0 L S M) 33 1 M Q := T_at zk33 rfl
theorem zT33_1 : TT 33 1 L S M Q = TR (z_st (.invokevirtual 31) 3 1 L S M) 33 4 M Q := T_at zk33 rfl
theorem zT33_4 : TT 33 4 L S M Q = TR (z_st (.istore 1) 1 4 L S M) 33 5 M Q := T_at zk33 rfl
theorem zT33_5 : TT 33 5 L S M Q = TR (z_st (.aload 0) 1 5 L S M) 33 6 M Q := T_at zk33 rfl
theorem zT33_6 : TT 33 6 L S M Q = TR (z_st (.fload 76) 3 6 L S M) 33 9 M Q := T_at zk33 rfl
theorem zT33_9 : TT 33 9 L S M Q = TR (z_st (.aload 0) 1 9 L S M) 33 10 M Q := T_at zk33 rfl
theorem zT33_10 : TT 33 10 L S M Q = TR (z_st (.getfield 78) 3 10 L S M) 33 13 M Q := T_at zk33 rfl
theorem zT33_13 : TT 33 13 L S M Q = TR (z_st (.iload 1) 1 13 L S M) 33 14 M Q := T_at zk33 rfl
theorem zT33_14 : TT 33 14 L S M Q = TR (z_st (.iastore) 1 14 L S M) 33 15 M Q := T_at zk33 rfl
theorem zT33_15 : TT 33 15 L S M Q = TR (z_st (.iconst 0) 1 15 L S M) 33 16 M Q := T_at zk33 rfl
theorem zT33_16 : TT 33 16 L S M Q = TR (z_st (.istore 2) 1 16 L S M) 33 17 M Q := T_at zk33 rfl
theorem zT33_17 : TT 33 17 L S M Q = TR (z_st (.iload 2) 1 17 L S M) 33 18 M Q := T_at zk33 rfl
theorem zT33_18 : TT 33 18 L S M Q = TR (z_st (.iload 1) 1 18 L S M) 33 19 M Q := T_at zk33 rfl
theorem zT33_19 : TT 33 19 L S M Q = TR (z_st (.invokestatic 30) 3 19 L S M) 33 22 M Q := T_at zk33 rfl
theorem zT33_22 : TT 33 22 L S M Q = TR (z_st (.if_icmp .ge 56) 3 22 L S M) 33 25 M Q := T_at zk33 rfl
theorem zT33_25 : TT 33 25 L S M Q = TR (z_st (.aload 0) 1 25 L S M) 33 26 M Q := T_at zk33 rfl
theorem zT33_26 : TT 33 26 L S M Q = TR (z_st (.getfield 80) 3 26 L S M) 33 29 M Q := T_at zk33 rfl
theorem zT33_29 : TT 33 29 L S M Q = TR (z_st (.iconst (-1)) 1 29 L S M) 33 30 M Q := T_at zk33 rfl
theorem zT33_30 : TT 33 30 L S M Q = TR (z_st (.if_icmp .ne 56) 3 30 L S M) 33 33 M Q := T_at zk33 rfl
theorem zT33_33 : TT 33 33 L S M Q = TR (z_st (.aload 0) 1 33 L S M) 33 34 M Q := T_at zk33 rfl
theorem zT33_34 : TT 33 34 L S M Q = TR (z_st (.fload 77) 3 34 L S M) 33 37 M Q := T_at zk33 rfl
theorem zT33_37 : TT 33 37 L S M Q = TR (z_st (.iconst 5) 1 37 L S M) 33 38 M Q := T_at zk33 rfl
theorem zT33_38 : TT 33 38 L S M Q = TR (z_st (.aload 0) 1 38 L S M) 33 39 M Q := T_at zk33 rfl
theorem zT33_39 : TT 33 39 L S M Q = TR (z_st (.getfield 78) 3 39 L S M) 33 42 M Q := T_at zk33 rfl
theorem zT33_42 : TT 33 42 L S M Q = TR (z_st (.imul) 1 42 L S M) 33 43 M Q := T_at zk33 rfl
theorem zT33_43 : TT 33 43 L S M Q = TR (z_st (.iload 2) 1 43 L S M) 33 44 M Q := T_at zk33 rfl
theorem zT33_44 : TT 33 44 L S M Q = TR (z_st (.iadd) 1 44 L S M) 33 45 M Q := T_at zk33 rfl
theorem zT33_45 : TT 33 45 L S M Q = TR (z_st (.aload 0) 1 45 L S M) 33 46 M Q := T_at zk33 rfl
theorem zT33_46 : TT 33 46 L S M Q = TR (z_st (.invokevirtual 32) 3 46 L S M) 33 49 M Q := T_at zk33 rfl
theorem zT33_49 : TT 33 49 L S M Q = TR (z_st (.iastore) 1 49 L S M) 33 50 M Q := T_at zk33 rfl
theorem zT33_50 : TT 33 50 L S M Q = TR (z_st (.iinc 2 1) 3 50 L S M) 33 53 M Q := T_at zk33 rfl
theorem zT33_53 : TT 33 53 L S M Q = TR (z_st (.goto 17) 3 53 L S M) 33 56 M Q := T_at zk33 rfl
theorem zT33_56 : TT 33 56 L S M Q = TR (z_st (.aload 0) 1 56 L S M) 33 57 M Q := T_at zk33 rfl
theorem zT33_57 : TT 33 57 L S M Q = TR (z_st (.getfield 80) 3 57 L S M) 33 60 M Q := T_at zk33 rfl
theorem zT33_60 : TT 33 60 L S M Q = TR (z_st (.iconst (-1)) 1 60 L S M) 33 61 M Q := T_at zk33 rfl
theorem zT33_61 : TT 33 61 L S M Q = TR (z_st (.if_icmp .ne 93) 3 61 L S M) 33 64 M Q := T_at zk33 rfl
theorem zT33_64 : TT 33 64 L S M Q = TR (z_st (.aload 0) 1 64 L S M) 33 65 M Q := T_at zk33 rfl
theorem zT33_65 : TT 33 65 L S M Q = TR (z_st (.invokevirtual 28) 3 65 L S M) 33 68 M Q := T_at zk33 rfl
theorem zT33_68 : TT 33 68 L S M Q = TR (z_st (.ifCond .ne 85) 3 68 L S M) 33 71 M Q := T_at zk33 rfl
theorem zT33_71 : TT 33 71 L S M Q = TR (z_st (.aload 0) 1 71 L S M) 33 72 M Q := T_at zk33 rfl
theorem zT33_72 : TT 33 72 L S M Q = TR (z_st (.fload 73) 3 72 L S M) 33 75 M Q := T_at zk33 rfl
theorem zT33_75 : TT 33 75 L S M Q = TR (z_st (.aload 0) 1 75 L S M) 33 76 M Q := T_at zk33 rfl
theorem zT33_76 : TT 33 76 L S M Q = TR (z_st (.getfield 79) 3 76 L S M) 33 79 M Q := T_at zk33 rfl
theorem zT33_79 : TT 33 79 L S M Q = TR (z_st (.iaload) 1 79 L S M) 33 80 M Q := T_at zk33 rfl
theorem zT33_80 : TT 33 80 L S M Q = TR (z_st (.iconst 59) 2 80 L S M) 33 82 M Q := T_at zk33 rfl
theorem zT33_82 : TT 33 82 L S M Q = TR (z_st (.if_icmp .eq 93) 3 82 L S M) 33 85 M Q := T_at zk33 rfl
theorem zT33_85 : TT 33 85 L S M Q = TR (z_st (.aload 0) 1 85 L S M) 33 86 M Q := T_at zk33 rfl
theorem zT33_86 : TT 33 86 L S M Q = TR (z_st (.aload 0) 1 86 L S M) 33 87 M Q := T_at zk33 rfl
theorem zT33_87 : TT 33 87 L S M Q = TR (z_st (.getfield 79) 3 87 L S M) 33 90 M Q := T_at zk33 rfl
theorem zT33_90 : TT 33 90 L S M Q = TR (z_st (.putfield 80) 3 90 L S M) 33 93 M Q := T_at zk33 rfl
theorem zT33_93 : TT 33 93 L S M Q = TR (z_st (.aload 0) 1 93 L S M) 33 94 M Q := T_at zk33 rfl
theorem zT33_94 : TT 33 94 L S M Q = TR (z_st (.dup) 1 94 L S M) 33 95 M Q := T_at zk33 rfl
theorem zT33_95 : TT 33 95 L S M Q = TR (z_st (.getfield 79) 3 95 L S M) 33 98 M Q := T_at zk33 rfl
theorem zT33_98 : TT 33 98 L S M Q = TR (z_st (.iconst 1) 1 98 L S M) 33 99 M Q := T_at zk33 rfl
theorem zT33_99 : TT 33 99 L S M Q = TR (z_st (.iadd) 1 99 L S M) 33 100 M Q := T_at zk33 rfl
theorem zT33_100 : TT 33 100 L S M Q = TR (z_st (.putfield 79) 3 100 L S M) 33 103 M Q := T_at zk33 rfl
theorem zT33_103 : TT 33 103 L S M Q = TR (z_st (.aload 0) 1 103 L S M) 33 104 M Q := T_at zk33 rfl
theorem zT33_104 : TT 33 104 L S M Q = TR (z_st (.dup) 1 104 L S M) 33 105 M Q := T_at zk33 rfl
theorem zT33_105 : TT 33 105 L S M Q = TR (z_st (.getfield 78) 3 105 L S M) 33 108 M Q := T_at zk33 rfl
theorem zT33_108 : TT 33 108 L S M Q = TR (z_st (.iconst 1) 1 108 L S M) 33 109 M Q := T_at zk33 rfl
theorem zT33_109 : TT 33 109 L S M Q = TR (z_st (.iadd) 1 109 L S M) 33 110 M Q := T_at zk33 rfl
theorem zT33_110 : TT 33 110 L S M Q = TR (z_st (.putfield 78) 3 110 L S M) 33 113 M Q := T_at zk33 rfl
theorem zT33_113 : TT 33 113 L S M Q = TR (z_st (.return_) 1 113 L S M) 33 114 M Q := T_at zk33 rfl
theorem zk34 : z_coL.getD 34 [] = zc34 := rfl
theorem zT34_0 : TT 34 0 L S M Q = TR (z_st (.aload 0) 1 0 L S M) 34 1 M Q := T_at zk34 rfl
theorem zT34_1 : TT 34 1 L S M Q = TR (z_st (.fload 77) 3 1 L S M) 34 4 M Q := T_at zk34 rfl
theorem zT34_4 : TT 34 4 L S M Q = TR (z_st (.iconst 5) 1 4 L S M) 34 5 M Q := T_at zk34 rfl
theorem zT34_5 : TT 34 5 L S M Q = TR (z_st (.iload 1) 1 5 L S M) 34 6 M Q := T_at zk34 rfl
theorem zT34_6 : TT 34 6 L S M Q = TR (z_st (.imul) 1 6 L S M) 34 7 M Q := T_at zk34 rfl
theorem zT34_7 : TT 34 7 L S M Q = TR (z_st (.iaload) 1 7 L S M) 34 8 M Q := T_at zk34 rfl
theorem zT34_8 : TT 34 8 L S M Q = TR (z_st (.istore 2) 1 8 L S M) 34 9 M Q := T_at zk34 rfl
theorem zT34_9 : TT 34 9 L S M Q = TR (z_st (.aload 0) 1 9 L S M) 34 10 M Q := T_at zk34 rfl
theorem zT34_10 : TT 34 10 L S M Q = TR (z_st (.fload 77) 3 10 L S M) 34 13 M Q := T_at zk34 rfl
theorem zT34_13 : TT 34 13 L S M Q = TR (z_st (.iconst 5) 1 13 L S M) 34 14 M Q := T_at zk34 rfl
theorem zT34_14 : TT 34 14 L S M Q = TR (z_st (.iload 1) 1 14 L S M) 34 15 M Q := T_at zk34 rfl
theorem zT34_15 : TT 34 15 L S M Q = TR (z_st (.imul) 1 15 L S M) 34 16 M Q := T_at zk34 rfl
theorem zT34_16 : TT 34 16 L S M Q = TR (z_st (.iconst 1) 1 16 L S M) 34 17 M Q := T_at zk34 rfl
theorem zT34_17 : TT 34 17 L S M Q = TR (z_st (.iadd) 1 17 L S M) 34 18 M Q := T_at zk34 rfl
theorem zT34_18 : TT 34 18 L S M Q = TR (z_st (.iaload) 1 18 L S M) 34 19 M Q := T_at zk34 rfl
theorem zT34_19 : TT 34 19 L S M Q = TR (z_st (.istore 3) 1 19 L S M) 34 20 M Q := T_at zk34 rfl
theorem zT34_20 : TT 34 20 L S M Q = TR (z_st (.aload 0) 1 20 L S M) 34 21 M Q := T_at zk34 rfl
theorem zT34_21 : TT 34 21 L S M Q = TR (z_st (.fload 76) 3 21 L S M) 34 24 M Q := T_at zk34 rfl
theorem zT34_24 : TT 34 24 L S M Q = TR (z_st (.iload 1) 1 24 L S M) 34 25 M Q := T_at zk34 rfl
theorem zT34_25 : TT 34 25 L S M Q = TR (z_st (.iaload) 1 25 L S M) 34 26 M Q := T_at zk34 rfl
theorem zT34_26 : TT 34 26 L S M Q = TR (z_st (.tableswitch 123 0 3 #[56, 66, 74, 114]) 30 26 L S M) 34 56 M Q := T_at zk34 rfl
theorem zT34_56 : TT 34 56 L S M Q = TR (z_st (.aload 0) 1 56 L S M) 34 57 M Q := T_at zk34 rfl
theorem zT34_57 : TT 34 57 L S M Q = TR (z_st (.iconst 330) 3 57 L S M) 34 60 M Q := T_at zk34 rfl
theorem zT34_60 : TT 34 60 L S M Q = TR (z_st (.iload 2) 1 60 L S M) 34 61 M Q := T_at zk34 rfl
theorem zT34_61 : TT 34 61 L S M Q = TR (z_st (.iload 3) 1 61 L S M) 34 62 M Q := T_at zk34 rfl
theorem zT34_62 : TT 34 62 L S M Q = TR (z_st (.invokevirtual 11) 3 62 L S M) 34 65 M Q := T_at zk34 rfl
theorem zT34_65 : TT 34 65 L S M Q = TR (z_st (.ret 0) 1 65 L S M) 34 66 M Q := T_at zk34 rfl
theorem zT34_66 : TT 34 66 L S M Q = TR (z_st (.aload 0) 1 66 L S M) 34 67 M Q := T_at zk34 rfl
theorem zT34_67 : TT 34 67 L S M Q = TR (z_st (.iconst 330) 3 67 L S M) 34 70 M Q := T_at zk34 rfl
theorem zT34_70 : TT 34 70 L S M Q = TR (z_st (.invokevirtual 12) 3 70 L S M) 34 73 M Q := T_at zk34 rfl
theorem zT34_73 : TT 34 73 L S M Q = TR (z_st (.ret 0) 1 73 L S M) 34 74 M Q := T_at zk34 rfl
theorem zT34_74 : TT 34 74 L S M Q = TR (z_st (.aload 0) 1 74 L S M) 34 75 M Q := T_at zk34 rfl
theorem zT34_75 : TT 34 75 L S M Q = TR (z_st (.iconst 330) 3 75 L S M) 34 78 M Q := T_at zk34 rfl
theorem zT34_78 : TT 34 78 L S M Q = TR (z_st (.iload 2) 1 78 L S M) 34 79 M Q := T_at zk34 rfl
theorem zT34_79 : TT 34 79 L S M Q = TR (z_st (.iload 3) 1 79 L S M) 34 80 M Q := T_at zk34 rfl
theorem zT34_80 : TT 34 80 L S M Q = TR (z_st (.aload 0) 1 80 L S M) 34 81 M Q := T_at zk34 rfl
theorem zT34_81 : TT 34 81 L S M Q = TR (z_st (.fload 77) 3 81 L S M) 34 84 M Q := T_at zk34 rfl
theorem zT34_84 : TT 34 84 L S M Q = TR (z_st (.iconst 5) 1 84 L S M) 34 85 M Q := T_at zk34 rfl
theorem zT34_85 : TT 34 85 L S M Q = TR (z_st (.iload 1) 1 85 L S M) 34 86 M Q := T_at zk34 rfl
theorem zT34_86 : TT 34 86 L S M Q = TR (z_st (.imul) 1 86 L S M) 34 87 M Q := T_at zk34 rfl
theorem zT34_87 : TT 34 87 L S M Q = TR (z_st (.iconst 2) 1 87 L S M) 34 88 M Q := T_at zk34 rfl
theorem zT34_88 : TT 34 88 L S M Q = TR (z_st (.iadd) 1 88 L S M) 34 89 M Q := T_at zk34 rfl
theorem zT34_89 : TT 34 89 L S M Q = TR (z_st (.iaload) 1 89 L S M) 34 90 M Q := T_at zk34 rfl
theorem zT34_90 : TT 34 90 L S M Q = TR (z_st (.aload 0) 1 90 L S M) 34 91 M Q := T_at zk34 rfl
theorem zT34_91 : TT 34 91 L S M Q = TR (z_st (.fload 77) 3 91 L S M) 34 94 M Q := T_at zk34 rfl
theorem zT34_94 : TT 34 94 L S M Q = TR (z_st (.iconst 5) 1 94 L S M) 34 95 M Q := T_at zk34 rfl
theorem zT34_95 : TT 34 95 L S M Q = TR (z_st (.iload 1) 1 95 L S M) 34 96 M Q := T_at zk34 rfl
theorem zT34_96 : TT 34 96 L S M Q = TR (z_st (.imul) 1 96 L S M) 34 97 M Q := T_at zk34 rfl
theorem zT34_97 : TT 34 97 L S M Q = TR (z_st (.iconst 3) 1 97 L S M) 34 98 M Q := T_at zk34 rfl
theorem zT34_98 : TT 34 98 L S M Q = TR (z_st (.iadd) 1 98 L S M) 34 99 M Q := T_at zk34 rfl
theorem zT34_99 : TT 34 99 L S M Q = TR (z_st (.iaload) 1 99 L S M) 34 100 M Q := T_at zk34 rfl
theorem zT34_100 : TT 34 100 L S M Q = TR (z_st (.aload 0) 1 100 L S M) 34 101 M Q := T_at zk34 rfl
theorem zT34_101 : TT 34 101 L S M Q = TR (z_st (.fload 77) 3 101 L S M) 34 104 M Q := T_at zk34 rfl
theorem zT34_104 : TT 34 104 L S M Q = TR (z_st (.iconst 5) 1 104 L S M) 34 105 M Q := T_at zk34 rfl
theorem zT34_105 : TT 34 105 L S M Q = TR (z_st (.iload 1) 1 105 L S M) 34 106 M Q := T_at zk34 rfl
theorem zT34_106 : TT 34 106 L S M Q = TR (z_st (.imul) 1 106 L S M) 34 107 M Q := T_at zk34 rfl
theorem zT34_107 : TT 34 107 L S M Q = TR (z_st (.iconst 4) 1 107 L S M) 34 108 M Q := T_at zk34 rfl
theorem zT34_108 : TT 34 108 L S M Q = TR (z_st (.iadd) 1 108 L S M) 34 109 M Q := T_at zk34 rfl
theorem zT34_109 : TT 34 109 L S M Q = TR (z_st (.iaload) 1 109 L S M) 34 110 M Q := T_at zk34 rfl
theorem zT34_110 : TT 34 110 L S M Q = TR (z_st (.invokevirtual 13) 3 110 L S M) 34 113 M Q := T_at zk34 rfl
theorem zT34_113 : TT 34 113 L S M Q = TR (z_st (.ret 0) 1 113 L S M) 34 114 M Q := T_at zk34 rfl
theorem zT34_114 : TT 34 114 L S M Q = TR (z_st (.aload 0) 1 114 L S M) 34 115 M Q := T_at zk34 rfl
theorem zT34_115 : TT 34 115 L S M Q = TR (z_st (.iconst 330) 3 115 L S M) 34 118 M Q := T_at zk34 rfl
theorem zT34_118 : TT 34 118 L S M Q = TR (z_st (.iload 2) 1 118 L S M) 34 119 M Q := T_at zk34 rfl
theorem zT34_119 : TT 34 119 L S M Q = TR (z_st (.invokevirtual 14) 3 119 L S M) 34 122 M Q := T_at zk34 rfl
theorem zT34_122 : TT 34 122 L S M Q = TR (z_st (.ret 0) 1 122 L S M) 34 123 M Q := T_at zk34 rfl
theorem zT34_123 : TT 34 123 L S M Q = TR (z_st (.aload 0) 1 123 L S M) 34 124 M Q := T_at zk34 rfl
theorem zT34_124 : TT 34 124 L S M Q = TR (z_st (.iconst 330) 3 124 L S M) 34 127 M Q := T_at zk34 rfl
theorem zT34_127 : TT 34 127 L S M Q = TR (z_st (.iconst 1) 1 127 L S M) 34 128 M Q := T_at zk34 rfl
theorem zT34_128 : TT 34 128 L S M Q = TR (z_st (.invokevirtual 15) 3 128 L S M) 34 131 M Q := T_at zk34 rfl
theorem zT34_131 : TT 34 131 L S M Q = TR (z_st (.ret 0) 1 131 L S M) 34 132 M Q := T_at zk34 rfl
theorem zk35 : z_coL.getD 35 [] = zc35 := rfl
theorem zT35_0 : TT 35 0 L S M Q = TR (z_st (.aload 0) 1 0 L S M) 35 1 M Q := T_at zk35 rfl
theorem zT35_1 : TT 35 1 L S M Q = TR (z_st (.iconst 0) 1 1 L S M) 35 2 M Q := T_at zk35 rfl
theorem zT35_2 : TT 35 2 L S M Q = TR (z_st (.putfield 79) 3 2 L S M) 35 5 M Q := T_at zk35 rfl
theorem zT35_5 : TT 35 5 L S M Q = TR (z_st (.aload 0) 1 5 L S M) 35 6 M Q := T_at zk35 rfl
theorem zT35_6 : TT 35 6 L S M Q = TR (z_st (.iconst 0) 1 6 L S M) 35 7 M Q := T_at zk35 rfl
theorem zT35_7 : TT 35 7 L S M Q = TR (z_st (.putfield 78) 3 7 L S M) 35 10 M Q := T_at zk35 rfl
theorem zT35_10 : TT 35 10 L S M Q = TR (z_st (.aload 0) 1 10 L S M) 35 11 M Q := T_at zk35 rfl
theorem zT35_11 : TT 35 11 L S M Q = TR (z_st (.iconst (-1)) 1 11 L S M) 35 12 M Q := T_at zk35 rfl
theorem zT35_12 : TT 35 12 L S M Q = TR (z_st (.putfield 80) 3 12 L S M) 35 15 M Q := T_at zk35 rfl
theorem zT35_15 : TT 35 15 L S M Q = TR (z_st (.aload 0) 1 15 L S M) 35 16 M Q := T_at zk35 rfl
theorem zT35_16 : TT 35 16 L S M Q = TR (z_st (.getfield 80) 3 16 L S M) 35 19 M Q := T_at zk35 rfl
theorem zT35_19 : TT 35 19 L S M Q = TR (z_st (.iconst (-1)) 1 19 L S M) 35 20 M Q := T_at zk35 rfl
theorem zT35_20 : TT 35 20 L S M Q = TR (z_st (.if_icmp .ne 37) 3 20 L S M) 35 23 M Q := T_at zk35 rfl
theorem zT35_23 : TT 35 23 L S M Q = TR (z_st (.aload 0) 1 23 L S M) 35 24 M Q := T_at zk35 rfl
theorem zT35_24 : TT 35 24 L S M Q = TR (z_st (.invokevirtual 28) 3 24 L S M) 35 27 M Q := T_at zk35 rfl
theorem zT35_27 : TT 35 27 L S M Q = TR (z_st (.ifCond .ne 37) 3 27 L S M) 35 30 M Q := T_at zk35 rfl
theorem zT35_30 : TT 35 30 L S M Q = TR (z_st (.aload 0) 1 30 L S M) 35 31 M Q := T_at zk35 rfl
theorem zT35_31 : TT 35 31 L S M Q = TR (z_st (.invokevirtual 33) 3 31 L S M) 35 34 M Q := T_at zk35 rfl
theorem zT35_34 : TT 35 34 L S M Q = TR (z_st (.goto 15) 3 34 L S M) 35 37 M Q := T_at zk35 rfl
theorem zT35_37 : TT 35 37 L S M Q = TR (z_st (.aload 0) 1 37 L S M) 35 38 M Q := T_at zk35 rfl
theorem zT35_38 : TT 35 38 L S M Q = TR (z_st (.getfield 80) 3 38 L S M) 35 41 M Q := T_at zk35 rfl
theorem zT35_41 : TT 35 41 L S M Q = TR (z_st (.iconst (-1)) 1 41 L S M) 35 42 M Q := T_at zk35 rfl
theorem zT35_42 : TT 35 42 L S M Q = TR (z_st (.if_icmp .eq 53) 3 42 L S M) 35 45 M Q := T_at zk35 rfl
theorem zT35_45 : TT 35 45 L S M Q = TR (z_st (.iconst (-10)) 2 45 L S M) 35 47 M Q := T_at zk35 rfl
theorem zT35_47 : TT 35 47 L S M Q = TR (z_st (.aload 0) 1 47 L S M) 35 48 M Q := T_at zk35 rfl
theorem zT35_48 : TT 35 48 L S M Q = TR (z_st (.getfield 80) 3 48 L S M) 35 51 M Q := T_at zk35 rfl
theorem zT35_51 : TT 35 51 L S M Q = TR (z_st (.isub) 1 51 L S M) 35 52 M Q := T_at zk35 rfl
theorem zT35_52 : TT 35 52 L S M Q = TR (z_st (.ret 0) 1 52 L S M) 35 53 M Q := T_at zk35 rfl
theorem zT35_53 : TT 35 53 L S M Q = TR (z_st (.iconst 0) 1 53 L S M) 35 54 M Q := T_at zk35 rfl
theorem zT35_54 : TT 35 54 L S M Q = TR (z_st (.istore 1) 1 54 L S M) 35 55 M Q := T_at zk35 rfl
theorem zT35_55 : TT 35 55 L S M Q = TR (z_st (.iload 1) 1 55 L S M) 35 56 M Q := T_at zk35 rfl
theorem zT35_56 : TT 35 56 L S M Q = TR (z_st (.iconst 110) 2 56 L S M) 35 58 M Q := T_at zk35 rfl
theorem zT35_58 : TT 35 58 L S M Q = TR (z_st (.if_icmp .ge 78) 3 58 L S M) 35 61 M Q := T_at zk35 rfl
theorem zT35_61 : TT 35 61 L S M Q = TR (z_st (.aload 0) 1 61 L S M) 35 62 M Q := T_at zk35 rfl
theorem zT35_62 : TT 35 62 L S M Q = TR (z_st (.fload 71) 3 62 L S M) 35 65 M Q := T_at zk35 rfl
theorem zT35_65 : TT 35 65 L S M Q = TR (z_st (.iconst 330) 3 65 L S M) 35 68 M Q := T_at zk35 rfl
theorem zT35_68 : TT 35 68 L S M Q = TR (z_st (.iload 1) 1 68 L S M) 35 69 M Q := T_at zk35 rfl
theorem zT35_69 : TT 35 69 L S M Q = TR (z_st (.iadd) 1 69 L S M) 35 70 M Q := T_at zk35 rfl
theorem zT35_70 : TT 35 70 L S M Q = TR (z_st (.iconst 0) 1 70 L S M) 35 71 M Q := T_at zk35 rfl
theorem zT35_71 : TT 35 71 L S M Q = TR (z_st (.iastore) 1 71 L S M) 35 72 M Q := T_at zk35 rfl
theorem zT35_72 : TT 35 72 L S M Q = TR (z_st (.iinc 1 1) 3 72 L S M) 35 75 M Q := T_at zk35 rfl
theorem zT35_75 : TT 35 75 L S M Q = TR (z_st (.goto 55) 3 75 L S M) 35 78 M Q := T_at zk35 rfl
theorem zT35_78 : TT 35 78 L S M Q = TR (z_st (.aload 0) 1 78 L S M) 35 79 M Q := T_at zk35 rfl
theorem zT35_79 : TT 35 79 L S M Q = TR (z_st (.fload 71) 3 79 L S M) 35 82 M Q := T_at zk35 rfl
theorem zT35_82 : TT 35 82 L S M Q = TR (z_st (.iconst 383) 3 82 L S M) 35 85 M Q := T_at zk35 rfl
theorem zT35_85 : TT 35 85 L S M Q = TR (z_st (.iconst 2) 1 85 L S M) 35 86 M Q := T_at zk35 rfl
theorem zT35_86 : TT 35 86 L S M Q = TR (z_st (.iastore) 1 86 L S M) 35 87 M Q := T_at zk35 rfl
theorem zT35_87 : TT 35 87 L S M Q = TR (z_st (.iconst 0) 1 87 L S M) 35 88 M Q := T_at zk35 rfl
theorem zT35_88 : TT 35 88 L S M Q = TR (z_st (.istore 1) 1 88 L S M) 35 89 M Q := T_at zk35 rfl
theorem zT35_89 : TT 35 89 L S M Q = TR (z_st (.iload 1) 1 89 L S M) 35 90 M Q := T_at zk35 rfl
theorem zT35_90 : TT 35 90 L S M Q = TR (z_st (.aload 0) 1 90 L S M) 35 91 M Q := T_at zk35 rfl
theorem zT35_91 : TT 35 91 L S M Q = TR (z_st (.getfield 78) 3 91 L S M) 35 94 M Q := T_at zk35 rfl
theorem zT35_94 : TT 35 94 L S M Q = TR (z_st (.if_icmp .ge 117) 3 94 L S M) 35 97 M Q := T_at zk35 rfl
theorem zT35_97 : TT 35 97 L S M Q = TR (z_st (.aload 0) 1 97 L S M) 35 98 M Q := T_at zk35 rfl
theorem zT35_98 : TT 35 98 L S M Q = TR (z_st (.iload 1) 1 98 L S M) 35 99 M Q := T_at zk35 rfl
theorem zT35_99 : TT 35 99 L S M Q = TR (z_st (.invokevirtual 34) 3 99 L S M) 35 102 M Q := T_at zk35 rfl
theorem zT35_102 : TT 35 102 L S M Q = TR (z_st (.ifCond .ge 111) 3 102 L S M) 35 105 M Q := T_at zk35 rfl
theorem zT35_105 : TT 35 105 L S M Q = TR (z_st (.iconst (-1000)) 3 105 L S M) 35 108 M Q := T_at zk35 rfl
theorem zT35_108 : TT 35 108 L S M Q = TR (z_st (.iload 1) 1 108 L S M) 35 109 M Q := T_at zk35 rfl
theorem zT35_109 : TT 35 109 L S M Q = TR (z_st (.isub) 1 109 L S M) 35 110 M Q := T_at zk35 rfl
theorem zT35_110 : TT 35 110 L S M Q = TR (z_st (.ret 0) 1 110 L S M) 35 111 M Q := T_at zk35 rfl
theorem zT35_111 : TT 35 111 L S M Q = TR (z_st (.iinc 1 1) 3 111 L S M) 35 114 M Q := T_at zk35 rfl
theorem zT35_114 : TT 35 114 L S M Q = TR (z_st (.goto 89) 3 114 L S M) 35 117 M Q := T_at zk35 rfl
theorem zT35_117 : TT 35 117 L S M Q = TR (z_st (.aload 0) 1 117 L S M) 35 118 M Q := T_at zk35 rfl
theorem zT35_118 : TT 35 118 L S M Q = TR (z_st (.iconst 330) 3 118 L S M) 35 121 M Q := T_at zk35 rfl
theorem zT35_121 : TT 35 121 L S M Q = TR (z_st (.iconst 0) 1 121 L S M) 35 122 M Q := T_at zk35 rfl
theorem zT35_122 : TT 35 122 L S M Q = TR (z_st (.invokevirtual 9) 3 122 L S M) 35 125 M Q := T_at zk35 rfl
theorem zT35_125 : TT 35 125 L S M Q = TR (z_st (.aload 0) 1 125 L S M) 35 126 M Q := T_at zk35 rfl
theorem zT35_126 : TT 35 126 L S M Q = TR (z_st (.getfield 78) 3 126 L S M) 35 129 M Q := T_at zk35 rfl
theorem zT35_129 : TT 35 129 L S M Q = TR (z_st (.ret 0) 1 129 L S M) 35 130 M Q := T_at zk35 rfl
theorem zk36 : z_coL.getD 36 [] = zc36 := rfl
theorem zT36_0 : TT 36 0 L S M Q = TR (z_st (.iload 1) 1 0 L S M) 36 1 M Q := T_at zk36 rfl
theorem zT36_1 : TT 36 1 L S M Q = TR (z_st (.iconst 3) 1 1 L S M) 36 2 M Q := T_at zk36 rfl
theorem zT36_2 : TT 36 2 L S M Q = TR (z_st (.invokestatic 5) 3 2 L S M) 36 5 M Q := T_at zk36 rfl
theorem zT36_5 : TT 36 5 L S M Q = TR (z_st (.istore 2) 1 5 L S M) 36 6 M Q := T_at zk36 rfl
theorem zT36_6 : TT 36 6 L S M Q = TR (z_st (.aload 0) 1 6 L S M) 36 7 M Q := T_at zk36 rfl
theorem zT36_7 : TT 36 7 L S M Q = TR (z_st (.dup) 1 7 L S M) 36 8 M Q := T_at zk36 rfl
theorem zT36_8 : TT 36 8 L S M Q = TR (z_st (.getfield 81) 3 8 L S M) 36 11 M Q := T_at zk36 rfl
theorem zT36_11 : TT 36 11 L S M Q = TR (z_st (.iload 1) 1 11 L S M) 36 12 M Q := T_at zk36 rfl
theorem zT36_12 : TT 36 12 L S M Q = TR (z_st (.iconst 0) 1 12 L S M) 36 13 M Q := T_at zk36 rfl
theorem zT36_13 : TT 36 13 L S M Q = TR (z_st (.invokestatic 5) 3 13 L S M) 36 16 M Q := T_at zk36 rfl
theorem zT36_16 : TT 36 16 L S M Q = TR (z_st (.ifCond .eq 27) 3 16 L S M) 36 19 M Q := T_at zk36 rfl
theorem zT36_19 : TT 36 19 L S M Q = TR (z_st (.iload 2) 1 19 L S M) 36 20 M Q := T_at zk36 rfl
theorem zT36_20 : TT 36 20 L S M Q = TR (z_st (.ifCond .ne 27) 3 20 L S M) 36 23 M Q := T_at zk36 rfl
theorem zT36_23 : TT 36 23 L S M Q = TR (z_st (.iconst 1) 1 23 L S M) 36 24 M Q := T_at zk36 rfl
theorem zT36_24 : TT 36 24 L S M Q = TR (z_st (.goto 28) 3 24 L S M) 36 27 M Q := T_at zk36 rfl
theorem zT36_27 : TT 36 27 L S M Q = TR (z_st (.iconst 0) 1 27 L S M) 36 28 M Q := T_at zk36 rfl
theorem zT36_28 : TT 36 28 L S M Q = TR (z_st (.iadd) 1 28 L S M) 36 29 M Q := T_at zk36 rfl
theorem zT36_29 : TT 36 29 L S M Q = TR (z_st (.putfield 81) 3 29 L S M) 36 32 M Q := T_at zk36 rfl
theorem zT36_32 : TT 36 32 L S M Q = TR (z_st (.aload 0) 1 32 L S M) 36 33 M Q := T_at zk36 rfl
theorem zT36_33 : TT 36 33 L S M Q = TR (z_st (.dup) 1 33 L S M) 36 34 M Q := T_at zk36 rfl
theorem zT36_34 : TT 36 34 L S M Q = TR (z_st (.getfield 83) 3 34 L S M) 36 37 M Q := T_at zk36 rfl
theorem zT36_37 : TT 36 37 L S M Q = TR (z_st (.iload 1) 1 37 L S M) 36 38 M Q := T_at zk36 rfl
theorem zT36_38 : TT 36 38 L S M Q = TR (z_st (.iconst 0) 1 38 L S M) 36 39 M Q := T_at zk36 rfl
theorem zT36_39 : TT 36 39 L S M Q = TR (z_st (.invokestatic 5) 3 39 L S M) 36 42 M Q := T_at zk36 rfl
theorem zT36_42 : TT 36 42 L S M Q = TR (z_st (.ifCond .eq 53) 3 42 L S M) 36 45 M Q := T_at zk36 rfl
theorem zT36_45 : TT 36 45 L S M Q = TR (z_st (.iload 2) 1 45 L S M) 36 46 M Q := T_at zk36 rfl
theorem zT36_46 : TT 36 46 L S M Q = TR (z_st (.ifCond .eq 53) 3 46 L S M) 36 49 M Q := T_at zk36 rfl
theorem zT36_49 : TT 36 49 L S M Q = TR (z_st (.iconst 1) 1 49 L S M) 36 50 M Q := T_at zk36 rfl
theorem zT36_50 : TT 36 50 L S M Q = TR (z_st (.goto 54) 3 50 L S M) 36 53 M Q := T_at zk36 rfl
theorem zT36_53 : TT 36 53 L S M Q = TR (z_st (.iconst 0) 1 53 L S M) 36 54 M Q := T_at zk36 rfl
theorem zT36_54 : TT 36 54 L S M Q = TR (z_st (.iadd) 1 54 L S M) 36 55 M Q := T_at zk36 rfl
theorem zT36_55 : TT 36 55 L S M Q = TR (z_st (.putfield 83) 3 55 L S M) 36 58 M Q := T_at zk36 rfl
theorem zT36_58 : TT 36 58 L S M Q = TR (z_st (.aload 0) 1 58 L S M) 36 59 M Q := T_at zk36 rfl
theorem zT36_59 : TT 36 59 L S M Q = TR (z_st (.dup) 1 59 L S M) 36 60 M Q := T_at zk36 rfl
theorem zT36_60 : TT 36 60 L S M Q = TR (z_st (.getfield 82) 3 60 L S M) 36 63 M Q := T_at zk36 rfl
theorem zT36_63 : TT 36 63 L S M Q = TR (z_st (.iload 1) 1 63 L S M) 36 64 M Q := T_at zk36 rfl
theorem zT36_64 : TT 36 64 L S M Q = TR (z_st (.iconst 1) 1 64 L S M) 36 65 M Q := T_at zk36 rfl
theorem zT36_65 : TT 36 65 L S M Q = TR (z_st (.invokestatic 5) 3 65 L S M) 36 68 M Q := T_at zk36 rfl
theorem zT36_68 : TT 36 68 L S M Q = TR (z_st (.ifCond .eq 75) 3 68 L S M) 36 71 M Q := T_at zk36 rfl
theorem zT36_71 : TT 36 71 L S M Q = TR (z_st (.iconst 1) 1 71 L S M) 36 72 M Q := T_at zk36 rfl
theorem zT36_72 : TT 36 72 L S M Q = TR (z_st (.goto 76) 3 72 L S M) 36 75 M Q := T_at zk36 rfl
theorem zT36_75 : TT 36 75 L S M Q = TR (z_st (.iconst 0) 1 75 L S M) 36 76 M Q := T_at zk36 rfl
theorem zT36_76 : TT 36 76 L S M Q = TR (z_st (.iadd) 1 76 L S M) 36 77 M Q := T_at zk36 rfl
theorem zT36_77 : TT 36 77 L S M Q = TR (z_st (.putfield 82) 3 77 L S M) 36 80 M Q := T_at zk36 rfl
theorem zT36_80 : TT 36 80 L S M Q = TR (z_st (.aload 0) 1 80 L S M) 36 81 M Q := T_at zk36 rfl
theorem zT36_81 : TT 36 81 L S M Q = TR (z_st (.dup) 1 81 L S M) 36 82 M Q := T_at zk36 rfl
theorem zT36_82 : TT 36 82 L S M Q = TR (z_st (.getfield 85) 3 82 L S M) 36 85 M Q := T_at zk36 rfl
theorem zT36_85 : TT 36 85 L S M Q = TR (z_st (.iload 1) 1 85 L S M) 36 86 M Q := T_at zk36 rfl
theorem zT36_86 : TT 36 86 L S M Q = TR (z_st (.iconst 2) 1 86 L S M) 36 87 M Q := T_at zk36 rfl
theorem zT36_87 : TT 36 87 L S M Q = TR (z_st (.invokestatic 5) 3 87 L S M) 36 90 M Q := T_at zk36 rfl
theorem zT36_90 : TT 36 90 L S M Q = TR (z_st (.ifCond .eq 97) 3 90 L S M) 36 93 M Q := T_at zk36 rfl
theorem zT36_93 : TT 36 93 L S M Q = TR (z_st (.iconst 1) 1 93 L S M) 36 94 M Q := T_at zk36 rfl
theorem zT36_94 : TT 36 94 L S M Q = TR (z_st (.goto 98) 3 94 L S M) 36 97 M Q := T_at zk36 rfl
theorem zT36_97 : TT 36 97 L S M Q = TR (z_st (.iconst 0) 1 97 L S M) 36 98 M Q := T_at zk36 rfl
theorem zT36_98 : TT 36 98 L S M Q = TR (z_st (.iadd) 1 98 L S M) 36 99 M Q := T_at zk36 rfl
theorem zT36_99 : TT 36 99 L S M Q = TR (z_st (.putfield 85) 3 99 L S M) 36 102 M Q := T_at zk36 rfl
theorem zT36_102 : TT 36 102 L S M Q = TR (z_st (.return_) 1 102 L S M) 36 103 M Q := T_at zk36 rfl
theorem zk37 : z_coL.getD 37 [] = zc37 := rfl
theorem zT37_0 : TT 37 0 L S M Q = TR (z_st (.aload 0) 1 0 L S M) 37 1 M Q := T_at zk37 rfl
theorem zT37_1 : TT 37 1 L S M Q = TR (z_st (.iconst 0) 1 1 L S M) 37 2 M Q := T_at zk37 rfl
theorem zT37_2 : TT 37 2 L S M Q = TR (z_st (.putfield 81) 3 2 L S M) 37 5 M Q := T_at zk37 rfl
theorem zT37_5 : TT 37 5 L S M Q = TR (z_st (.aload 0) 1 5 L S M) 37 6 M Q := T_at zk37 rfl
theorem zT37_6 : TT 37 6 L S M Q = TR (z_st (.iconst 0) 1 6 L S M) 37 7 M Q := T_at zk37 rfl
theorem zT37_7 : TT 37 7 L S M Q = TR (z_st (.putfield 82) 3 7 L S M) 37 10 M Q := T_at zk37 rfl
theorem zT37_10 : TT 37 10 L S M Q = TR (z_st (.aload 0) 1 10 L S M) 37 11 M Q := T_at zk37 rfl
theorem zT37_11 : TT 37 11 L S M Q = TR (z_st (.iconst 0) 1 11 L S M) 37 12 M Q := T_at zk37 rfl
theorem zT37_12 : TT 37 12 L S M Q = TR (z_st (.putfield 83) 3 12 L S M) 37 15 M Q := T_at zk37 rfl
theorem zT37_15 : TT 37 15 L S M Q = TR (z_st (.aload 0) 1 15 L S M) 37 16 M Q := T_at zk37 rfl
theorem zT37_16 : TT 37 16 L S M Q = TR (z_st (.iconst 0) 1 16 L S M) 37 17 M Q := T_at zk37 rfl
theorem zT37_17 : TT 37 17 L S M Q = TR (z_st (.putfield 84) 3 17 L S M) 37 20 M Q := T_at zk37 rfl
theorem zT37_20 : TT 37 20 L S M Q = TR (z_st (.aload 0) 1 20 L S M) 37 21 M Q := T_at zk37 rfl
theorem zT37_21 : TT 37 21 L S M Q = TR (z_st (.iconst 0) 1 21 L S M) 37 22 M Q := T_at zk37 rfl
theorem zT37_22 : TT 37 22 L S M Q = TR (z_st (.putfield 85) 3 22 L S M) 37 25 M Q := T_at zk37 rfl
theorem zT37_25 : TT 37 25 L S M Q = TR (z_st (.iconst 0) 1 25 L S M) 37 26 M Q := T_at zk37 rfl
theorem zT37_26 : TT 37 26 L S M Q = TR (z_st (.istore 3) 1 26 L S M) 37 27 M Q := T_at zk37 rfl
theorem zT37_27 : TT 37 27 L S M Q = TR (z_st (.iload 3) 1 27 L S M) 37 28 M Q := T_at zk37 rfl
theorem zT37_28 : TT 37 28 L S M Q = TR (z_st (.aload 0) 1 28 L S M) 37 29 M Q := T_at zk37 rfl
theorem zT37_29 : TT 37 29 L S M Q = TR (z_st (.fload 71) 3 29 L S M) 37 32 M Q := T_at zk37 rfl
theorem zT37_32 : TT 37 32 L S M Q = TR (z_st (.iconst 0) 1 32 L S M) 37 33 M Q := T_at zk37 rfl
theorem zT37_33 : TT 37 33 L S M Q = TR (z_st (.iaload) 1 33 L S M) 37 34 M Q := T_at zk37 rfl
theorem zT37_34 : TT 37 34 L S M Q = TR (z_st (.if_icmp .ge 64) 3 34 L S M) 37 37 M Q := T_at zk37 rfl
theorem zT37_37 : TT 37 37 L S M Q = TR (z_st (.iload 3) 1 37 L S M) 37 38 M Q := T_at zk37 rfl
theorem zT37_38 : TT 37 38 L S M Q = TR (z_st (.iload 1) 1 38 L S M) 37 39 M Q := T_at zk37 rfl
theorem zT37_39 : TT 37 39 L S M Q = TR (z_st (.if_icmp .eq 58) 3 39 L S M) 37 42 M Q := T_at zk37 rfl
theorem zT37_42 : TT 37 42 L S M Q = TR (z_st (.aload 0) 1 42 L S M) 37 43 M Q := T_at zk37 rfl
theorem zT37_43 : TT 37 43 L S M Q = TR (z_st (.aload 0) 1 43 L S M) 37 44 M Q := T_at zk37 rfl
theorem zT37_44 : TT 37 44 L S M Q = TR (z_st (.fload 71) 3 44 L S M) 37 47 M Q := T_at zk37 rfl
theorem zT37_47 : TT 37 47 L S M Q = TR (z_st (.iconst 1) 1 47 L S M) 37 48 M Q := T_at zk37 rfl
theorem zT37_48 : TT 37 48 L S M Q = TR (z_st (.iload 3) 1 48 L S M) 37 49 M Q := T_at zk37 rfl
theorem zT37_49 : TT 37 49 L S M Q = TR (z_st (.iadd) 1 49 L S M) 37 50 M Q := T_at zk37 rfl
theorem zT37_50 : TT 37 50 L S M Q = TR (z_st (.iaload) 1 50 L S M) 37 51 M Q := T_at zk37 rfl
theorem zT37_51 : TT 37 51 L S M Q = TR (z_st (.iload 2) 1 51 L S M) 37 52 M Q := T_at zk37 rfl
theorem zT37_52 : TT 37 52 L S M Q = TR (z_st (.invokestatic 23) 3 52 L S M) 37 55 M Q := T_at zk37 rfl
theorem zT37_55 : TT 37 55 L S M Q = TR (z_st (.invokevirtual 36) 3 55 L S M) 37 58 M Q := T_at zk37 rfl
theorem zT37_58 : TT 37 58 L S M Q = TR (z_st (.iinc 3 1) 3 58 L S M) 37 61 M Q := T_at zk37 rfl
theorem zT37_61 : TT 37 61 L S M Q = TR (z_st (.goto 27) 3 61 L S M) 37 64 M Q := T_at zk37 rfl
theorem zT37_64 : TT 37 64 L S M Q = TR (z_st (.return_) 1 64 L S M) 37 65 M Q := T_at zk37 rfl
theorem zk38 : z_coL.getD 38 [] = zc38 := rfl
theorem zT38_0 : TT 38 0 L S M Q = TR (z_st (.iconst 0) 1 0 L S M) 38 1 M Q := T_at zk38 rfl
theorem zT38_1 : TT 38 1 L S M Q = TR (z_st (.iload 1) 1 1 L S M) 38 2 M Q := T_at zk38 rfl
theorem zT38_2 : TT 38 2 L S M Q = TR (z_st (.iload 4) 2 2 L S M) 38 4 M Q := T_at zk38 rfl
theorem zT38_4 : TT 38 4 L S M Q = TR (z_st (.iload 0) 1 4 L S M) 38 5 M Q := T_at zk38 rfl
theorem zT38_5 : TT 38 5 L S M Q = TR (z_st (.isub) 1 5 L S M) 38 6 M Q := T_at zk38 rfl
theorem zT38_6 : TT 38 6 L S M Q = TR (z_st (.isub) 1 6 L S M) 38 7 M Q := T_at zk38 rfl
theorem zT38_7 : TT 38 7 L S M Q = TR (z_st (.iload 6) 2 7 L S M) 38 9 M Q := T_at zk38 rfl
theorem zT38_9 : TT 38 9 L S M Q = TR (z_st (.isub) 1 9 L S M) 38 10 M Q := T_at zk38 rfl
theorem zT38_10 : TT 38 10 L S M Q = TR (z_st (.invokestatic 7) 3 10 L S M) 38 13 M Q := T_at zk38 rfl
theorem zT38_13 : TT 38 13 L S M Q = TR (z_st (.istore 9) 2 13 L S M) 38 15 M Q := T_at zk38 rfl
theorem zT38_15 : TT 38 15 L S M Q = TR (z_st (.iconst 0) 1 15 L S M) 38 16 M Q := T_at zk38 rfl
theorem zT38_16 : TT 38 16 L S M Q = TR (z_st (.iload 3) 1 16 L S M) 38 17 M Q := T_at zk38 rfl
theorem zT38_17 : TT 38 17 L S M Q = TR (z_st (.iload 5) 2 17 L S M) 38 19 M Q := T_at zk38 rfl
theorem zT38_19 : TT 38 19 L S M Q = TR (z_st (.iload 2) 1 19 L S M) 38 20 M Q := T_at zk38 rfl
theorem zT38_20 : TT 38 20 L S M Q = TR (z_st (.isub) 1 20 L S M) 38 21 M Q := T_at zk38 rfl
theorem zT38_21 : TT 38 21 L S M Q = TR (z_st (.isub) 1 21 L S M) 38 22 M Q := T_at zk38 rfl
theorem zT38_22 : TT 38 22 L S M Q = TR (z_st (.iload 7) 2 22 L S M) 38 24 M Q := T_at zk38 rfl
theorem zT38_24 : TT 38 24 L S M Q = TR (z_st (.isub) 1 24 L S M) 38 25 M Q := T_at zk38 rfl
theorem zT38_25 : TT 38 25 L S M Q = TR (z_st (.invokestatic 7) 3 25 L S M) 38 28 M Q := T_at zk38 rfl
theorem zT38_28 : TT 38 28 L S M Q = TR (z_st (.istore 10) 2 28 L S M) 38 30 M Q := T_at zk38 rfl
theorem zT38_30 : TT 38 30 L S M Q = TR (z_st (.iload 0) 1 30 L S M) 38 31 M Q := T_at zk38 rfl
theorem zT38_31 : TT 38 31 L S M Q = TR (z_st (.iload 4) 2 31 L S M) 38 33 M Q := T_at zk38 rfl
theorem zT38_33 : TT 38 33 L S M Q = TR (z_st (.if_icmp .gt 56) 3 33 L S M) 38 36 M Q := T_at zk38 rfl
theorem zT38_36 : TT 38 36 L S M Q = TR (z_st (.iload 2) 1 36 L S M) 38 37 M Q := T_at zk38 rfl
theorem zT38_37 : TT 38 37 L S M Q = TR (z_st (.iload 5) 2 37 L S M) 38 39 M Q := T_at zk38 rfl
theorem zT38_39 : TT 38 39 L S M Q = TR (z_st (.if_icmp .gt 56) 3 39 L S M) 38 42 M Q := T_at zk38 rfl
theorem zT38_42 : TT 38 42 L S M Q = TR (z_st (.iload 9) 2 42 L S M) 38 44 M Q := T_at zk38 rfl
theorem zT38_44 : TT 38 44 L S M Q = TR (z_st (.iload 10) 2 44 L S M) 38 46 M Q := T_at zk38 rfl
theorem zT38_46 : TT 38 46 L S M Q = TR (z_st (.iadd) 1 46 L S M) 38 47 M Q := T_at zk38 rfl
theorem zT38_47 : TT 38 47 L S M Q = TR (z_st (.iload 8) 2 47 L S M) 38 49 M Q := T_at zk38 rfl
theorem zT38_49 : TT 38 49 L S M Q = TR (z_st (.if_icmp .gt 56) 3 49 L S M) 38 52 M Q := T_at zk38 rfl
theorem zT38_52 : TT 38 52 L S M Q = TR (z_st (.iconst 1) 1 52 L S M) 38 53 M Q := T_at zk38 rfl
theorem zT38_53 : TT 38 53 L S M Q = TR (z_st (.goto 57) 3 53 L S M) 38 56 M Q := T_at zk38 rfl
theorem zT38_56 : TT 38 56 L S M Q = TR (z_st (.iconst 0) 1 56 L S M) 38 57 M Q := T_at zk38 rfl
theorem zT38_57 : TT 38 57 L S M Q = TR (z_st (.ret 1) 1 57 L S M) 38 58 M Q := T_at zk38 rfl
theorem zk39 : z_coL.getD 39 [] = zc39 := rfl
theorem zT39_0 : TT 39 0 L S M Q = TR (z_st (.iconst 0) 1 0 L S M) 39 1 M Q := T_at zk39 rfl
theorem zT39_1 : TT 39 1 L S M Q = TR (z_st (.istore 2) 1 1 L S M) 39 2 M Q := T_at zk39 rfl
theorem zT39_2 : TT 39 2 L S M Q = TR (z_st (.iconst 0) 1 2 L S M) 39 3 M Q := T_at zk39 rfl
theorem zT39_3 : TT 39 3 L S M Q = TR (z_st (.istore 3) 1 3 L S M) 39 4 M Q := T_at zk39 rfl
theorem zT39_4 : TT 39 4 L S M Q = TR (z_st (.iload 3) 1 4 L S M) 39 5 M Q := T_at zk39 rfl
theorem zT39_5 : TT 39 5 L S M Q = TR (z_st (.aload 0) 1 5 L S M) 39 6 M Q := T_at zk39 rfl
theorem zT39_6 : TT 39 6 L S M Q = TR (z_st (.fload 71) 3 6 L S M) 39 9 M Q := T_at zk39 rfl
theorem zT39_9 : TT 39 9 L S M Q = TR (z_st (.iconst 14) 2 9 L S M) 39 11 M Q := T_at zk39 rfl
theorem zT39_11 : TT 39 11 L S M Q = TR (z_st (.iload 1) 1 11 L S M) 39 12 M Q := T_at zk39 rfl
theorem zT39_12 : TT 39 12 L S M Q = TR (z_st (.iadd) 1 12 L S M) 39 13 M Q := T_at zk39 rfl
theorem zT39_13 : TT 39 13 L S M Q = TR (z_st (.iaload) 1 13 L S M) 39 14 M Q := T_at zk39 rfl
theorem zT39_14 : TT 39 14 L S M Q = TR (z_st (.if_icmp .ge 44) 3 14 L S M) 39 17 M Q := T_at zk39 rfl
theorem zT39_17 : TT 39 17 L S M Q = TR (z_st (.iload 2) 1 17 L S M) 39 18 M Q := T_at zk39 rfl
theorem zT39_18 : TT 39 18 L S M Q = TR (z_st (.aload 0) 1 18 L S M) 39 19 M Q := T_at zk39 rfl
theorem zT39_19 : TT 39 19 L S M Q = TR (z_st (.fload 71) 3 19 L S M) 39 22 M Q := T_at zk39 rfl
theorem zT39_22 : TT 39 22 L S M Q = TR (z_st (.iconst 17) 2 22 L S M) 39 24 M Q := T_at zk39 rfl
theorem zT39_24 : TT 39 24 L S M Q = TR (z_st (.iconst 12) 2 24 L S M) 39 26 M Q := T_at zk39 rfl
theorem zT39_26 : TT 39 26 L S M Q = TR (z_st (.iload 1) 1 26 L S M) 39 27 M Q := T_at zk39 rfl
theorem zT39_27 : TT 39 27 L S M Q = TR (z_st (.imul) 1 27 L S M) 39 28 M Q := T_at zk39 rfl
theorem zT39_28 : TT 39 28 L S M Q = TR (z_st (.iadd) 1 28 L S M) 39 29 M Q := T_at zk39 rfl
theorem zT39_29 : TT 39 29 L S M Q = TR (z_st (.iconst 4) 1 29 L S M) 39 30 M Q := T_at zk39 rfl
theorem zT39_30 : TT 39 30 L S M Q = TR (z_st (.iload 3) 1 30 L S M) 39 31 M Q := T_at zk39 rfl
theorem zT39_31 : TT 39 31 L S M Q = TR (z_st (.imul) 1 31 L S M) 39 32 M Q := T_at zk39 rfl
theorem zT39_32 : TT 39 32 L S M Q = TR (z_st (.iadd) 1 32 L S M) 39 33 M Q := T_at zk39 rfl
theorem zT39_33 : TT 39 33 L S M Q = TR (z_st (.iconst 3) 1 33 L S M) 39 34 M Q := T_at zk39 rfl
theorem zT39_34 : TT 39 34 L S M Q = TR (z_st (.iadd) 1 34 L S M) 39 35 M Q := T_at zk39 rfl
theorem zT39_35 : TT 39 35 L S M Q = TR (z_st (.iaload) 1 35 L S M) 39 36 M Q := T_at zk39 rfl
theorem zT39_36 : TT 39 36 L S M Q = TR (z_st (.iadd) 1 36 L S M) 39 37 M Q := T_at zk39 rfl
theorem zT39_37 : TT 39 37 L S M Q = TR (z_st (.istore 2) 1 37 L S M) 39 38 M Q := T_at zk39 rfl
theorem zT39_38 : TT 39 38 L S M Q = TR (z_st (.iinc 3 1) 3 38 L S M) 39 41 M Q := T_at zk39 rfl
theorem zT39_41 : TT 39 41 L S M Q = TR (z_st (.goto 4) 3 41 L S M) 39 44 M Q := T_at zk39 rfl
theorem zT39_44 : TT 39 44 L S M Q = TR (z_st (.iload 2) 1 44 L S M) 39 45 M Q := T_at zk39 rfl
theorem zT39_45 : TT 39 45 L S M Q = TR (z_st (.ret 0) 1 45 L S M) 39 46 M Q := T_at zk39 rfl
theorem zk40 : z_coL.getD 40 [] = zc40 := rfl
theorem zT40_0 : TT 40 0 L S M Q = TR (z_st (.iload 2) 1 0 L S M) 40 1 M Q := T_at zk40 rfl
theorem zT40_1 : TT 40 1 L S M Q = TR (z_st (.istore 3) 1 1 L S M) 40 2 M Q := T_at zk40 rfl
theorem zT40_2 : TT 40 2 L S M Q = TR (z_st (.iconst 0) 1 2 L S M) 40 3 M Q := T_at zk40 rfl
theorem zT40_3 : TT 40 3 L S M Q = TR (z_st (.istore 4) 2 3 L S M) 40 5 M Q := T_at zk40 rfl
theorem zT40_5 : TT 40 5 L S M Q = TR (z_st (.iload 4) 2 5 L S M) 40 7 M Q := T_at zk40 rfl
theorem zT40_7 : TT 40 7 L S M Q = TR (z_st (.aload 0) 1 7 L S M) 40 8 M Q := T_at zk40 rfl
theorem zT40_8 : TT 40 8 L S M Q = TR (z_st (.fload 71) 3 8 L S M) 40 11 M Q := T_at zk40 rfl
theorem zT40_11 : TT 40 11 L S M Q = TR (z_st (.iconst 14) 2 11 L S M) 40 13 M Q := T_at zk40 rfl
theorem zT40_13 : TT 40 13 L S M Q = TR (z_st (.iload 1) 1 13 L S M) 40 14 M Q := T_at zk40 rfl
theorem zT40_14 : TT 40 14 L S M Q = TR (z_st (.iadd) 1 14 L S M) 40 15 M Q := T_at zk40 rfl
theorem zT40_15 : TT 40 15 L S M Q = TR (z_st (.iaload) 1 15 L S M) 40 16 M Q := T_at zk40 rfl
theorem zT40_16 : TT 40 16 L S M Q = TR (z_st (.if_icmp .ge 70) 3 16 L S M) 40 19 M Q := T_at zk40 rfl
theorem zT40_19 : TT 40 19 L S M Q = TR (z_st (.iload 3) 1 19 L S M) 40 20 M Q := T_at zk40 rfl
theorem zT40_20 : TT 40 20 L S M Q = TR (z_st (.aload 0) 1 20 L S M) 40 21 M Q := T_at zk40 rfl
theorem zT40_21 : TT 40 21 L S M Q = TR (z_st (.fload 71) 3 21 L S M) 40 24 M Q := T_at zk40 rfl
theorem zT40_24 : TT 40 24 L S M Q = TR (z_st (.iconst 17) 2 24 L S M) 40 26 M Q := T_at zk40 rfl
theorem zT40_26 : TT 40 26 L S M Q = TR (z_st (.iconst 12) 2 26 L S M) 40 28 M Q := T_at zk40 rfl
theorem zT40_28 : TT 40 28 L S M Q = TR (z_st (.iload 1) 1 28 L S M) 40 29 M Q := T_at zk40 rfl
theorem zT40_29 : TT 40 29 L S M Q = TR (z_st (.imul) 1 29 L S M) 40 30 M Q := T_at zk40 rfl
theorem zT40_30 : TT 40 30 L S M Q = TR (z_st (.iadd) 1 30 L S M) 40 31 M Q := T_at zk40 rfl
theorem zT40_31 : TT 40 31 L S M Q = TR (z_st (.iconst 4) 1 31 L S M) 40 32 M Q := T_at zk40 rfl
theorem zT40_32 : TT 40 32 L S M Q = TR (z_st (.iload 4) 2 32 L S M) 40 34 M Q := T_at zk40 rfl
theorem zT40_34 : TT 40 34 L S M Q = TR (z_st (.imul) 1 34 L S M) 40 35 M Q := T_at zk40 rfl
theorem zT40_35 : TT 40 35 L S M Q = TR (z_st (.iadd) 1 35 L S M) 40 36 M Q := T_at zk40 rfl
theorem zT40_36 : TT 40 36 L S M Q = TR (z_st (.iconst 3) 1 36 L S M) 40 37 M Q := T_at zk40 rfl
theorem zT40_37 : TT 40 37 L S M Q = TR (z_st (.iadd) 1 37 L S M) 40 38 M Q := T_at zk40 rfl
theorem zT40_38 : TT 40 38 L S M Q = TR (z_st (.iaload) 1 38 L S M) 40 39 M Q := T_at zk40 rfl
theorem zT40_39 : TT 40 39 L S M Q = TR (z_st (.if_icmp .lt 70) 3 39 L S M) 40 42 M Q := T_at zk40 rfl
theorem zT40_42 : TT 40 42 L S M Q = TR (z_st (.iload 3) 1 42 L S M) 40 43 M Q := T_at zk40 rfl
theorem zT40_43 : TT 40 43 L S M Q = TR (z_st (.aload 0) 1 43 L S M) 40 44 M Q := T_at zk40 rfl
theorem zT40_44 : TT 40 44 L S M Q = TR (z_st (.fload 71) 3 44 L S M) 40 47 M Q := T_at zk40 rfl
theorem zT40_47 : TT 40 47 L S M Q = TR (z_st (.iconst 17) 2 47 L S M) 40 49 M Q := T_at zk40 rfl
theorem zT40_49 : TT 40 49 L S M Q = TR (z_st (.iconst 12) 2 49 L S M) 40 51 M Q := T_at zk40 rfl
theorem zT40_51 : TT 40 51 L S M Q = TR (z_st (.iload 1) 1 51 L S M) 40 52 M Q := T_at zk40 rfl
theorem zT40_52 : TT 40 52 L S M Q = TR (z_st (.imul) 1 52 L S M) 40 53 M Q := T_at zk40 rfl
theorem zT40_53 : TT 40 53 L S M Q = TR (z_st (.iadd) 1 53 L S M) 40 54 M Q := T_at zk40 rfl
theorem zT40_54 : TT 40 54 L S M Q = TR (z_st (.iconst 4) 1 54 L S M) 40 55 M Q := T_at zk40 rfl
theorem zT40_55 : TT 40 55 L S M Q = TR (z_st (.iload 4) 2 55 L S M) 40 57 M Q := T_at zk40 rfl
theorem zT40_57 : TT 40 57 L S M Q = TR (z_st (.imul) 1 57 L S M) 40 58 M Q := T_at zk40 rfl
theorem zT40_58 : TT 40 58 L S M Q = TR (z_st (.iadd) 1 58 L S M) 40 59 M Q := T_at zk40 rfl
theorem zT40_59 : TT 40 59 L S M Q = TR (z_st (.iconst 3) 1 59 L S M) 40 60 M Q := T_at zk40 rfl
theorem zT40_60 : TT 40 60 L S M Q = TR (z_st (.iadd) 1 60 L S M) 40 61 M Q := T_at zk40 rfl
theorem zT40_61 : TT 40 61 L S M Q = TR (z_st (.iaload) 1 61 L S M) 40 62 M Q := T_at zk40 rfl
theorem zT40_62 : TT 40 62 L S M Q = TR (z_st (.isub) 1 62 L S M) 40 63 M Q := T_at zk40 rfl
theorem zT40_63 : TT 40 63 L S M Q = TR (z_st (.istore 3) 1 63 L S M) 40 64 M Q := T_at zk40 rfl
theorem zT40_64 : TT 40 64 L S M Q = TR (z_st (.iinc 4 1) 3 64 L S M) 40 67 M Q := T_at zk40 rfl
theorem zT40_67 : TT 40 67 L S M Q = TR (z_st (.goto 5) 3 67 L S M) 40 70 M Q := T_at zk40 rfl
theorem zT40_70 : TT 40 70 L S M Q = TR (z_st (.iconst 8) 2 70 L S M) 40 72 M Q := T_at zk40 rfl
theorem zT40_72 : TT 40 72 L S M Q = TR (z_st (.iload 4) 2 72 L S M) 40 74 M Q := T_at zk40 rfl
theorem zT40_74 : TT 40 74 L S M Q = TR (z_st (.imul) 1 74 L S M) 40 75 M Q := T_at zk40 rfl
theorem zT40_75 : TT 40 75 L S M Q = TR (z_st (.iload 3) 1 75 L S M) 40 76 M Q := T_at zk40 rfl
theorem zT40_76 : TT 40 76 L S M Q = TR (z_st (.iadd) 1 76 L S M) 40 77 M Q := T_at zk40 rfl
theorem zT40_77 : TT 40 77 L S M Q = TR (z_st (.ret 0) 1 77 L S M) 40 78 M Q := T_at zk40 rfl
theorem zk41 : z_coL.getD 41 [] = zc41 := rfl
theorem zT41_0 : TT 41 0 L S M Q = TR (z_st (.iconst 0) 1 0 L S M) 41 1 M Q := T_at zk41 rfl
theorem zT41_1 : TT 41 1 L S M Q = TR (z_st (.istore 3) 1 1 L S M) 41 2 M Q := T_at zk41 rfl
theorem zT41_2 : TT 41 2 L S M Q = TR (z_st (.iconst 0) 1 2 L S M) 41 3 M Q := T_at zk41 rfl
theorem zT41_3 : TT 41 3 L S M Q = TR (z_st (.istore 4) 2 3 L S M) 41 5 M Q := T_at zk41 rfl
theorem zT41_5 : TT 41 5 L S M Q = TR (z_st (.iconst 0) 1 5 L S M) 41 6 M Q := T_at zk41 rfl
theorem zT41_6 : TT 41 6 L S M Q = TR (z_st (.istore 5) 2 6 L S M) 41 8 M Q := T_at zk41 rfl
theorem zT41_8 : TT 41 8 L S M Q = TR (z_st (.iconst 0) 1 8 L S M) 41 9 M Q := T_at zk41 rfl
theorem zT41_9 : TT 41 9 L S M Q = TR (z_st (.istore 6) 2 9 L S M) 41 11 M Q := T_at zk41 rfl
theorem zT41_11 : TT 41 11 L S M Q = TR (z_st (.iconst 0) 1 11 L S M) 41 12 M Q := T_at zk41 rfl
theorem zT41_12 : TT 41 12 L S M Q = TR (z_st (.istore 7) 2 12 L S M) 41 14 M Q := T_at zk41 rfl
theorem zT41_14 : TT 41 14 L S M Q = TR (z_st (.iload 7) 2 14 L S M) 41 16 M Q := T_at zk41 rfl
theorem zT41_16 : TT 41 16 L S M Q = TR (z_st (.aload 0) 1 16 L S M) 41 17 M Q := T_at zk41 rfl
theorem zT41_17 : TT 41 17 L S M Q = TR (z_st (.fload 71) 3 17 L S M) 41 20 M Q := T_at zk41 rfl
theorem zT41_20 : TT 41 20 L S M Q = TR (z_st (.iconst 13) 2 20 L S M) 41 22 M Q := T_at zk41 rfl
theorem zT41_22 : TT 41 22 L S M Q = TR (z_st (.iaload) 1 22 L S M) 41 23 M Q := T_at zk41 rfl
theorem zT41_23 : TT 41 23 L S M Q = TR (z_st (.if_icmp .ge 157) 3 23 L S M) 41 26 M Q := T_at zk41 rfl
theorem zT41_26 : TT 41 26 L S M Q = TR (z_st (.iload 1) 1 26 L S M) 41 27 M Q := T_at zk41 rfl
theorem zT41_27 : TT 41 27 L S M Q = TR (z_st (.iload 7) 2 27 L S M) 41 29 M Q := T_at zk41 rfl
theorem zT41_29 : TT 41 29 L S M Q = TR (z_st (.invokestatic 5) 3 29 L S M) 41 32 M Q := T_at zk41 rfl
theorem zT41_32 : TT 41 32 L S M Q = TR (z_st (.ifCond .eq 151) 3 32 L S M) 41 35 M Q := T_at zk41 rfl
theorem zT41_35 : TT 41 35 L S M Q = TR (z_st (.iconst 17) 2 35 L S M) 41 37 M Q := T_at zk41 rfl
theorem zT41_37 : TT 41 37 L S M Q = TR (z_st (.iconst 12) 2 37 L S M) 41 39 M Q := T_at zk41 rfl
theorem zT41_39 : TT 41 39 L S M Q = TR (z_st (.iload 7) 2 39 L S M) 41 41 M Q := T_at zk41 rfl
theorem zT41_41 : TT 41 41 L S M Q = TR (z_st (.imul) 1 41 L S M) 41 42 M Q := T_at zk41 rfl
theorem zT41_42 : TT 41 42 L S M Q = TR (z_st (.iadd) 1 42 L S M) 41 43 M Q := T_at zk41 rfl
theorem zT41_43 : TT 41 43 L S M Q = TR (z_st (.iconst 4) 1 43 L S M) 41 44 M Q := T_at zk41 rfl
theorem zT41_44 : TT 41 44 L S M Q = TR (z_st (.aload 0) 1 44 L S M) 41 45 M Q := T_at zk41 rfl
theorem zT41_45 : TT 41 45 L S M Q = TR (z_st (.iload 7) 2 45 L S M) 41 47 M Q := T_at zk41 rfl
theorem zT41_47 : TT 41 47 L S M Q = TR (z_st (.iload 2) 1 47 L S M) 41 48 M Q := T_at zk41 rfl
theorem zT41_48 : TT 41 48 L S M Q = TR (z_st (.iconst 4) 1 48 L S M) 41 49 M Q := T_at zk41 rfl
theorem zT41_49 : TT 41 49 L S M Q = TR (z_st (.iload 7) 2 49 L S M) 41 51 M Q := T_at zk41 rfl
theorem zT41_51 : TT 41 51 L S M Q = TR (z_st (.imul) 1 51 L S M) 41 52 M Q := T_at zk41 rfl
theorem zT41_52 : TT 41 52 L S M Q = TR (z_st (.ishr) 1 52 L S M) 41 53 M Q := T_at zk41 rfl
theorem zT41_53 : TT 41 53 L S M Q = TR (z_st (.iconst 15) 2 53 L S M) 41 55 M Q := T_at zk41 rfl
theorem zT41_55 : TT 41 55 L S M Q = TR (z_st (.iand) 1 55 L S M) 41 56 M Q := T_at zk41 rfl
theorem zT41_56 : TT 41 56 L S M Q = TR (z_st (.invokevirtual 40) 3 56 L S M) 41 59 M Q := T_at zk41 rfl
theorem zT41_59 : TT 41 59 L S M Q = TR (z_st (.iconst 8) 2 59 L S M) 41 61 M Q := T_at zk41 rfl
theorem zT41_61 : TT 41 61 L S M Q = TR (z_st (.idiv) 1 61 L S M) 41 62 M Q := T_at zk41 rfl
theorem zT41_62 : TT 41 62 L S M Q = TR (z_st (.imul) 1 62 L S M) 41 63 M Q := T_at zk41 rfl
theorem zT41_63 : TT 41 63 L S M Q = TR (z_st (.iadd) 1 63 L S M) 41 64 M Q := T_at zk41 rfl
theorem zT41_64 : TT 41 64 L S M Q = TR (z_st (.istore 8) 2 64 L S M) 41 66 M Q := T_at zk41 rfl
theorem zT41_66 : TT 41 66 L S M Q = TR (z_st (.aload 0) 1 66 L S M) 41 67 M Q := T_at zk41 rfl
theorem zT41_67 : TT 41 67 L S M Q = TR (z_st (.fload 71) 3 67 L S M) 41 70 M Q := T_at zk41 rfl
theorem zT41_70 : TT 41 70 L S M Q = TR (z_st (.iload 8) 2 70 L S M) 41 72 M Q := T_at zk41 rfl
theorem zT41_72 : TT 41 72 L S M Q = TR (z_st (.iaload) 1 72 L S M) 41 73 M Q := T_at zk41 rfl
theorem zT41_73 : TT 41 73 L S M Q = TR (z_st (.aload 0) 1 73 L S M) 41 74 M Q := T_at zk41 rfl
theorem zT41_74 : TT 41 74 L S M Q = TR (z_st (.fload 71) 3 74 L S M) 41 77 M Q := T_at zk41 rfl
theorem zT41_77 : TT 41 77 L S M Q = TR (z_st (.iload 8) 2 77 L S M) 41 79 M Q := T_at zk41 rfl
theorem zT41_79 : TT 41 79 L S M Q = TR (z_st (.iconst 2) 1 79 L S M) 41 80 M Q := T_at zk41 rfl
theorem zT41_80 : TT 41 80 L S M Q = TR (z_st (.iadd) 1 80 L S M) 41 81 M Q := T_at zk41 rfl
theorem zT41_81 : TT 41 81 L S M Q = TR (z_st (.iaload) 1 81 L S M) 41 82 M Q := T_at zk41 rfl
theorem zT41_82 : TT 41 82 L S M Q = TR (z_st (.invokestatic 6) 3 82 L S M) 41 85 M Q := T_at zk41 rfl
theorem zT41_85 : TT 41 85 L S M Q = TR (z_st (.istore 9) 2 85 L S M) 41 87 M Q := T_at zk41 rfl
theorem zT41_87 : TT 41 87 L S M Q = TR (z_st (.iload 3) 1 87 L S M) 41 88 M Q := T_at zk41 rfl
theorem zT41_88 : TT 41 88 L S M Q = TR (z_st (.iload 9) 2 88 L S M) 41 90 M Q := T_at zk41 rfl
theorem zT41_90 : TT 41 90 L S M Q = TR (z_st (.iadd) 1 90 L S M) 41 91 M Q := T_at zk41 rfl
theorem zT41_91 : TT 41 91 L S M Q = TR (z_st (.istore 3) 1 91 L S M) 41 92 M Q := T_at zk41 rfl
theorem zT41_92 : TT 41 92 L S M Q = TR (z_st (.iload 4) 2 92 L S M) 41 94 M Q := T_at zk41 rfl
theorem zT41_94 : TT 41 94 L S M Q = TR (z_st (.aload 0) 1 94 L S M) 41 95 M Q := T_at zk41 rfl
theorem zT41_95 : TT 41 95 L S M Q = TR (z_st (.fload 71) 3 95 L S M) 41 98 M Q := T_at zk41 rfl
theorem zT41_98 : TT 41 98 L S M Q = TR (z_st (.iload 8) 2 98 L S M) 41 100 M Q := T_at zk41 rfl
theorem zT41_100 : TT 41 100 L S M Q = TR (z_st (.iaload) 1 100 L S M) 41 101 M Q := T_at zk41 rfl
theorem zT41_101 : TT 41 101 L S M Q = TR (z_st (.iload 9) 2 101 L S M) 41 103 M Q := T_at zk41 rfl
theorem zT41_103 : TT 41 103 L S M Q = TR (z_st (.isub) 1 103 L S M) 41 104 M Q := T_at zk41 rfl
theorem zT41_104 : TT 41 104 L S M Q = TR (z_st (.iadd) 1 104 L S M) 41 105 M Q := T_at zk41 rfl
theorem zT41_105 : TT 41 105 L S M Q = TR (z_st (.istore 4) 2 105 L S M) 41 107 M Q := T_at zk41 rfl
theorem zT41_107 : TT 41 107 L S M Q = TR (z_st (.iload 5) 2 107 L S M) 41 109 M Q := T_at zk41 rfl
theorem zT41_109 : TT 41 109 L S M Q = TR (z_st (.aload 0) 1 109 L S M) 41 110 M Q := T_at zk41 rfl
theorem zT41_110 : TT 41 110 L S M Q = TR (z_st (.fload 71) 3 110 L S M) 41 113 M Q := T_at zk41 rfl
theorem zT41_113 : TT 41 113 L S M Q = TR (z_st (.iload 8) 2 113 L S M) 41 115 M Q := T_at zk41 rfl
theorem zT41_115 : TT 41 115 L S M Q = TR (z_st (.iconst 2) 1 115 L S M) 41 116 M Q := T_at zk41 rfl
theorem zT41_116 : TT 41 116 L S M Q = TR (z_st (.iadd) 1 116 L S M) 41 117 M Q := T_at zk41 rfl
theorem zT41_117 : TT 41 117 L S M Q = TR (z_st (.iaload) 1 117 L S M) 41 118 M Q := T_at zk41 rfl
theorem zT41_118 : TT 41 118 L S M Q = TR (z_st (.iload 9) 2 118 L S M) 41 120 M Q := T_at zk41 rfl
theorem zT41_120 : TT 41 120 L S M Q = TR (z_st (.isub) 1 120 L S M) 41 121 M Q := T_at zk41 rfl
theorem zT41_121 : TT 41 121 L S M Q = TR (z_st (.iadd) 1 121 L S M) 41 122 M Q := T_at zk41 rfl
theorem zT41_122 : TT 41 122 L S M Q = TR (z_st (.istore 5) 2 122 L S M) 41 124 M Q := T_at zk41 rfl
theorem zT41_124 : TT 41 124 L S M Q = TR (z_st (.iload 6) 2 124 L S M) 41 126 M Q := T_at zk41 rfl
theorem zT41_126 : TT 41 126 L S M Q = TR (z_st (.aload 0) 1 126 L S M) 41 127 M Q := T_at zk41 rfl
theorem zT41_127 : TT 41 127 L S M Q = TR (z_st (.fload 71) 3 127 L S M) 41 130 M Q := T_at zk41 rfl
theorem zT41_130 : TT 41 130 L S M Q = TR (z_st (.iload 8) 2 130 L S M) 41 132 M Q := T_at zk41 rfl
theorem zT41_132 : TT 41 132 L S M Q = TR (z_st (.iconst 1) 1 132 L S M) 41 133 M Q := T_at zk41 rfl
theorem zT41_133 : TT 41 133 L S M Q = TR (z_st (.iadd) 1 133 L S M) 41 134 M Q := T_at zk41 rfl
theorem zT41_134 : TT 41 134 L S M Q = TR (z_st (.iaload) 1 134 L S M) 41 135 M Q := T_at zk41 rfl
theorem zT41_135 : TT 41 135 L S M Q = TR (z_st (.aload 0) 1 135 L S M) 41 136 M Q := T_at zk41 rfl
theorem zT41_136 : TT 41 136 L S M Q = TR (z_st (.fload 71) 3 136 L S M) 41 139 M Q := T_at zk41 rfl
theorem zT41_139 : TT 41 139 L S M Q = TR (z_st (.iload 8) 2 139 L S M) 41 141 M Q := T_at zk41 rfl
theorem zT41_141 : TT 41 141 L S M Q = TR (z_st (.iconst 2) 1 141 L S M) 41 142 M Q := T_at zk41 rfl
theorem zT41_142 : TT 41 142 L S M Q = TR (z_st (.iadd) 1 142 L S M) 41 143 M Q := T_at zk41 rfl
theorem zT41_143 : TT 41 143 L S M Q = TR (z_st (.iaload) 1 143 L S M) 41 144 M Q := T_at zk41 rfl
theorem zT41_144 : TT 41 144 L S M Q = TR (z_st (.iload 9) 2 144 L S M) 41 146 M Q := T_at zk41 rfl
set_option maxRecDepth 100000 in
theorem zT41_146 : TT 41 146 L S M Q = TR (z_st (.isub) 1 146 L S M) 41 147 M Q := T_at zk41 rfl
set_option maxRecDepth 100000 in
theorem zT41_147 : TT 41 147 L S M Q = TR (z_st (.isub) 1 147 L S M) 41 148 M Q := T_at zk41 rfl
set_option maxRecDepth 100000 in
theorem zT41_148 : TT 41 148 L S M Q = TR (z_st (.iadd) 1 148 L S M) 41 149 M Q := T_at zk41 rfl
set_option maxRecDepth 100000 in
theorem zT41_149 : TT 41 149 L S M Q = TR (z_st (.istore 6) 2 149 L S M) 41 151 M Q := T_at zk41 rfl
set_option maxRecDepth 100000 in
theorem zT41_151 : TT 41 151 L S M Q = TR (z_st (.iinc 7 1) 3 151 L S M) 41 154 M Q := T_at zk41 rfl
set_option maxRecDepth 100000 in
theorem zT41_154 : TT 41 154 L S M Q = TR (z_st (.goto 14) 3 154 L S M) 41 157 M Q := T_at zk41 rfl
set_option maxRecDepth 100000 in
theorem zT41_157 : TT 41 157 L S M Q = TR (z_st (.iload 3) 1 157 L S M) 41 158 M Q := T_at zk41 rfl
set_option maxRecDepth 100000 in
theorem zT41_158 : TT 41 158 L S M Q = TR (z_st (.iload 5) 2 158 L S M) 41 160 M Q := T_at zk41 rfl
set_option maxRecDepth 100000 in
theorem zT41_160 : TT 41 160 L S M Q = TR (z_st (.iadd) 1 160 L S M) 41 161 M Q := T_at zk41 rfl
set_option maxRecDepth 100000 in
theorem zT41_161 : TT 41 161 L S M Q = TR (z_st (.aload 0) 1 161 L S M) 41 162 M Q := T_at zk41 rfl
set_option maxRecDepth 100000 in
theorem zT41_162 : TT 41 162 L S M Q = TR (z_st (.fload 71) 3 162 L S M) 41 165 M Q := T_at zk41 rfl
set_option maxRecDepth 100000 in
theorem zT41_165 : TT 41 165 L S M Q = TR (z_st (.iconst 53) 2 165 L S M) 41 167 M Q := T_at zk41 rfl
set_option maxRecDepth 100000 in
theorem zT41_167 : TT 41 167 L S M Q = TR (z_st (.iaload) 1 167 L S M) 41 168 M Q := T_at zk41 rfl
set_option maxRecDepth 100000 in
theorem zT41_168 : TT 41 168 L S M Q = TR (z_st (.if_icmp .gt 208) 3 168 L S M) 41 171 M Q := T_at zk41 rfl
set_option maxRecDepth 100000 in
theorem zT41_171 : TT 41 171 L S M Q = TR (z_st (.iload 3) 1 171 L S M) 41 172 M Q := T_at zk41 rfl
set_option maxRecDepth 100000 in
theorem zT41_172 : TT 41 172 L S M Q = TR (z_st (.iload 4) 2 172 L S M) 41 174 M Q := T_at zk41 rfl
set_option maxRecDepth 100000 in
theorem zT41_174 : TT 41 174 L S M Q = TR (z_st (.iload 5) 2 174 L S M) 41 176 M Q := T_at zk41 rfl
set_option maxRecDepth 100000 in
theorem zT41_176 : TT 41 176 L S M Q = TR (z_st (.iload 6) 2 176 L S M) 41 178 M Q := T_at zk41 rfl
set_option maxRecDepth 100000 in
theorem zT41_178 : TT 41 178 L S M Q = TR (z_st (.aload 0) 1 178 L S M) 41 179 M Q := T_at zk41 rfl
set_option maxRecDepth 100000 in
theorem zT41_179 : TT 41 179 L S M Q = TR (z_st (.getfield 81) 3 179 L S M) 41 182 M Q := T_at zk41 rfl
set_option maxRecDepth 100000 in
theorem zT41_182 : TT 41 182 L S M Q = TR (z_st (.aload 0) 1 182 L S M) 41 183 M Q := T_at zk41 rfl
set_option maxRecDepth 100000 in
theorem zT41_183 : TT 41 183 L S M Q = TR (z_st (.getfield 82) 3 183 L S M) 41 186 M Q := T_at zk41 rfl
set_option maxRecDepth 100000 in
theorem zT41_186 : TT 41 186 L S M Q = TR (z_st (.aload 0) 1 186 L S M) 41 187 M Q := T_at zk41 rfl
set_option maxRecDepth 100000 in
theorem zT41_187 : TT 41 187 L S M Q = TR (z_st (.getfield 83) 3 187 L S M) 41 190 M Q := T_at zk41 rfl
set_option maxRecDepth 100000 in
theorem zT41_190 : TT 41 190 L S M Q = TR (z_st (.aload 0) 1 190 L S M) 41 191 M Q := T_at zk41 rfl
set_option maxRecDepth 100000 in
theorem zT41_191 : TT 41 191 L S M Q = TR (z_st (.getfield 84) 3 191 L S M) 41 194 M Q := T_at zk41 rfl
set_option maxRecDepth 100000 in
theorem zT41_194 : TT 41 194 L S M Q = TR (z_st (.aload 0) 1 194 L S M) 41 195 M Q := T_at zk41 rfl
set_option maxRecDepth 100000 in
theorem zT41_195 : TT 41 195 L S M Q = TR (z_st (.getfield 85) 3 195 L S M) 41 198 M Q := T_at zk41 rfl
set_option maxRecDepth 100000 in
theorem zT41_198 : TT 41 198 L S M Q = TR (z_st (.invokestatic 38) 3 198 L S M) 41 201 M Q := T_at zk41 rfl
set_option maxRecDepth 100000 in
theorem zT41_201 : TT 41 201 L S M Q = TR (z_st (.ifCond .eq 208) 3 201 L S M) 41 204 M Q := T_at zk41 rfl
set_option maxRecDepth 100000 in
theorem zT41_204 : TT 41 204 L S M Q = TR (z_st (.iconst 1) 1 204 L S M) 41 205 M Q := T_at zk41 rfl
set_option maxRecDepth 100000 in
theorem zT41_205 : TT 41 205 L S M Q = TR (z_st (.goto 209) 3 205 L S M) 41 208 M Q := T_at zk41 rfl
set_option maxRecDepth 100000 in
theorem zT41_208 : TT 41 208 L S M Q = TR (z_st (.iconst 0) 1 208 L S M) 41 209 M Q := T_at zk41 rfl
set_option maxRecDepth 100000 in
theorem zT41_209 : TT 41 209 L S M Q = TR (z_st (.ret 1) 1 209 L S M) 41 210 M Q := T_at zk41 rfl
theorem zk42 : z_coL.getD 42 [] = zc42 := rfl
theorem zT42_0 : TT 42 0 L S M Q = TR (z_st (.aload 0) 1 0 L S M) 42 1 M Q := T_at zk42 rfl
theorem zT42_1 : TT 42 1 L S M Q = TR (z_st (.fload 71) 3 1 L S M) 42 4 M Q := T_at zk42 rfl
theorem zT42_4 : TT 42 4 L S M Q = TR (z_st (.iconst 55) 2 4 L S M) 42 6 M Q := T_at zk42 rfl
theorem zT42_6 : TT 42 6 L S M Q = TR (z_st (.iaload) 1 6 L S M) 42 7 M Q := T_at zk42 rfl
theorem zT42_7 : TT 42 7 L S M Q = TR (z_st (.aload 0) 1 7 L S M) 42 8 M Q := T_at zk42 rfl
theorem zT42_8 : TT 42 8 L S M Q = TR (z_st (.fload 71) 3 8 L S M) 42 11 M Q := T_at zk42 rfl
theorem zT42_11 : TT 42 11 L S M Q = TR (z_st (.iconst 56) 2 11 L S M) 42 13 M Q := T_at zk42 rfl
theorem zT42_13 : TT 42 13 L S M Q = TR (z_st (.iaload) 1 13 L S M) 42 14 M Q := T_at zk42 rfl
theorem zT42_14 : TT 42 14 L S M Q = TR (z_st (.iconst 4) 1 14 L S M) 42 15 M Q := T_at zk42 rfl
theorem zT42_15 : TT 42 15 L S M Q = TR (z_st (.ishl) 1 15 L S M) 42 16 M Q := T_at zk42 rfl
theorem zT42_16 : TT 42 16 L S M Q = TR (z_st (.ior) 1 16 L S M) 42 17 M Q := T_at zk42 rfl
theorem zT42_17 : TT 42 17 L S M Q = TR (z_st (.aload 0) 1 17 L S M) 42 18 M Q := T_at zk42 rfl
theorem zT42_18 : TT 42 18 L S M Q = TR (z_st (.fload 71) 3 18 L S M) 42 21 M Q := T_at zk42 rfl
theorem zT42_21 : TT 42 21 L S M Q = TR (z_st (.iconst 57) 2 21 L S M) 42 23 M Q := T_at zk42 rfl
theorem zT42_23 : TT 42 23 L S M Q = TR (z_st (.iaload) 1 23 L S M) 42 24 M Q := T_at zk42 rfl
theorem zT42_24 : TT 42 24 L S M Q = TR (z_st (.iconst 8) 2 24 L S M) 42 26 M Q := T_at zk42 rfl
theorem zT42_26 : TT 42 26 L S M Q = TR (z_st (.ishl) 1 26 L S M) 42 27 M Q := T_at zk42 rfl
theorem zT42_27 : TT 42 27 L S M Q = TR (z_st (.ior) 1 27 L S M) 42 28 M Q := T_at zk42 rfl
theorem zT42_28 : TT 42 28 L S M Q = TR (z_st (.ret 0) 1 28 L S M) 42 29 M Q := T_at zk42 rfl
theorem zk43 : z_coL.getD 43 [] = zc43 := rfl
theorem zT43_0 : TT 43 0 L S M Q = TR (z_st (.iload 1) 1 0 L S M) 43 1 M Q := T_at zk43 rfl
theorem zT43_1 : TT 43 1 L S M Q = TR (z_st (.iconst 15) 2 1 L S M) 43 3 M Q := T_at zk43 rfl
theorem zT43_3 : TT 43 3 L S M Q = TR (z_st (.iand) 1 3 L S M) 43 4 M Q := T_at zk43 rfl
theorem zT43_4 : TT 43 4 L S M Q = TR (z_st (.aload 0) 1 4 L S M) 43 5 M Q := T_at zk43 rfl
theorem zT43_5 : TT 43 5 L S M Q = TR (z_st (.fload 88) 3 5 L S M) 43 8 M Q := T_at zk43 rfl
theorem zT43_8 : TT 43 8 L S M Q = TR (z_st (.iconst 0) 1 8 L S M) 43 9 M Q := T_at zk43 rfl
theorem zT43_9 : TT 43 9 L S M Q = TR (z_st (.iaload) 1 9 L S M) 43 10 M Q := T_at zk43 rfl
theorem zT43_10 : TT 43 10 L S M Q = TR (z_st (.if_icmp .gt 45) 3 10 L S M) 43 13 M Q := T_at zk43 rfl
theorem zT43_13 : TT 43 13 L S M Q = TR (z_st (.iload 1) 1 13 L S M) 43 14 M Q := T_at zk43 rfl
theorem zT43_14 : TT 43 14 L S M Q = TR (z_st (.iconst 4) 1 14 L S M) 43 15 M Q := T_at zk43 rfl
theorem zT43_15 : TT 43 15 L S M Q = TR (z_st (.ishr) 1 15 L S M) 43 16 M Q := T_at zk43 rfl
theorem zT43_16 : TT 43 16 L S M Q = TR (z_st (.iconst 15) 2 16 L S M) 43 18 M Q := T_at zk43 rfl
theorem zT43_18 : TT 43 18 L S M Q = TR (z_st (.iand) 1 18 L S M) 43 19 M Q := T_at zk43 rfl
theorem zT43_19 : TT 43 19 L S M Q = TR (z_st (.aload 0) 1 19 L S M) 43 20 M Q := T_at zk43 rfl
theorem zT43_20 : TT 43 20 L S M Q = TR (z_st (.fload 88) 3 20 L S M) 43 23 M Q := T_at zk43 rfl
theorem zT43_23 : TT 43 23 L S M Q = TR (z_st (.iconst 1) 1 23 L S M) 43 24 M Q := T_at zk43 rfl
theorem zT43_24 : TT 43 24 L S M Q = TR (z_st (.iaload) 1 24 L S M) 43 25 M Q := T_at zk43 rfl
theorem zT43_25 : TT 43 25 L S M Q = TR (z_st (.if_icmp .gt 45) 3 25 L S M) 43 28 M Q := T_at zk43 rfl
theorem zT43_28 : TT 43 28 L S M Q = TR (z_st (.iload 1) 1 28 L S M) 43 29 M Q := T_at zk43 rfl
theorem zT43_29 : TT 43 29 L S M Q = TR (z_st (.iconst 8) 2 29 L S M) 43 31 M Q := T_at zk43 rfl
theorem zT43_31 : TT 43 31 L S M Q = TR (z_st (.ishr) 1 31 L S M) 43 32 M Q := T_at zk43 rfl
theorem zT43_32 : TT 43 32 L S M Q = TR (z_st (.aload 0) 1 32 L S M) 43 33 M Q := T_at zk43 rfl
theorem zT43_33 : TT 43 33 L S M Q = TR (z_st (.fload 88) 3 33 L S M) 43 36 M Q := T_at zk43 rfl
theorem zT43_36 : TT 43 36 L S M Q = TR (z_st (.iconst 2) 1 36 L S M) 43 37 M Q := T_at zk43 rfl
theorem zT43_37 : TT 43 37 L S M Q = TR (z_st (.iaload) 1 37 L S M) 43 38 M Q := T_at zk43 rfl
theorem zT43_38 : TT 43 38 L S M Q = TR (z_st (.if_icmp .gt 45) 3 38 L S M) 43 41 M Q := T_at zk43 rfl
theorem zT43_41 : TT 43 41 L S M Q = TR (z_st (.iconst 1) 1 41 L S M) 43 42 M Q := T_at zk43 rfl
theorem zT43_42 : TT 43 42 L S M Q = TR (z_st (.goto 46) 3 42 L S M) 43 45 M Q := T_at zk43 rfl
theorem zT43_45 : TT 43 45 L S M Q = TR (z_st (.iconst 0) 1 45 L S M) 43 46 M Q := T_at zk43 rfl
theorem zT43_46 : TT 43 46 L S M Q = TR (z_st (.ret 1) 1 46 L S M) 43 47 M Q := T_at zk43 rfl
theorem zk44 : z_coL.getD 44 [] = zc44 := rfl
theorem zT44_0 : TT 44 0 L S M Q = TR (z_st (.iconst 0) 1 0 L S M) 44 1 M Q := T_at zk44 rfl
theorem zT44_1 : TT 44 1 L S M Q = TR (z_st (.istore 2) 1 1 L S M) 44 2 M Q := T_at zk44 rfl
theorem zT44_2 : TT 44 2 L S M Q = TR (z_st (.iconst 0) 1 2 L S M) 44 3 M Q := T_at zk44 rfl
theorem zT44_3 : TT 44 3 L S M Q = TR (z_st (.istore 3) 1 3 L S M) 44 4 M Q := T_at zk44 rfl
theorem zT44_4 : TT 44 4 L S M Q = TR (z_st (.iload 3) 1 4 L S M) 44 5 M Q := T_at zk44 rfl
theorem zT44_5 : TT 44 5 L S M Q = TR (z_st (.iconst 3) 1 5 L S M) 44 6 M Q := T_at zk44 rfl
theorem zT44_6 : TT 44 6 L S M Q = TR (z_st (.if_icmp .ge 42) 3 6 L S M) 44 9 M Q := T_at zk44 rfl
theorem zT44_9 : TT 44 9 L S M Q = TR (z_st (.iload 2) 1 9 L S M) 44 10 M Q := T_at zk44 rfl
theorem zT44_10 : TT 44 10 L S M Q = TR (z_st (.iload 1) 1 10 L S M) 44 11 M Q := T_at zk44 rfl
theorem zT44_11 : TT 44 11 L S M Q = TR (z_st (.iconst 4) 1 11 L S M) 44 12 M Q := T_at zk44 rfl
theorem zT44_12 : TT 44 12 L S M Q = TR (z_st (.iload 3) 1 12 L S M) 44 13 M Q := T_at zk44 rfl
theorem zT44_13 : TT 44 13 L S M Q = TR (z_st (.imul) 1 13 L S M) 44 14 M Q := T_at zk44 rfl
theorem zT44_14 : TT 44 14 L S M Q = TR (z_st (.ishr) 1 14 L S M) 44 15 M Q := T_at zk44 rfl
theorem zT44_15 : TT 44 15 L S M Q = TR (z_st (.iconst 15) 2 15 L S M) 44 17 M Q := T_at zk44 rfl
theorem zT44_17 : TT 44 17 L S M Q = TR (z_st (.iand) 1 17 L S M) 44 18 M Q := T_at zk44 rfl
theorem zT44_18 : TT 44 18 L S M Q = TR (z_st (.aload 0) 1 18 L S M) 44 19 M Q := T_at zk44 rfl
theorem zT44_19 : TT 44 19 L S M Q = TR (z_st (.fload 88) 3 19 L S M) 44 22 M Q := T_at zk44 rfl
theorem zT44_22 : TT 44 22 L S M Q = TR (z_st (.iload 3) 1 22 L S M) 44 23 M Q := T_at zk44 rfl
theorem zT44_23 : TT 44 23 L S M Q = TR (z_st (.iaload) 1 23 L S M) 44 24 M Q := T_at zk44 rfl
theorem zT44_24 : TT 44 24 L S M Q = TR (z_st (.if_icmp .ne 33) 3 24 L S M) 44 27 M Q := T_at zk44 rfl
theorem zT44_27 : TT 44 27 L S M Q = TR (z_st (.iconst 1) 1 27 L S M) 44 28 M Q := T_at zk44 rfl
theorem zT44_28 : TT 44 28 L S M Q = TR (z_st (.iload 3) 1 28 L S M) 44 29 M Q := T_at zk44 rfl
theorem zT44_29 : TT 44 29 L S M Q = TR (z_st (.ishl) 1 29 L S M) 44 30 M Q := T_at zk44 rfl
theorem zT44_30 : TT 44 30 L S M Q = TR (z_st (.goto 34) 3 30 L S M) 44 33 M Q := T_at zk44 rfl
theorem zT44_33 : TT 44 33 L S M Q = TR (z_st (.iconst 0) 1 33 L S M) 44 34 M Q := T_at zk44 rfl
theorem zT44_34 : TT 44 34 L S M Q = TR (z_st (.ior) 1 34 L S M) 44 35 M Q := T_at zk44 rfl
theorem zT44_35 : TT 44 35 L S M Q = TR (z_st (.istore 2) 1 35 L S M) 44 36 M Q := T_at zk44 rfl
theorem zT44_36 : TT 44 36 L S M Q = TR (z_st (.iinc 3 1) 3 36 L S M) 44 39 M Q := T_at zk44 rfl
theorem zT44_39 : TT 44 39 L S M Q = TR (z_st (.goto 4) 3 39 L S M) 44 42 M Q := T_at zk44 rfl
theorem zT44_42 : TT 44 42 L S M Q = TR (z_st (.iload 2) 1 42 L S M) 44 43 M Q := T_at zk44 rfl
theorem zT44_43 : TT 44 43 L S M Q = TR (z_st (.ret 0) 1 43 L S M) 44 44 M Q := T_at zk44 rfl
theorem zk45 : z_coL.getD 45 [] = zc45 := rfl
theorem zT45_0 : TT 45 0 L S M Q = TR (z_st (.iload 0) 1 0 L S M) 45 1 M Q := T_at zk45 rfl
theorem zT45_1 : TT 45 1 L S M Q = TR (z_st (.iload 1) 1 1 L S M) 45 2 M Q := T_at zk45 rfl
theorem zT45_2 : TT 45 2 L S M Q = TR (z_st (.iconst 1) 1 2 L S M) 45 3 M Q := T_at zk45 rfl
theorem zT45_3 : TT 45 3 L S M Q = TR (z_st (.iand) 1 3 L S M) 45 4 M Q := T_at zk45 rfl
theorem zT45_4 : TT 45 4 L S M Q = TR (z_st (.iadd) 1 4 L S M) 45 5 M Q := T_at zk45 rfl
theorem zT45_5 : TT 45 5 L S M Q = TR (z_st (.iload 1) 1 5 L S M) 45 6 M Q := T_at zk45 rfl
theorem zT45_6 : TT 45 6 L S M Q = TR (z_st (.iconst 1) 1 6 L S M) 45 7 M Q := T_at zk45 rfl
theorem zT45_7 : TT 45 7 L S M Q = TR (z_st (.ishr) 1 7 L S M) 45 8 M Q := T_at zk45 rfl
theorem zT45_8 : TT 45 8 L S M Q = TR (z_st (.iconst 1) 1 8 L S M) 45 9 M Q := T_at zk45 rfl
theorem zT45_9 : TT 45 9 L S M Q = TR (z_st (.iand) 1 9 L S M) 45 10 M Q := T_at zk45 rfl
theorem zT45_10 : TT 45 10 L S M Q = TR (z_st (.iconst 16) 2 10 L S M) 45 12 M Q := T_at zk45 rfl
theorem zT45_12 : TT 45 12 L S M Q = TR (z_st (.imul) 1 12 L S M) 45 13 M Q := T_at zk45 rfl
theorem zT45_13 : TT 45 13 L S M Q = TR (z_st (.iadd) 1 13 L S M) 45 14 M Q := T_at zk45 rfl
theorem zT45_14 : TT 45 14 L S M Q = TR (z_st (.iload 1) 1 14 L S M) 45 15 M Q := T_at zk45 rfl
theorem zT45_15 : TT 45 15 L S M Q = TR (z_st (.iconst 2) 1 15 L S M) 45 16 M Q := T_at zk45 rfl
theorem zT45_16 : TT 45 16 L S M Q = TR (z_st (.ishr) 1 16 L S M) 45 17 M Q := T_at zk45 rfl
theorem zT45_17 : TT 45 17 L S M Q = TR (z_st (.iconst 1) 1 17 L S M) 45 18 M Q := T_at zk45 rfl
theorem zT45_18 : TT 45 18 L S M Q = TR (z_st (.iand) 1 18 L S M) 45 19 M Q := T_at zk45 rfl
theorem zT45_19 : TT 45 19 L S M Q = TR (z_st (.iconst 256) 3 19 L S M) 45 22 M Q := T_at zk45 rfl
theorem zT45_22 : TT 45 22 L S M Q = TR (z_st (.imul) 1 22 L S M) 45 23 M Q := T_at zk45 rfl
theorem zT45_23 : TT 45 23 L S M Q = TR (z_st (.iadd) 1 23 L S M) 45 24 M Q := T_at zk45 rfl
theorem zT45_24 : TT 45 24 L S M Q = TR (z_st (.ret 0) 1 24 L S M) 45 25 M Q := T_at zk45 rfl
theorem zk46 : z_coL.getD 46 [] = zc46 := rfl
theorem zT46_0 : TT 46 0 L S M Q = TR (z_st (.iconst 0) 1 0 L S M) 46 1 M Q := T_at zk46 rfl
theorem zT46_1 : TT 46 1 L S M Q = TR (z_st (.istore 2) 1 1 L S M) 46 2 M Q := T_at zk46 rfl
theorem zT46_2 : TT 46 2 L S M Q = TR (z_st (.iload 2) 1 2 L S M) 46 3 M Q := T_at zk46 rfl
theorem zT46_3 : TT 46 3 L S M Q = TR (z_st (.iconst 3) 1 3 L S M) 46 4 M Q := T_at zk46 rfl
theorem zT46_4 : TT 46 4 L S M Q = TR (z_st (.if_icmp .ge 39) 3 4 L S M) 46 7 M Q := T_at zk46 rfl
theorem zT46_7 : TT 46 7 L S M Q = TR (z_st (.aload 0) 1 7 L S M) 46 8 M Q := T_at zk46 rfl
theorem zT46_8 : TT 46 8 L S M Q = TR (z_st (.fload 88) 3 8 L S M) 46 11 M Q := T_at zk46 rfl
theorem zT46_11 : TT 46 11 L S M Q = TR (z_st (.iload 2) 1 11 L S M) 46 12 M Q := T_at zk46 rfl
theorem zT46_12 : TT 46 12 L S M Q = TR (z_st (.iload 2) 1 12 L S M) 46 13 M Q := T_at zk46 rfl
theorem zT46_13 : TT 46 13 L S M Q = TR (z_st (.aload 0) 1 13 L S M) 46 14 M Q := T_at zk46 rfl
theorem zT46_14 : TT 46 14 L S M Q = TR (z_st (.fload 71) 3 14 L S M) 46 17 M Q := T_at zk46 rfl
theorem zT46_17 : TT 46 17 L S M Q = TR (z_st (.iconst 13) 2 17 L S M) 46 19 M Q := T_at zk46 rfl
theorem zT46_19 : TT 46 19 L S M Q = TR (z_st (.iaload) 1 19 L S M) 46 20 M Q := T_at zk46 rfl
theorem zT46_20 : TT 46 20 L S M Q = TR (z_st (.if_icmp .ge 31) 3 20 L S M) 46 23 M Q := T_at zk46 rfl
theorem zT46_23 : TT 46 23 L S M Q = TR (z_st (.aload 0) 1 23 L S M) 46 24 M Q := T_at zk46 rfl
theorem zT46_24 : TT 46 24 L S M Q = TR (z_st (.iload 2) 1 24 L S M) 46 25 M Q := T_at zk46 rfl
theorem zT46_25 : TT 46 25 L S M Q = TR (z_st (.invokevirtual 39) 3 25 L S M) 46 28 M Q := T_at zk46 rfl
theorem zT46_28 : TT 46 28 L S M Q = TR (z_st (.goto 32) 3 28 L S M) 46 31 M Q := T_at zk46 rfl
theorem zT46_31 : TT 46 31 L S M Q = TR (z_st (.iconst 0) 1 31 L S M) 46 32 M Q := T_at zk46 rfl
theorem zT46_32 : TT 46 32 L S M Q = TR (z_st (.iastore) 1 32 L S M) 46 33 M Q := T_at zk46 rfl
theorem zT46_33 : TT 46 33 L S M Q = TR (z_st (.iinc 2 1) 3 33 L S M) 46 36 M Q := T_at zk46 rfl
theorem zT46_36 : TT 46 36 L S M Q = TR (z_st (.goto 2) 3 36 L S M) 46 39 M Q := T_at zk46 rfl
theorem zT46_39 : TT 46 39 L S M Q = TR (z_st (.iconst 0) 1 39 L S M) 46 40 M Q := T_at zk46 rfl
theorem zT46_40 : TT 46 40 L S M Q = TR (z_st (.istore 2) 1 40 L S M) 46 41 M Q := T_at zk46 rfl
theorem zT46_41 : TT 46 41 L S M Q = TR (z_st (.iload 2) 1 41 L S M) 46 42 M Q := T_at zk46 rfl
theorem zT46_42 : TT 46 42 L S M Q = TR (z_st (.iconst 4096) 3 42 L S M) 46 45 M Q := T_at zk46 rfl
theorem zT46_45 : TT 46 45 L S M Q = TR (z_st (.if_icmp .ge 211) 3 45 L S M) 46 48 M Q := T_at zk46 rfl
theorem zT46_48 : TT 46 48 L S M Q = TR (z_st (.aload 0) 1 48 L S M) 46 49 M Q := T_at zk46 rfl
theorem zT46_49 : TT 46 49 L S M Q = TR (z_st (.fload 86) 3 49 L S M) 46 52 M Q := T_at zk46 rfl
theorem zT46_52 : TT 46 52 L S M Q = TR (z_st (.iload 2) 1 52 L S M) 46 53 M Q := T_at zk46 rfl
theorem zT46_53 : TT 46 53 L S M Q = TR (z_st (.iconst 0) 1 53 L S M) 46 54 M Q := T_at zk46 rfl
theorem zT46_54 : TT 46 54 L S M Q = TR (z_st (.iastore) 1 54 L S M) 46 55 M Q := T_at zk46 rfl
theorem zT46_55 : TT 46 55 L S M Q = TR (z_st (.aload 0) 1 55 L S M) 46 56 M Q := T_at zk46 rfl
theorem zT46_56 : TT 46 56 L S M Q = TR (z_st (.iload 2) 1 56 L S M) 46 57 M Q := T_at zk46 rfl
theorem zT46_57 : TT 46 57 L S M Q = TR (z_st (.invokevirtual 43) 3 57 L S M) 46 60 M Q := T_at zk46 rfl
theorem zT46_60 : TT 46 60 L S M Q = TR (z_st (.ifCond .ne 66) 3 60 L S M) 46 63 M Q := T_at zk46 rfl
theorem zT46_63 : TT 46 63 L S M Q = TR (z_st (.goto 205) 3 63 L S M) 46 66 M Q := T_at zk46 rfl
theorem zT46_66 : TT 46 66 L S M Q = TR (z_st (.iload 1) 1 66 L S M) 46 67 M Q := T_at zk46 rfl
theorem zT46_67 : TT 46 67 L S M Q = TR (z_st (.aload 0) 1 67 L S M) 46 68 M Q := T_at zk46 rfl
theorem zT46_68 : TT 46 68 L S M Q = TR (z_st (.iload 2) 1 68 L S M) 46 69 M Q := T_at zk46 rfl
theorem zT46_69 : TT 46 69 L S M Q = TR (z_st (.invokevirtual 44) 3 69 L S M) 46 72 M Q := T_at zk46 rfl
theorem zT46_72 : TT 46 72 L S M Q = TR (z_st (.iconst (-1)) 1 72 L S M) 46 73 M Q := T_at zk46 rfl
theorem zT46_73 : TT 46 73 L S M Q = TR (z_st (.ixor) 1 73 L S M) 46 74 M Q := T_at zk46 rfl
theorem zT46_74 : TT 46 74 L S M Q = TR (z_st (.iand) 1 74 L S M) 46 75 M Q := T_at zk46 rfl
theorem zT46_75 : TT 46 75 L S M Q = TR (z_st (.istore 3) 1 75 L S M) 46 76 M Q := T_at zk46 rfl
theorem zT46_76 : TT 46 76 L S M Q = TR (z_st (.iconst 0) 1 76 L S M) 46 77 M Q := T_at zk46 rfl
theorem zT46_77 : TT 46 77 L S M Q = TR (z_st (.istore 4) 2 77 L S M) 46 79 M Q := T_at zk46 rfl
theorem zT46_79 : TT 46 79 L S M Q = TR (z_st (.iconst 0) 1 79 L S M) 46 80 M Q := T_at zk46 rfl
theorem zT46_80 : TT 46 80 L S M Q = TR (z_st (.istore 5) 2 80 L S M) 46 82 M Q := T_at zk46 rfl
theorem zT46_82 : TT 46 82 L S M Q = TR (z_st (.iload 5) 2 82 L S M) 46 84 M Q := T_at zk46 rfl
theorem zT46_84 : TT 46 84 L S M Q = TR (z_st (.aload 0) 1 84 L S M) 46 85 M Q := T_at zk46 rfl
theorem zT46_85 : TT 46 85 L S M Q = TR (z_st (.fload 71) 3 85 L S M) 46 88 M Q := T_at zk46 rfl
theorem zT46_88 : TT 46 88 L S M Q = TR (z_st (.iconst 13) 2 88 L S M) 46 90 M Q := T_at zk46 rfl
theorem zT46_90 : TT 46 90 L S M Q = TR (z_st (.iaload) 1 90 L S M) 46 91 M Q := T_at zk46 rfl
theorem zT46_91 : TT 46 91 L S M Q = TR (z_st (.if_icmp .ge 143) 3 91 L S M) 46 94 M Q := T_at zk46 rfl
theorem zT46_94 : TT 46 94 L S M Q = TR (z_st (.iload 4) 2 94 L S M) 46 96 M Q := T_at zk46 rfl
theorem zT46_96 : TT 46 96 L S M Q = TR (z_st (.iload 3) 1 96 L S M) 46 97 M Q := T_at zk46 rfl
theorem zT46_97 : TT 46 97 L S M Q = TR (z_st (.iload 5) 2 97 L S M) 46 99 M Q := T_at zk46 rfl
theorem zT46_99 : TT 46 99 L S M Q = TR (z_st (.invokestatic 5) 3 99 L S M) 46 102 M Q := T_at zk46 rfl
theorem zT46_102 : TT 46 102 L S M Q = TR (z_st (.ifCond .eq 133) 3 102 L S M) 46 105 M Q := T_at zk46 rfl
theorem zT46_105 : TT 46 105 L S M Q = TR (z_st (.aload 0) 1 105 L S M) 46 106 M Q := T_at zk46 rfl
theorem zT46_106 : TT 46 106 L S M Q = TR (z_st (.iload 5) 2 106 L S M) 46 108 M Q := T_at zk46 rfl
theorem zT46_108 : TT 46 108 L S M Q = TR (z_st (.iload 2) 1 108 L S M) 46 109 M Q := T_at zk46 rfl
theorem zT46_109 : TT 46 109 L S M Q = TR (z_st (.iconst 4) 1 109 L S M) 46 110 M Q := T_at zk46 rfl
theorem zT46_110 : TT 46 110 L S M Q = TR (z_st (.iload 5) 2 110 L S M) 46 112 M Q := T_at zk46 rfl
theorem zT46_112 : TT 46 112 L S M Q = TR (z_st (.imul) 1 112 L S M) 46 113 M Q := T_at zk46 rfl
theorem zT46_113 : TT 46 113 L S M Q = TR (z_st (.ishr) 1 113 L S M) 46 114 M Q := T_at zk46 rfl
theorem zT46_114 : TT 46 114 L S M Q = TR (z_st (.iconst 15) 2 114 L S M) 46 116 M Q := T_at zk46 rfl
theorem zT46_116 : TT 46 116 L S M Q = TR (z_st (.iand) 1 116 L S M) 46 117 M Q := T_at zk46 rfl
theorem zT46_117 : TT 46 117 L S M Q = TR (z_st (.invokevirtual 40) 3 117 L S M) 46 120 M Q := T_at zk46 rfl
theorem zT46_120 : TT 46 120 L S M Q = TR (z_st (.iconst 8) 2 120 L S M) 46 122 M Q := T_at zk46 rfl
theorem zT46_122 : TT 46 122 L S M Q = TR (z_st (.irem) 1 122 L S M) 46 123 M Q := T_at zk46 rfl
theorem zT46_123 : TT 46 123 L S M Q = TR (z_st (.ifCond .le 133) 3 123 L S M) 46 126 M Q := T_at zk46 rfl
theorem zT46_126 : TT 46 126 L S M Q = TR (z_st (.iconst 1) 1 126 L S M) 46 127 M Q := T_at zk46 rfl
theorem zT46_127 : TT 46 127 L S M Q = TR (z_st (.iload 5) 2 127 L S M) 46 129 M Q := T_at zk46 rfl
theorem zT46_129 : TT 46 129 L S M Q = TR (z_st (.ishl) 1 129 L S M) 46 130 M Q := T_at zk46 rfl
theorem zT46_130 : TT 46 130 L S M Q = TR (z_st (.goto 134) 3 130 L S M) 46 133 M Q := T_at zk46 rfl
theorem zT46_133 : TT 46 133 L S M Q = TR (z_st (.iconst 0) 1 133 L S M) 46 134 M Q := T_at zk46 rfl
theorem zT46_134 : TT 46 134 L S M Q = TR (z_st (.ior) 1 134 L S M) 46 135 M Q := T_at zk46 rfl
theorem zT46_135 : TT 46 135 L S M Q = TR (z_st (.istore 4) 2 135 L S M) 46 137 M Q := T_at zk46 rfl
theorem zT46_137 : TT 46 137 L S M Q = TR (z_st (.iinc 5 1) 3 137 L S M) 46 140 M Q := T_at zk46 rfl
theorem zT46_140 : TT 46 140 L S M Q = TR (z_st (.goto 82) 3 140 L S M) 46 143 M Q := T_at zk46 rfl
theorem zT46_143 : TT 46 143 L S M Q = TR (z_st (.iconst 0) 1 143 L S M) 46 144 M Q := T_at zk46 rfl
theorem zT46_144 : TT 46 144 L S M Q = TR (z_st (.istore 5) 2 144 L S M) 46 146 M Q := T_at zk46 rfl
theorem zT46_146 : TT 46 146 L S M Q = TR (z_st (.iload 5) 2 146 L S M) 46 148 M Q := T_at zk46 rfl
theorem zT46_148 : TT 46 148 L S M Q = TR (z_st (.iconst 8) 2 148 L S M) 46 150 M Q := T_at zk46 rfl
theorem zT46_150 : TT 46 150 L S M Q = TR (z_st (.if_icmp .ge 205) 3 150 L S M) 46 153 M Q := T_at zk46 rfl
theorem zT46_153 : TT 46 153 L S M Q = TR (z_st (.aload 0) 1 153 L S M) 46 154 M Q := T_at zk46 rfl
theorem zT46_154 : TT 46 154 L S M Q = TR (z_st (.fload 86) 3 154 L S M) 46 157 M Q := T_at zk46 rfl
theorem zT46_157 : TT 46 157 L S M Q = TR (z_st (.iload 2) 1 157 L S M) 46 158 M Q := T_at zk46 rfl
theorem zT46_158 : TT 46 158 L S M Q = TR (z_st (.dup2) 1 158 L S M) 46 159 M Q := T_at zk46 rfl
set_option maxRecDepth 100000 in
theorem zT46_159 : TT 46 159 L S M Q = TR (z_st (.iaload) 1 159 L S M) 46 160 M Q := T_at zk46 rfl
set_option maxRecDepth 100000 in
theorem zT46_160 : TT 46 160 L S M Q = TR (z_st (.iload 5) 2 160 L S M) 46 162 M Q := T_at zk46 rfl
set_option maxRecDepth 100000 in
theorem zT46_162 : TT 46 162 L S M Q = TR (z_st (.iload 3) 1 162 L S M) 46 163 M Q := T_at zk46 rfl
set_option maxRecDepth 100000 in
theorem zT46_163 : TT 46 163 L S M Q = TR (z_st (.iconst (-1)) 1 163 L S M) 46 164 M Q := T_at zk46 rfl
set_option maxRecDepth 100000 in
theorem zT46_164 : TT 46 164 L S M Q = TR (z_st (.ixor) 1 164 L S M) 46 165 M Q := T_at zk46 rfl
set_option maxRecDepth 100000 in
theorem zT46_165 : TT 46 165 L S M Q = TR (z_st (.iand) 1 165 L S M) 46 166 M Q := T_at zk46 rfl
set_option maxRecDepth 100000 in
theorem zT46_166 : TT 46 166 L S M Q = TR (z_st (.ifCond .ne 196) 3 166 L S M) 46 169 M Q := T_at zk46 rfl
set_option maxRecDepth 100000 in
theorem zT46_169 : TT 46 169 L S M Q = TR (z_st (.iload 4) 2 169 L S M) 46 171 M Q := T_at zk46 rfl
set_option maxRecDepth 100000 in
theorem zT46_171 : TT 46 171 L S M Q = TR (z_st (.iload 5) 2 171 L S M) 46 173 M Q := T_at zk46 rfl
set_option maxRecDepth 100000 in
theorem zT46_173 : TT 46 173 L S M Q = TR (z_st (.iconst (-1)) 1 173 L S M) 46 174 M Q := T_at zk46 rfl
set_option maxRecDepth 100000 in
theorem zT46_174 : TT 46 174 L S M Q = TR (z_st (.ixor) 1 174 L S M) 46 175 M Q := T_at zk46 rfl
set_option maxRecDepth 100000 in
theorem zT46_175 : TT 46 175 L S M Q = TR (z_st (.iand) 1 175 L S M) 46 176 M Q := T_at zk46 rfl
set_option maxRecDepth 100000 in
theorem zT46_176 : TT 46 176 L S M Q = TR (z_st (.ifCond .ne 196) 3 176 L S M) 46 179 M Q := T_at zk46 rfl
set_option maxRecDepth 100000 in
theorem zT46_179 : TT 46 179 L S M Q = TR (z_st (.aload 0) 1 179 L S M) 46 180 M Q := T_at zk46 rfl
set_option maxRecDepth 100000 in
theorem zT46_180 : TT 46 180 L S M Q = TR (z_st (.iload 5) 2 180 L S M) 46 182 M Q := T_at zk46 rfl
set_option maxRecDepth 100000 in
theorem zT46_182 : TT 46 182 L S M Q = TR (z_st (.iload 2) 1 182 L S M) 46 183 M Q := T_at zk46 rfl
set_option maxRecDepth 100000 in
theorem zT46_183 : TT 46 183 L S M Q = TR (z_st (.invokevirtual 41) 3 183 L S M) 46 186 M Q := T_at zk46 rfl
set_option maxRecDepth 100000 in
theorem zT46_186 : TT 46 186 L S M Q = TR (z_st (.ifCond .eq 196) 3 186 L S M) 46 189 M Q := T_at zk46 rfl
set_option maxRecDepth 100000 in
theorem zT46_189 : TT 46 189 L S M Q = TR (z_st (.iconst 1) 1 189 L S M) 46 190 M Q := T_at zk46 rfl
set_option maxRecDepth 100000 in
theorem zT46_190 : TT 46 190 L S M Q = TR (z_st (.iload 5) 2 190 L S M) 46 192 M Q := T_at zk46 rfl
set_option maxRecDepth 100000 in
theorem zT46_192 : TT 46 192 L S M Q = TR (z_st (.ishl) 1 192 L S M) 46 193 M Q := T_at zk46 rfl
set_option maxRecDepth 100000 in
theorem zT46_193 : TT 46 193 L S M Q = TR (z_st (.goto 197) 3 193 L S M) 46 196 M Q := T_at zk46 rfl
set_option maxRecDepth 100000 in
theorem zT46_196 : TT 46 196 L S M Q = TR (z_st (.iconst 0) 1 196 L S M) 46 197 M Q := T_at zk46 rfl
set_option maxRecDepth 100000 in
theorem zT46_197 : TT 46 197 L S M Q = TR (z_st (.ior) 1 197 L S M) 46 198 M Q := T_at zk46 rfl
set_option maxRecDepth 100000 in
theorem zT46_198 : TT 46 198 L S M Q = TR (z_st (.iastore) 1 198 L S M) 46 199 M Q := T_at zk46 rfl
set_option maxRecDepth 100000 in
theorem zT46_199 : TT 46 199 L S M Q = TR (z_st (.iinc 5 1) 3 199 L S M) 46 202 M Q := T_at zk46 rfl
set_option maxRecDepth 100000 in
theorem zT46_202 : TT 46 202 L S M Q = TR (z_st (.goto 146) 3 202 L S M) 46 205 M Q := T_at zk46 rfl
set_option maxRecDepth 100000 in
theorem zT46_205 : TT 46 205 L S M Q = TR (z_st (.iinc 2 1) 3 205 L S M) 46 208 M Q := T_at zk46 rfl
set_option maxRecDepth 100000 in
theorem zT46_208 : TT 46 208 L S M Q = TR (z_st (.goto 41) 3 208 L S M) 46 211 M Q := T_at zk46 rfl
set_option maxRecDepth 100000 in
theorem zT46_211 : TT 46 211 L S M Q = TR (z_st (.return_) 1 211 L S M) 46 212 M Q := T_at zk46 rfl
theorem zk47 : z_coL.getD 47 [] = zc47 := rfl
theorem zT47_0 : TT 47 0 L S M Q = TR (z_st (.aload 0) 1 0 L S M) 47 1 M Q := T_at zk47 rfl
theorem zT47_1 : TT 47 1 L S M Q = TR (z_st (.iload 1) 1 1 L S M) 47 2 M Q := T_at zk47 rfl
theorem zT47_2 : TT 47 2 L S M Q = TR (z_st (.invokevirtual 46) 3 2 L S M) 47 5 M Q := T_at zk47 rfl
theorem zT47_5 : TT 47 5 L S M Q = TR (z_st (.iconst 4095) 3 5 L S M) 47 8 M Q := T_at zk47 rfl
theorem zT47_8 : TT 47 8 L S M Q = TR (z_st (.istore 2) 1 8 L S M) 47 9 M Q := T_at zk47 rfl
theorem zT47_9 : TT 47 9 L S M Q = TR (z_st (.iload 2) 1 9 L S M) 47 10 M Q := T_at zk47 rfl
theorem zT47_10 : TT 47 10 L S M Q = TR (z_st (.ifCond .lt 114) 3 10 L S M) 47 13 M Q := T_at zk47 rfl
theorem zT47_13 : TT 47 13 L S M Q = TR (z_st (.aload 0) 1 13 L S M) 47 14 M Q := T_at zk47 rfl
theorem zT47_14 : TT 47 14 L S M Q = TR (z_st (.fload 87) 3 14 L S M) 47 17 M Q := T_at zk47 rfl
theorem zT47_17 : TT 47 17 L S M Q = TR (z_st (.iload 2) 1 17 L S M) 47 18 M Q := T_at zk47 rfl
theorem zT47_18 : TT 47 18 L S M Q = TR (z_st (.aload 0) 1 18 L S M) 47 19 M Q := T_at zk47 rfl
theorem zT47_19 : TT 47 19 L S M Q = TR (z_st (.iload 2) 1 19 L S M) 47 20 M Q := T_at zk47 rfl
theorem zT47_20 : TT 47 20 L S M Q = TR (z_st (.invokevirtual 43) 3 20 L S M) 47 23 M Q := T_at zk47 rfl
theorem zT47_23 : TT 47 23 L S M Q = TR (z_st (.ifCond .eq 42) 3 23 L S M) 47 26 M Q := T_at zk47 rfl
theorem zT47_26 : TT 47 26 L S M Q = TR (z_st (.iload 1) 1 26 L S M) 47 27 M Q := T_at zk47 rfl
theorem zT47_27 : TT 47 27 L S M Q = TR (z_st (.aload 0) 1 27 L S M) 47 28 M Q := T_at zk47 rfl
theorem zT47_28 : TT 47 28 L S M Q = TR (z_st (.iload 2) 1 28 L S M) 47 29 M Q := T_at zk47 rfl
theorem zT47_29 : TT 47 29 L S M Q = TR (z_st (.invokevirtual 44) 3 29 L S M) 47 32 M Q := T_at zk47 rfl
theorem zT47_32 : TT 47 32 L S M Q = TR (z_st (.iconst (-1)) 1 32 L S M) 47 33 M Q := T_at zk47 rfl
theorem zT47_33 : TT 47 33 L S M Q = TR (z_st (.ixor) 1 33 L S M) 47 34 M Q := T_at zk47 rfl
theorem zT47_34 : TT 47 34 L S M Q = TR (z_st (.iand) 1 34 L S M) 47 35 M Q := T_at zk47 rfl
theorem zT47_35 : TT 47 35 L S M Q = TR (z_st (.ifCond .ne 42) 3 35 L S M) 47 38 M Q := T_at zk47 rfl
theorem zT47_38 : TT 47 38 L S M Q = TR (z_st (.iconst 0) 1 38 L S M) 47 39 M Q := T_at zk47 rfl
theorem zT47_39 : TT 47 39 L S M Q = TR (z_st (.goto 44) 3 39 L S M) 47 42 M Q := T_at zk47 rfl
theorem zT47_42 : TT 47 42 L S M Q = TR (z_st (.iconst 100000) 2 42 L S M) 47 44 M Q := T_at zk47 rfl
theorem zT47_44 : TT 47 44 L S M Q = TR (z_st (.iastore) 1 44 L S M) 47 45 M Q := T_at zk47 rfl
theorem zT47_45 : TT 47 45 L S M Q = TR (z_st (.iconst 1) 1 45 L S M) 47 46 M Q := T_at zk47 rfl
theorem zT47_46 : TT 47 46 L S M Q = TR (z_st (.istore 3) 1 46 L S M) 47 47 M Q := T_at zk47 rfl
theorem zT47_47 : TT 47 47 L S M Q = TR (z_st (.iload 3) 1 47 L S M) 47 48 M Q := T_at zk47 rfl
theorem zT47_48 : TT 47 48 L S M Q = TR (z_st (.iconst 8) 2 48 L S M) 47 50 M Q := T_at zk47 rfl
theorem zT47_50 : TT 47 50 L S M Q = TR (z_st (.if_icmp .ge 108) 3 50 L S M) 47 53 M Q := T_at zk47 rfl
theorem zT47_53 : TT 47 53 L S M Q = TR (z_st (.aload 0) 1 53 L S M) 47 54 M Q := T_at zk47 rfl
theorem zT47_54 : TT 47 54 L S M Q = TR (z_st (.fload 87) 3 54 L S M) 47 57 M Q := T_at zk47 rfl
theorem zT47_57 : TT 47 57 L S M Q = TR (z_st (.iload 2) 1 57 L S M) 47 58 M Q := T_at zk47 rfl
theorem zT47_58 : TT 47 58 L S M Q = TR (z_st (.iaload) 1 58 L S M) 47 59 M Q := T_at zk47 rfl
theorem zT47_59 : TT 47 59 L S M Q = TR (z_st (.ifCond .eq 102) 3 59 L S M) 47 62 M Q := T_at zk47 rfl
theorem zT47_62 : TT 47 62 L S M Q = TR (z_st (.aload 0) 1 62 L S M) 47 63 M Q := T_at zk47 rfl
theorem zT47_63 : TT 47 63 L S M Q = TR (z_st (.fload 86) 3 63 L S M) 47 66 M Q := T_at zk47 rfl
theorem zT47_66 : TT 47 66 L S M Q = TR (z_st (.iload 2) 1 66 L S M) 47 67 M Q := T_at zk47 rfl
theorem zT47_67 : TT 47 67 L S M Q = TR (z_st (.iaload) 1 67 L S M) 47 68 M Q := T_at zk47 rfl
theorem zT47_68 : TT 47 68 L S M Q = TR (z_st (.iload 3) 1 68 L S M) 47 69 M Q := T_at zk47 rfl
theorem zT47_69 : TT 47 69 L S M Q = TR (z_st (.invokestatic 5) 3 69 L S M) 47 72 M Q := T_at zk47 rfl
theorem zT47_72 : TT 47 72 L S M Q = TR (z_st (.ifCond .eq 102) 3 72 L S M) 47 75 M Q := T_at zk47 rfl
theorem zT47_75 : TT 47 75 L S M Q = TR (z_st (.aload 0) 1 75 L S M) 47 76 M Q := T_at zk47 rfl
theorem zT47_76 : TT 47 76 L S M Q = TR (z_st (.fload 87) 3 76 L S M) 47 79 M Q := T_at zk47 rfl
theorem zT47_79 : TT 47 79 L S M Q = TR (z_st (.iload 2) 1 79 L S M) 47 80 M Q := T_at zk47 rfl
theorem zT47_80 : TT 47 80 L S M Q = TR (z_st (.aload 0) 1 80 L S M) 47 81 M Q := T_at zk47 rfl
theorem zT47_81 : TT 47 81 L S M Q = TR (z_st (.fload 87) 3 81 L S M) 47 84 M Q := T_at zk47 rfl
theorem zT47_84 : TT 47 84 L S M Q = TR (z_st (.iload 2) 1 84 L S M) 47 85 M Q := T_at zk47 rfl
theorem zT47_85 : TT 47 85 L S M Q = TR (z_st (.iaload) 1 85 L S M) 47 86 M Q := T_at zk47 rfl
theorem zT47_86 : TT 47 86 L S M Q = TR (z_st (.aload 0) 1 86 L S M) 47 87 M Q := T_at zk47 rfl
theorem zT47_87 : TT 47 87 L S M Q = TR (z_st (.fload 87) 3 87 L S M) 47 90 M Q := T_at zk47 rfl
theorem zT47_90 : TT 47 90 L S M Q = TR (z_st (.iload 2) 1 90 L S M) 47 91 M Q := T_at zk47 rfl
theorem zT47_91 : TT 47 91 L S M Q = TR (z_st (.iload 3) 1 91 L S M) 47 92 M Q := T_at zk47 rfl
theorem zT47_92 : TT 47 92 L S M Q = TR (z_st (.invokestatic 45) 3 92 L S M) 47 95 M Q := T_at zk47 rfl
theorem zT47_95 : TT 47 95 L S M Q = TR (z_st (.iaload) 1 95 L S M) 47 96 M Q := T_at zk47 rfl
theorem zT47_96 : TT 47 96 L S M Q = TR (z_st (.iconst 1) 1 96 L S M) 47 97 M Q := T_at zk47 rfl
theorem zT47_97 : TT 47 97 L S M Q = TR (z_st (.iadd) 1 97 L S M) 47 98 M Q := T_at zk47 rfl
theorem zT47_98 : TT 47 98 L S M Q = TR (z_st (.invokestatic 6) 3 98 L S M) 47 101 M Q := T_at zk47 rfl
theorem zT47_101 : TT 47 101 L S M Q = TR (z_st (.iastore) 1 101 L S M) 47 102 M Q := T_at zk47 rfl
theorem zT47_102 : TT 47 102 L S M Q = TR (z_st (.iinc 3 1) 3 102 L S M) 47 105 M Q := T_at zk47 rfl
theorem zT47_105 : TT 47 105 L S M Q = TR (z_st (.goto 47) 3 105 L S M) 47 108 M Q := T_at zk47 rfl
theorem zT47_108 : TT 47 108 L S M Q = TR (z_st (.iinc 2 (-1)) 3 108 L S M) 47 111 M Q := T_at zk47 rfl
theorem zT47_111 : TT 47 111 L S M Q = TR (z_st (.goto 9) 3 111 L S M) 47 114 M Q := T_at zk47 rfl
theorem zT47_114 : TT 47 114 L S M Q = TR (z_st (.aload 0) 1 114 L S M) 47 115 M Q := T_at zk47 rfl
theorem zT47_115 : TT 47 115 L S M Q = TR (z_st (.fload 87) 3 115 L S M) 47 118 M Q := T_at zk47 rfl
theorem zT47_118 : TT 47 118 L S M Q = TR (z_st (.aload 0) 1 118 L S M) 47 119 M Q := T_at zk47 rfl
theorem zT47_119 : TT 47 119 L S M Q = TR (z_st (.invokevirtual 42) 3 119 L S M) 47 122 M Q := T_at zk47 rfl
theorem zT47_122 : TT 47 122 L S M Q = TR (z_st (.iaload) 1 122 L S M) 47 123 M Q := T_at zk47 rfl
theorem zT47_123 : TT 47 123 L S M Q = TR (z_st (.istore 2) 1 123 L S M) 47 124 M Q := T_at zk47 rfl
theorem zT47_124 : TT 47 124 L S M Q = TR (z_st (.iload 2) 1 124 L S M) 47 125 M Q := T_at zk47 rfl
theorem zT47_125 : TT 47 125 L S M Q = TR (z_st (.iconst 100000) 2 125 L S M) 47 127 M Q := T_at zk47 rfl
theorem zT47_127 : TT 47 127 L S M Q = TR (z_st (.if_icmp .lt 134) 3 127 L S M) 47 130 M Q := T_at zk47 rfl
theorem zT47_130 : TT 47 130 L S M Q = TR (z_st (.iconst (-1)) 1 130 L S M) 47 131 M Q := T_at zk47 rfl
theorem zT47_131 : TT 47 131 L S M Q = TR (z_st (.goto 135) 3 131 L S M) 47 134 M Q := T_at zk47 rfl
theorem zT47_134 : TT 47 134 L S M Q = TR (z_st (.iload 2) 1 134 L S M) 47 135 M Q := T_at zk47 rfl
theorem zT47_135 : TT 47 135 L S M Q = TR (z_st (.ret 0) 1 135 L S M) 47 136 M Q := T_at zk47 rfl
theorem zk48 : z_coL.getD 48 [] = zc48 := rfl
theorem zT48_0 : TT 48 0 L S M Q = TR (z_st (.iconst 1) 1 0 L S M) 48 1 M Q := T_at zk48 rfl
theorem zT48_1 : TT 48 1 L S M Q = TR (z_st (.aload 0) 1 1 L S M) 48 2 M Q := T_at zk48 rfl
theorem zT48_2 : TT 48 2 L S M Q = TR (z_st (.fload 71) 3 2 L S M) 48 5 M Q := T_at zk48 rfl
theorem zT48_5 : TT 48 5 L S M Q = TR (z_st (.iconst 13) 2 5 L S M) 48 7 M Q := T_at zk48 rfl
theorem zT48_7 : TT 48 7 L S M Q = TR (z_st (.iaload) 1 7 L S M) 48 8 M Q := T_at zk48 rfl
theorem zT48_8 : TT 48 8 L S M Q = TR (z_st (.ishl) 1 8 L S M) 48 9 M Q := T_at zk48 rfl
theorem zT48_9 : TT 48 9 L S M Q = TR (z_st (.iconst 1) 1 9 L S M) 48 10 M Q := T_at zk48 rfl
theorem zT48_10 : TT 48 10 L S M Q = TR (z_st (.isub) 1 10 L S M) 48 11 M Q := T_at zk48 rfl
theorem zT48_11 : TT 48 11 L S M Q = TR (z_st (.ret 0) 1 11 L S M) 48 12 M Q := T_at zk48 rfl
theorem zk49 : z_coL.getD 49 [] = zc49 := rfl
theorem zT49_0 : TT 49 0 L S M Q = TR (z_st (.aload 0) 1 0 L S M) 49 1 M Q := T_at zk49 rfl
theorem zT49_1 : TT 49 1 L S M Q = TR (z_st (.iconst (-1)) 1 1 L S M) 49 2 M Q := T_at zk49 rfl
theorem zT49_2 : TT 49 2 L S M Q = TR (z_st (.aload 0) 1 2 L S M) 49 3 M Q := T_at zk49 rfl
theorem zT49_3 : TT 49 3 L S M Q = TR (z_st (.fload 71) 3 3 L S M) 49 6 M Q := T_at zk49 rfl
theorem zT49_6 : TT 49 6 L S M Q = TR (z_st (.iconst 54) 2 6 L S M) 49 8 M Q := T_at zk49 rfl
theorem zT49_8 : TT 49 8 L S M Q = TR (z_st (.iaload) 1 8 L S M) 49 9 M Q := T_at zk49 rfl
theorem zT49_9 : TT 49 9 L S M Q = TR (z_st (.iconst 1) 1 9 L S M) 49 10 M Q := T_at zk49 rfl
theorem zT49_10 : TT 49 10 L S M Q = TR (z_st (.if_icmp .ne 17) 3 10 L S M) 49 13 M Q := T_at zk49 rfl
theorem zT49_13 : TT 49 13 L S M Q = TR (z_st (.iconst 1) 1 13 L S M) 49 14 M Q := T_at zk49 rfl
theorem zT49_14 : TT 49 14 L S M Q = TR (z_st (.goto 18) 3 14 L S M) 49 17 M Q := T_at zk49 rfl
theorem zT49_17 : TT 49 17 L S M Q = TR (z_st (.iconst 0) 1 17 L S M) 49 18 M Q := T_at zk49 rfl
theorem zT49_18 : TT 49 18 L S M Q = TR (z_st (.invokevirtual 37) 3 18 L S M) 49 21 M Q := T_at zk49 rfl
theorem zT49_21 : TT 49 21 L S M Q = TR (z_st (.aload 0) 1 21 L S M) 49 22 M Q := T_at zk49 rfl
theorem zT49_22 : TT 49 22 L S M Q = TR (z_st (.aload 0) 1 22 L S M) 49 23 M Q := T_at zk49 rfl
theorem zT49_23 : TT 49 23 L S M Q = TR (z_st (.invokevirtual 48) 3 23 L S M) 49 26 M Q := T_at zk49 rfl
theorem zT49_26 : TT 49 26 L S M Q = TR (z_st (.invokevirtual 47) 3 26 L S M) 49 29 M Q := T_at zk49 rfl
theorem zT49_29 : TT 49 29 L S M Q = TR (z_st (.ret 0) 1 29 L S M) 49 30 M Q := T_at zk49 rfl
theorem zk50 : z_coL.getD 50 [] = zc50 := rfl
theorem zT50_0 : TT 50 0 L S M Q = TR (z_st (.aload 0) 1 0 L S M) 50 1 M Q := T_at zk50 rfl
theorem zT50_1 : TT 50 1 L S M Q = TR (z_st (.invokevirtual 49) 3 1 L S M) 50 4 M Q := T_at zk50 rfl
theorem zT50_4 : TT 50 4 L S M Q = TR (z_st (.ret 0) 1 4 L S M) 50 5 M Q := T_at zk50 rfl
theorem zk51 : z_coL.getD 51 [] = zc51 := rfl
theorem zT51_0 : TT 51 0 L S M Q = TR (z_st (.iconst 1) 1 0 L S M) 51 1 M Q := T_at zk51 rfl
theorem zT51_1 : TT 51 1 L S M Q = TR (z_st (.istore 2) 1 1 L S M) 51 2 M Q := T_at zk51 rfl
theorem zT51_2 : TT 51 2 L S M Q = TR (z_st (.aload 0) 1 2 L S M) 51 3 M Q := T_at zk51 rfl
theorem zT51_3 : TT 51 3 L S M Q = TR (z_st (.fload 86) 3 3 L S M) 51 6 M Q := T_at zk51 rfl
theorem zT51_6 : TT 51 6 L S M Q = TR (z_st (.iload 1) 1 6 L S M) 51 7 M Q := T_at zk51 rfl
theorem zT51_7 : TT 51 7 L S M Q = TR (z_st (.iaload) 1 7 L S M) 51 8 M Q := T_at zk51 rfl
theorem zT51_8 : TT 51 8 L S M Q = TR (z_st (.iload 2) 1 8 L S M) 51 9 M Q := T_at zk51 rfl
theorem zT51_9 : TT 51 9 L S M Q = TR (z_st (.invokestatic 5) 3 9 L S M) 51 12 M Q := T_at zk51 rfl
theorem zT51_12 : TT 51 12 L S M Q = TR (z_st (.ifCond .eq 36) 3 12 L S M) 51 15 M Q := T_at zk51 rfl
theorem zT51_15 : TT 51 15 L S M Q = TR (z_st (.aload 0) 1 15 L S M) 51 16 M Q := T_at zk51 rfl
theorem zT51_16 : TT 51 16 L S M Q = TR (z_st (.fload 87) 3 16 L S M) 51 19 M Q := T_at zk51 rfl
theorem zT51_19 : TT 51 19 L S M Q = TR (z_st (.iload 1) 1 19 L S M) 51 20 M Q := T_at zk51 rfl
theorem zT51_20 : TT 51 20 L S M Q = TR (z_st (.iload 2) 1 20 L S M) 51 21 M Q := T_at zk51 rfl
theorem zT51_21 : TT 51 21 L S M Q = TR (z_st (.invokestatic 45) 3 21 L S M) 51 24 M Q := T_at zk51 rfl
theorem zT51_24 : TT 51 24 L S M Q = TR (z_st (.iaload) 1 24 L S M) 51 25 M Q := T_at zk51 rfl
theorem zT51_25 : TT 51 25 L S M Q = TR (z_st (.aload 0) 1 25 L S M) 51 26 M Q := T_at zk51 rfl
theorem zT51_26 : TT 51 26 L S M Q = TR (z_st (.fload 87) 3 26 L S M) 51 29 M Q := T_at zk51 rfl
theorem zT51_29 : TT 51 29 L S M Q = TR (z_st (.iload 1) 1 29 L S M) 51 30 M Q := T_at zk51 rfl
theorem zT51_30 : TT 51 30 L S M Q = TR (z_st (.iaload) 1 30 L S M) 51 31 M Q := T_at zk51 rfl
theorem zT51_31 : TT 51 31 L S M Q = TR (z_st (.iconst 1) 1 31 L S M) 51 32 M Q := T_at zk51 rfl
theorem zT51_32 : TT 51 32 L S M Q = TR (z_st (.isub) 1 32 L S M) 51 33 M Q := T_at zk51 rfl
theorem zT51_33 : TT 51 33 L S M Q = TR (z_st (.if_icmp .eq 42) 3 33 L S M) 51 36 M Q := T_at zk51 rfl
theorem zT51_36 : TT 51 36 L S M Q = TR (z_st (.iinc 2 1) 3 36 L S M) 51 39 M Q := T_at zk51 rfl
theorem zT51_39 : TT 51 39 L S M Q = TR (z_st (.goto 2) 3 39 L S M) 51 42 M Q := T_at zk51 rfl
theorem zT51_42 : TT 51 42 L S M Q = TR (z_st (.iload 2) 1 42 L S M) 51 43 M Q := T_at zk51 rfl
theorem zT51_43 : TT 51 43 L S M Q = TR (z_st (.ret 0) 1 43 L S M) 51 44 M Q := T_at zk51 rfl
theorem zk52 : z_coL.getD 52 [] = zc52 := rfl
theorem zT52_0 : TT 52 0 L S M Q = TR (z_st (.iload 1) 1 0 L S M) 52 1 M Q := T_at zk52 rfl
theorem zT52_1 : TT 52 1 L S M Q = TR (z_st (.ifCond .ge 11) 3 1 L S M) 52 4 M Q := T_at zk52 rfl
theorem zT52_4 : TT 52 4 L S M Q = TR (z_st (.aload 0) 1 4 L S M) 52 5 M Q := T_at zk52 rfl
theorem zT52_5 : TT 52 5 L S M Q = TR (z_st (.iconst (-10)) 2 5 L S M) 52 7 M Q := T_at zk52 rfl
theorem zT52_7 : TT 52 7 L S M Q = TR (z_st (.invokevirtual 4) 3 7 L S M) 52 10 M Q := T_at zk52 rfl
theorem zT52_10 : TT 52 10 L S M Q = TR (z_st (.ret 0) 1 10 L S M) 52 11 M Q := T_at zk52 rfl
theorem zT52_11 : TT 52 11 L S M Q = TR (z_st (.aload 0) 1 11 L S M) 52 12 M Q := T_at zk52 rfl
theorem zT52_12 : TT 52 12 L S M Q = TR (z_st (.invokevirtual 49) 3 12 L S M) 52 15 M Q := T_at zk52 rfl
theorem zT52_15 : TT 52 15 L S M Q = TR (z_st (.istore 2) 1 15 L S M) 52 16 M Q := T_at zk52 rfl
theorem zT52_16 : TT 52 16 L S M Q = TR (z_st (.iload 1) 1 16 L S M) 52 17 M Q := T_at zk52 rfl
theorem zT52_17 : TT 52 17 L S M Q = TR (z_st (.iload 2) 1 17 L S M) 52 18 M Q := T_at zk52 rfl
theorem zT52_18 : TT 52 18 L S M Q = TR (z_st (.if_icmp .lt 24) 3 18 L S M) 52 21 M Q := T_at zk52 rfl
theorem zT52_21 : TT 52 21 L S M Q = TR (z_st (.iconst (-5)) 2 21 L S M) 52 23 M Q := T_at zk52 rfl
theorem zT52_23 : TT 52 23 L S M Q = TR (z_st (.ret 0) 1 23 L S M) 52 24 M Q := T_at zk52 rfl
theorem zT52_24 : TT 52 24 L S M Q = TR (z_st (.aload 0) 1 24 L S M) 52 25 M Q := T_at zk52 rfl
theorem zT52_25 : TT 52 25 L S M Q = TR (z_st (.invokevirtual 42) 3 25 L S M) 52 28 M Q := T_at zk52 rfl
theorem zT52_28 : TT 52 28 L S M Q = TR (z_st (.istore 3) 1 28 L S M) 52 29 M Q := T_at zk52 rfl
theorem zT52_29 : TT 52 29 L S M Q = TR (z_st (.iconst 0) 1 29 L S M) 52 30 M Q := T_at zk52 rfl
theorem zT52_30 : TT 52 30 L S M Q = TR (z_st (.istore 4) 2 30 L S M) 52 32 M Q := T_at zk52 rfl
theorem zT52_32 : TT 52 32 L S M Q = TR (z_st (.iload 4) 2 32 L S M) 52 34 M Q := T_at zk52 rfl
theorem zT52_34 : TT 52 34 L S M Q = TR (z_st (.iload 1) 1 34 L S M) 52 35 M Q := T_at zk52 rfl
theorem zT52_35 : TT 52 35 L S M Q = TR (z_st (.if_icmp .ge 54) 3 35 L S M) 52 38 M Q := T_at zk52 rfl
theorem zT52_38 : TT 52 38 L S M Q = TR (z_st (.iload 3) 1 38 L S M) 52 39 M Q := T_at zk52 rfl
theorem zT52_39 : TT 52 39 L S M Q = TR (z_st (.aload 0) 1 39 L S M) 52 40 M Q := T_at zk52 rfl
theorem zT52_40 : TT 52 40 L S M Q = TR (z_st (.iload 3) 1 40 L S M) 52 41 M Q := T_at zk52 rfl
theorem zT52_41 : TT 52 41 L S M Q = TR (z_st (.invokevirtual 51) 3 41 L S M) 52 44 M Q := T_at zk52 rfl
theorem zT52_44 : TT 52 44 L S M Q = TR (z_st (.invokestatic 45) 3 44 L S M) 52 47 M Q := T_at zk52 rfl
theorem zT52_47 : TT 52 47 L S M Q = TR (z_st (.istore 3) 1 47 L S M) 52 48 M Q := T_at zk52 rfl
theorem zT52_48 : TT 52 48 L S M Q = TR (z_st (.iinc 4 1) 3 48 L S M) 52 51 M Q := T_at zk52 rfl
theorem zT52_51 : TT 52 51 L S M Q = TR (z_st (.goto 32) 3 51 L S M) 52 54 M Q := T_at zk52 rfl
theorem zT52_54 : TT 52 54 L S M Q = TR (z_st (.aload 0) 1 54 L S M) 52 55 M Q := T_at zk52 rfl
theorem zT52_55 : TT 52 55 L S M Q = TR (z_st (.iload 3) 1 55 L S M) 52 56 M Q := T_at zk52 rfl
theorem zT52_56 : TT 52 56 L S M Q = TR (z_st (.invokevirtual 51) 3 56 L S M) 52 59 M Q := T_at zk52 rfl
theorem zT52_59 : TT 52 59 L S M Q = TR (z_st (.ret 0) 1 59 L S M) 52 60 M Q := T_at zk52 rfl
theorem zk53 : z_coL.getD 53 [] = zc53 := rfl
theorem zT53_0 : TT 53 0 L S M Q = TR (z_st (.iconst 0) 1 0 L S M) 53 1 M Q := T_at zk53 rfl
theorem zT53_1 : TT 53 1 L S M Q = TR (z_st (.istore 2) 1 1 L S M) 53 2 M Q := T_at zk53 rfl
theorem zT53_2 : TT 53 2 L S M Q = TR (z_st (.iconst 0) 1 2 L S M) 53 3 M Q := T_at zk53 rfl
theorem zT53_3 : TT 53 3 L S M Q = TR (z_st (.istore 3) 1 3 L S M) 53 4 M Q := T_at zk53 rfl
theorem zT53_4 : TT 53 4 L S M Q = TR (z_st (.iconst 0) 1 4 L S M) 53 5 M Q := T_at zk53 rfl
theorem zT53_5 : TT 53 5 L S M Q = TR (z_st (.istore 4) 2 5 L S M) 53 7 M Q := T_at zk53 rfl
theorem zT53_7 : TT 53 7 L S M Q = TR (z_st (.iconst 0) 1 7 L S M) 53 8 M Q := T_at zk53 rfl
theorem zT53_8 : TT 53 8 L S M Q = TR (z_st (.istore 5) 2 8 L S M) 53 10 M Q := T_at zk53 rfl
theorem zT53_10 : TT 53 10 L S M Q = TR (z_st (.iload 1) 1 10 L S M) 53 11 M Q := T_at zk53 rfl
theorem zT53_11 : TT 53 11 L S M Q = TR (z_st (.istore 6) 2 11 L S M) 53 13 M Q := T_at zk53 rfl
theorem zT53_13 : TT 53 13 L S M Q = TR (z_st (.iload 6) 2 13 L S M) 53 15 M Q := T_at zk53 rfl
theorem zT53_15 : TT 53 15 L S M Q = TR (z_st (.aload 0) 1 15 L S M) 53 16 M Q := T_at zk53 rfl
theorem zT53_16 : TT 53 16 L S M Q = TR (z_st (.getfield 90) 3 16 L S M) 53 19 M Q := T_at zk53 rfl
theorem zT53_19 : TT 53 19 L S M Q = TR (z_st (.if_icmp .ge 107) 3 19 L S M) 53 22 M Q := T_at zk53 rfl
theorem zT53_22 : TT 53 22 L S M Q = TR (z_st (.iload 2) 1 22 L S M) 53 23 M Q := T_at zk53 rfl
theorem zT53_23 : TT 53 23 L S M Q = TR (z_st (.aload 0) 1 23 L S M) 53 24 M Q := T_at zk53 rfl
theorem zT53_24 : TT 53 24 L S M Q = TR (z_st (.fload 93) 3 24 L S M) 53 27 M Q := T_at zk53 rfl
theorem zT53_27 : TT 53 27 L S M Q = TR (z_st (.iload 6) 2 27 L S M) 53 29 M Q := T_at zk53 rfl
theorem zT53_29 : TT 53 29 L S M Q = TR (z_st (.iaload) 1 29 L S M) 53 30 M Q := T_at zk53 rfl
theorem zT53_30 : TT 53 30 L S M Q = TR (z_st (.ifCond .ne 37) 3 30 L S M) 53 33 M Q := T_at zk53 rfl
theorem zT53_33 : TT 53 33 L S M Q = TR (z_st (.iconst 1) 1 33 L S M) 53 34 M Q := T_at zk53 rfl
theorem zT53_34 : TT 53 34 L S M Q = TR (z_st (.goto 38) 3 34 L S M) 53 37 M Q := T_at zk53 rfl
theorem zT53_37 : TT 53 37 L S M Q = TR (z_st (.iconst 0) 1 37 L S M) 53 38 M Q := T_at zk53 rfl
theorem zT53_38 : TT 53 38 L S M Q = TR (z_st (.iadd) 1 38 L S M) 53 39 M Q := T_at zk53 rfl
theorem zT53_39 : TT 53 39 L S M Q = TR (z_st (.istore 2) 1 39 L S M) 53 40 M Q := T_at zk53 rfl
theorem zT53_40 : TT 53 40 L S M Q = TR (z_st (.iload 3) 1 40 L S M) 53 41 M Q := T_at zk53 rfl
theorem zT53_41 : TT 53 41 L S M Q = TR (z_st (.aload 0) 1 41 L S M) 53 42 M Q := T_at zk53 rfl
theorem zT53_42 : TT 53 42 L S M Q = TR (z_st (.fload 93) 3 42 L S M) 53 45 M Q := T_at zk53 rfl
theorem zT53_45 : TT 53 45 L S M Q = TR (z_st (.iload 6) 2 45 L S M) 53 47 M Q := T_at zk53 rfl
theorem zT53_47 : TT 53 47 L S M Q = TR (z_st (.iaload) 1 47 L S M) 53 48 M Q := T_at zk53 rfl
theorem zT53_48 : TT 53 48 L S M Q = TR (z_st (.iconst 1) 1 48 L S M) 53 49 M Q := T_at zk53 rfl
theorem zT53_49 : TT 53 49 L S M Q = TR (z_st (.if_icmp .ne 56) 3 49 L S M) 53 52 M Q := T_at zk53 rfl
theorem zT53_52 : TT 53 52 L S M Q = TR (z_st (.iconst 1) 1 52 L S M) 53 53 M Q := T_at zk53 rfl
theorem zT53_53 : TT 53 53 L S M Q = TR (z_st (.goto 57) 3 53 L S M) 53 56 M Q := T_at zk53 rfl
theorem zT53_56 : TT 53 56 L S M Q = TR (z_st (.iconst 0) 1 56 L S M) 53 57 M Q := T_at zk53 rfl
theorem zT53_57 : TT 53 57 L S M Q = TR (z_st (.iadd) 1 57 L S M) 53 58 M Q := T_at zk53 rfl
theorem zT53_58 : TT 53 58 L S M Q = TR (z_st (.istore 3) 1 58 L S M) 53 59 M Q := T_at zk53 rfl
theorem zT53_59 : TT 53 59 L S M Q = TR (z_st (.iload 4) 2 59 L S M) 53 61 M Q := T_at zk53 rfl
theorem zT53_61 : TT 53 61 L S M Q = TR (z_st (.aload 0) 1 61 L S M) 53 62 M Q := T_at zk53 rfl
theorem zT53_62 : TT 53 62 L S M Q = TR (z_st (.fload 93) 3 62 L S M) 53 65 M Q := T_at zk53 rfl
theorem zT53_65 : TT 53 65 L S M Q = TR (z_st (.iload 6) 2 65 L S M) 53 67 M Q := T_at zk53 rfl
theorem zT53_67 : TT 53 67 L S M Q = TR (z_st (.iaload) 1 67 L S M) 53 68 M Q := T_at zk53 rfl
theorem zT53_68 : TT 53 68 L S M Q = TR (z_st (.iconst 2) 1 68 L S M) 53 69 M Q := T_at zk53 rfl
theorem zT53_69 : TT 53 69 L S M Q = TR (z_st (.if_icmp .ne 76) 3 69 L S M) 53 72 M Q := T_at zk53 rfl
theorem zT53_72 : TT 53 72 L S M Q = TR (z_st (.iconst 1) 1 72 L S M) 53 73 M Q := T_at zk53 rfl
theorem zT53_73 : TT 53 73 L S M Q = TR (z_st (.goto 77) 3 73 L S M) 53 76 M Q := T_at zk53 rfl
theorem zT53_76 : TT 53 76 L S M Q = TR (z_st (.iconst 0) 1 76 L S M) 53 77 M Q := T_at zk53 rfl
theorem zT53_77 : TT 53 77 L S M Q = TR (z_st (.iadd) 1 77 L S M) 53 78 M Q := T_at zk53 rfl
theorem zT53_78 : TT 53 78 L S M Q = TR (z_st (.istore 4) 2 78 L S M) 53 80 M Q := T_at zk53 rfl
theorem zT53_80 : TT 53 80 L S M Q = TR (z_st (.iload 5) 2 80 L S M) 53 82 M Q := T_at zk53 rfl
theorem zT53_82 : TT 53 82 L S M Q = TR (z_st (.aload 0) 1 82 L S M) 53 83 M Q := T_at zk53 rfl
theorem zT53_83 : TT 53 83 L S M Q = TR (z_st (.fload 93) 3 83 L S M) 53 86 M Q := T_at zk53 rfl
theorem zT53_86 : TT 53 86 L S M Q = TR (z_st (.iload 6) 2 86 L S M) 53 88 M Q := T_at zk53 rfl
theorem zT53_88 : TT 53 88 L S M Q = TR (z_st (.iaload) 1 88 L S M) 53 89 M Q := T_at zk53 rfl
theorem zT53_89 : TT 53 89 L S M Q = TR (z_st (.iconst 3) 1 89 L S M) 53 90 M Q := T_at zk53 rfl
theorem zT53_90 : TT 53 90 L S M Q = TR (z_st (.if_icmp .ne 97) 3 90 L S M) 53 93 M Q := T_at zk53 rfl
theorem zT53_93 : TT 53 93 L S M Q = TR (z_st (.iconst 1) 1 93 L S M) 53 94 M Q := T_at zk53 rfl
theorem zT53_94 : TT 53 94 L S M Q = TR (z_st (.goto 98) 3 94 L S M) 53 97 M Q := T_at zk53 rfl
theorem zT53_97 : TT 53 97 L S M Q = TR (z_st (.iconst 0) 1 97 L S M) 53 98 M Q := T_at zk53 rfl
theorem zT53_98 : TT 53 98 L S M Q = TR (z_st (.iadd) 1 98 L S M) 53 99 M Q := T_at zk53 rfl
theorem zT53_99 : TT 53 99 L S M Q = TR (z_st (.istore 5) 2 99 L S M) 53 101 M Q := T_at zk53 rfl
theorem zT53_101 : TT 53 101 L S M Q = TR (z_st (.iinc 6 1) 3 101 L S M) 53 104 M Q := T_at zk53 rfl
theorem zT53_104 : TT 53 104 L S M Q = TR (z_st (.goto 13) 3 104 L S M) 53 107 M Q := T_at zk53 rfl
theorem zT53_107 : TT 53 107 L S M Q = TR (z_st (.aload 0) 1 107 L S M) 53 108 M Q := T_at zk53 rfl
theorem zT53_108 : TT 53 108 L S M Q = TR (z_st (.iconst 0) 1 108 L S M) 53 109 M Q := T_at zk53 rfl
theorem zT53_109 : TT 53 109 L S M Q = TR (z_st (.putfield 81) 3 109 L S M) 53 112 M Q := T_at zk53 rfl
theorem zT53_112 : TT 53 112 L S M Q = TR (z_st (.aload 0) 1 112 L S M) 53 113 M Q := T_at zk53 rfl
theorem zT53_113 : TT 53 113 L S M Q = TR (z_st (.iconst 0) 1 113 L S M) 53 114 M Q := T_at zk53 rfl
theorem zT53_114 : TT 53 114 L S M Q = TR (z_st (.putfield 82) 3 114 L S M) 53 117 M Q := T_at zk53 rfl
theorem zT53_117 : TT 53 117 L S M Q = TR (z_st (.aload 0) 1 117 L S M) 53 118 M Q := T_at zk53 rfl
theorem zT53_118 : TT 53 118 L S M Q = TR (z_st (.iconst 0) 1 118 L S M) 53 119 M Q := T_at zk53 rfl
theorem zT53_119 : TT 53 119 L S M Q = TR (z_st (.putfield 83) 3 119 L S M) 53 122 M Q := T_at zk53 rfl
theorem zT53_122 : TT 53 122 L S M Q = TR (z_st (.aload 0) 1 122 L S M) 53 123 M Q := T_at zk53 rfl
theorem zT53_123 : TT 53 123 L S M Q = TR (z_st (.iconst 0) 1 123 L S M) 53 124 M Q := T_at zk53 rfl
theorem zT53_124 : TT 53 124 L S M Q = TR (z_st (.putfield 84) 3 124 L S M) 53 127 M Q := T_at zk53 rfl
theorem zT53_127 : TT 53 127 L S M Q = TR (z_st (.aload 0) 1 127 L S M) 53 128 M Q := T_at zk53 rfl
theorem zT53_128 : TT 53 128 L S M Q = TR (z_st (.iconst 0) 1 128 L S M) 53 129 M Q := T_at zk53 rfl
theorem zT53_129 : TT 53 129 L S M Q = TR (z_st (.putfield 85) 3 129 L S M) 53 132 M Q := T_at zk53 rfl
theorem zT53_132 : TT 53 132 L S M Q = TR (z_st (.iconst 0) 1 132 L S M) 53 133 M Q := T_at zk53 rfl
theorem zT53_133 : TT 53 133 L S M Q = TR (z_st (.istore 6) 2 133 L S M) 53 135 M Q := T_at zk53 rfl
theorem zT53_135 : TT 53 135 L S M Q = TR (z_st (.iload 6) 2 135 L S M) 53 137 M Q := T_at zk53 rfl
theorem zT53_137 : TT 53 137 L S M Q = TR (z_st (.aload 0) 1 137 L S M) 53 138 M Q := T_at zk53 rfl
theorem zT53_138 : TT 53 138 L S M Q = TR (z_st (.fload 71) 3 138 L S M) 53 141 M Q := T_at zk53 rfl
theorem zT53_141 : TT 53 141 L S M Q = TR (z_st (.iconst 0) 1 141 L S M) 53 142 M Q := T_at zk53 rfl
theorem zT53_142 : TT 53 142 L S M Q = TR (z_st (.iaload) 1 142 L S M) 53 143 M Q := T_at zk53 rfl
theorem zT53_143 : TT 53 143 L S M Q = TR (z_st (.if_icmp .ge 163) 3 143 L S M) 53 146 M Q := T_at zk53 rfl
theorem zT53_146 : TT 53 146 L S M Q = TR (z_st (.aload 0) 1 146 L S M) 53 147 M Q := T_at zk53 rfl
theorem zT53_147 : TT 53 147 L S M Q = TR (z_st (.aload 0) 1 147 L S M) 53 148 M Q := T_at zk53 rfl
theorem zT53_148 : TT 53 148 L S M Q = TR (z_st (.fload 92) 3 148 L S M) 53 151 M Q := T_at zk53 rfl
theorem zT53_151 : TT 53 151 L S M Q = TR (z_st (.iload 6) 2 151 L S M) 53 153 M Q := T_at zk53 rfl
theorem zT53_153 : TT 53 153 L S M Q = TR (z_st (.iaload) 1 153 L S M) 53 154 M Q := T_at zk53 rfl
set_option maxRecDepth 100000 in
theorem zT53_154 : TT 53 154 L S M Q = TR (z_st (.invokevirtual 36) 3 154 L S M) 53 157 M Q := T_at zk53 rfl
set_option maxRecDepth 100000 in
theorem zT53_157 : TT 53 157 L S M Q = TR (z_st (.iinc 6 1) 3 157 L S M) 53 160 M Q := T_at zk53 rfl
set_option maxRecDepth 100000 in
theorem zT53_160 : TT 53 160 L S M Q = TR (z_st (.goto 135) 3 160 L S M) 53 163 M Q := T_at zk53 rfl
set_option maxRecDepth 100000 in
theorem zT53_163 : TT 53 163 L S M Q = TR (z_st (.iload 2) 1 163 L S M) 53 164 M Q := T_at zk53 rfl
set_option maxRecDepth 100000 in
theorem zT53_164 : TT 53 164 L S M Q = TR (z_st (.iload 3) 1 164 L S M) 53 165 M Q := T_at zk53 rfl
set_option maxRecDepth 100000 in
theorem zT53_165 : TT 53 165 L S M Q = TR (z_st (.iload 4) 2 165 L S M) 53 167 M Q := T_at zk53 rfl
set_option maxRecDepth 100000 in
theorem zT53_167 : TT 53 167 L S M Q = TR (z_st (.iload 5) 2 167 L S M) 53 169 M Q := T_at zk53 rfl
set_option maxRecDepth 100000 in
theorem zT53_169 : TT 53 169 L S M Q = TR (z_st (.aload 0) 1 169 L S M) 53 170 M Q := T_at zk53 rfl
set_option maxRecDepth 100000 in
theorem zT53_170 : TT 53 170 L S M Q = TR (z_st (.getfield 81) 3 170 L S M) 53 173 M Q := T_at zk53 rfl
set_option maxRecDepth 100000 in
theorem zT53_173 : TT 53 173 L S M Q = TR (z_st (.aload 0) 1 173 L S M) 53 174 M Q := T_at zk53 rfl
set_option maxRecDepth 100000 in
theorem zT53_174 : TT 53 174 L S M Q = TR (z_st (.getfield 82) 3 174 L S M) 53 177 M Q := T_at zk53 rfl
set_option maxRecDepth 100000 in
theorem zT53_177 : TT 53 177 L S M Q = TR (z_st (.aload 0) 1 177 L S M) 53 178 M Q := T_at zk53 rfl
set_option maxRecDepth 100000 in
theorem zT53_178 : TT 53 178 L S M Q = TR (z_st (.getfield 83) 3 178 L S M) 53 181 M Q := T_at zk53 rfl
set_option maxRecDepth 100000 in
theorem zT53_181 : TT 53 181 L S M Q = TR (z_st (.aload 0) 1 181 L S M) 53 182 M Q := T_at zk53 rfl
set_option maxRecDepth 100000 in
theorem zT53_182 : TT 53 182 L S M Q = TR (z_st (.getfield 84) 3 182 L S M) 53 185 M Q := T_at zk53 rfl
set_option maxRecDepth 100000 in
theorem zT53_185 : TT 53 185 L S M Q = TR (z_st (.aload 0) 1 185 L S M) 53 186 M Q := T_at zk53 rfl
set_option maxRecDepth 100000 in
theorem zT53_186 : TT 53 186 L S M Q = TR (z_st (.getfield 85) 3 186 L S M) 53 189 M Q := T_at zk53 rfl
set_option maxRecDepth 100000 in
theorem zT53_189 : TT 53 189 L S M Q = TR (z_st (.invokestatic 38) 3 189 L S M) 53 192 M Q := T_at zk53 rfl
set_option maxRecDepth 100000 in
theorem zT53_192 : TT 53 192 L S M Q = TR (z_st (.ret 1) 1 192 L S M) 53 193 M Q := T_at zk53 rfl
theorem zk54 : z_coL.getD 54 [] = zc54 := rfl
theorem zT54_0 : TT 54 0 L S M Q = TR (z_st (.aload 0) 1 0 L S M) 54 1 M Q := T_at zk54 rfl
theorem zT54_1 : TT 54 1 L S M Q = TR (z_st (.fload 92) 3 1 L S M) 54 4 M Q := T_at zk54 rfl
theorem zT54_4 : TT 54 4 L S M Q = TR (z_st (.iload 1) 1 4 L S M) 54 5 M Q := T_at zk54 rfl
theorem zT54_5 : TT 54 5 L S M Q = TR (z_st (.iaload) 1 5 L S M) 54 6 M Q := T_at zk54 rfl
theorem zT54_6 : TT 54 6 L S M Q = TR (z_st (.istore 3) 1 6 L S M) 54 7 M Q := T_at zk54 rfl
theorem zT54_7 : TT 54 7 L S M Q = TR (z_st (.iload 2) 1 7 L S M) 54 8 M Q := T_at zk54 rfl
theorem zT54_8 : TT 54 8 L S M Q = TR (z_st (.ifCond .eq 16) 3 8 L S M) 54 11 M Q := T_at zk54 rfl
theorem zT54_11 : TT 54 11 L S M Q = TR (z_st (.iload 2) 1 11 L S M) 54 12 M Q := T_at zk54 rfl
theorem zT54_12 : TT 54 12 L S M Q = TR (z_st (.iconst 2) 1 12 L S M) 54 13 M Q := T_at zk54 rfl
theorem zT54_13 : TT 54 13 L S M Q = TR (z_st (.if_icmp .ne 20) 3 13 L S M) 54 16 M Q := T_at zk54 rfl
theorem zT54_16 : TT 54 16 L S M Q = TR (z_st (.iconst 1) 1 16 L S M) 54 17 M Q := T_at zk54 rfl
theorem zT54_17 : TT 54 17 L S M Q = TR (z_st (.goto 21) 3 17 L S M) 54 20 M Q := T_at zk54 rfl
theorem zT54_20 : TT 54 20 L S M Q = TR (z_st (.iconst 0) 1 20 L S M) 54 21 M Q := T_at zk54 rfl
theorem zT54_21 : TT 54 21 L S M Q = TR (z_st (.istore 4) 2 21 L S M) 54 23 M Q := T_at zk54 rfl
theorem zT54_23 : TT 54 23 L S M Q = TR (z_st (.iload 2) 1 23 L S M) 54 24 M Q := T_at zk54 rfl
theorem zT54_24 : TT 54 24 L S M Q = TR (z_st (.iconst 2) 1 24 L S M) 54 25 M Q := T_at zk54 rfl
theorem zT54_25 : TT 54 25 L S M Q = TR (z_st (.if_icmp .ge 32) 3 25 L S M) 54 28 M Q := T_at zk54 rfl
theorem zT54_28 : TT 54 28 L S M Q = TR (z_st (.iconst 0) 1 28 L S M) 54 29 M Q := T_at zk54 rfl
theorem zT54_29 : TT 54 29 L S M Q = TR (z_st (.goto 33) 3 29 L S M) 54 32 M Q := T_at zk54 rfl
theorem zT54_32 : TT 54 32 L S M Q = TR (z_st (.iconst 1) 1 32 L S M) 54 33 M Q := T_at zk54 rfl
theorem zT54_33 : TT 54 33 L S M Q = TR (z_st (.istore 5) 2 33 L S M) 54 35 M Q := T_at zk54 rfl
theorem zT54_35 : TT 54 35 L S M Q = TR (z_st (.iload 4) 2 35 L S M) 54 37 M Q := T_at zk54 rfl
theorem zT54_37 : TT 54 37 L S M Q = TR (z_st (.ifCond .eq 52) 3 37 L S M) 54 40 M Q := T_at zk54 rfl
theorem zT54_40 : TT 54 40 L S M Q = TR (z_st (.iload 3) 1 40 L S M) 54 41 M Q := T_at zk54 rfl
theorem zT54_41 : TT 54 41 L S M Q = TR (z_st (.iconst 3) 1 41 L S M) 54 42 M Q := T_at zk54 rfl
theorem zT54_42 : TT 54 42 L S M Q = TR (z_st (.invokestatic 5) 3 42 L S M) 54 45 M Q := T_at zk54 rfl
theorem zT54_45 : TT 54 45 L S M Q = TR (z_st (.ifCond .eq 52) 3 45 L S M) 54 48 M Q := T_at zk54 rfl
theorem zT54_48 : TT 54 48 L S M Q = TR (z_st (.iconst (-1)) 1 48 L S M) 54 49 M Q := T_at zk54 rfl
theorem zT54_49 : TT 54 49 L S M Q = TR (z_st (.goto 79) 3 49 L S M) 54 52 M Q := T_at zk54 rfl
theorem zT54_52 : TT 54 52 L S M Q = TR (z_st (.iload 3) 1 52 L S M) 54 53 M Q := T_at zk54 rfl
theorem zT54_53 : TT 54 53 L S M Q = TR (z_st (.iload 5) 2 53 L S M) 54 55 M Q := T_at zk54 rfl
theorem zT54_55 : TT 54 55 L S M Q = TR (z_st (.invokestatic 5) 3 55 L S M) 54 58 M Q := T_at zk54 rfl
theorem zT54_58 : TT 54 58 L S M Q = TR (z_st (.ifCond .eq 66) 3 58 L S M) 54 61 M Q := T_at zk54 rfl
theorem zT54_61 : TT 54 61 L S M Q = TR (z_st (.iload 5) 2 61 L S M) 54 63 M Q := T_at zk54 rfl
theorem zT54_63 : TT 54 63 L S M Q = TR (z_st (.goto 79) 3 63 L S M) 54 66 M Q := T_at zk54 rfl
theorem zT54_66 : TT 54 66 L S M Q = TR (z_st (.iload 3) 1 66 L S M) 54 67 M Q := T_at zk54 rfl
theorem zT54_67 : TT 54 67 L S M Q = TR (z_st (.iconst 2) 1 67 L S M) 54 68 M Q := T_at zk54 rfl
theorem zT54_68 : TT 54 68 L S M Q = TR (z_st (.invokestatic 5) 3 68 L S M) 54 71 M Q := T_at zk54 rfl
theorem zT54_71 : TT 54 71 L S M Q = TR (z_st (.ifCond .eq 78) 3 71 L S M) 54 74 M Q := T_at zk54 rfl
theorem zT54_74 : TT 54 74 L S M Q = TR (z_st (.iconst 2) 1 74 L S M) 54 75 M Q := T_at zk54 rfl
theorem zT54_75 : TT 54 75 L S M Q = TR (z_st (.goto 79) 3 75 L S M) 54 78 M Q := T_at zk54 rfl
theorem zT54_78 : TT 54 78 L S M Q = TR (z_st (.iconst (-1)) 1 78 L S M) 54 79 M Q := T_at zk54 rfl
theorem zT54_79 : TT 54 79 L S M Q = TR (z_st (.ret 0) 1 79 L S M) 54 80 M Q := T_at zk54 rfl
theorem zk55 : z_coL.getD 55 [] = zc55 := rfl
theorem zT55_0 : TT 55 0 L S M Q = TR (z_st (.aload 0) 1 0 L S M) 55 1 M Q := T_at zk55 rfl
theorem zT55_1 : TT 55 1 L S M Q = TR (z_st (.iconst 0) 1 1 L S M) 55 2 M Q := T_at zk55 rfl
theorem zT55_2 : TT 55 2 L S M Q = TR (z_st (.putfield 90) 3 2 L S M) 55 5 M Q := T_at zk55 rfl
theorem zT55_5 : TT 55 5 L S M Q = TR (z_st (.iconst 0) 1 5 L S M) 55 6 M Q := T_at zk55 rfl
theorem zT55_6 : TT 55 6 L S M Q = TR (z_st (.istore 3) 1 6 L S M) 55 7 M Q := T_at zk55 rfl
theorem zT55_7 : TT 55 7 L S M Q = TR (z_st (.iload 3) 1 7 L S M) 55 8 M Q := T_at zk55 rfl
theorem zT55_8 : TT 55 8 L S M Q = TR (z_st (.aload 0) 1 8 L S M) 55 9 M Q := T_at zk55 rfl
theorem zT55_9 : TT 55 9 L S M Q = TR (z_st (.fload 71) 3 9 L S M) 55 12 M Q := T_at zk55 rfl
theorem zT55_12 : TT 55 12 L S M Q = TR (z_st (.iconst 13) 2 12 L S M) 55 14 M Q := T_at zk55 rfl
theorem zT55_14 : TT 55 14 L S M Q = TR (z_st (.iaload) 1 14 L S M) 55 15 M Q := T_at zk55 rfl
theorem zT55_15 : TT 55 15 L S M Q = TR (z_st (.if_icmp .ge 157) 3 15 L S M) 55 18 M Q := T_at zk55 rfl
theorem zT55_18 : TT 55 18 L S M Q = TR (z_st (.iload 1) 1 18 L S M) 55 19 M Q := T_at zk55 rfl
theorem zT55_19 : TT 55 19 L S M Q = TR (z_st (.iload 3) 1 19 L S M) 55 20 M Q := T_at zk55 rfl
theorem zT55_20 : TT 55 20 L S M Q = TR (z_st (.invokestatic 5) 3 20 L S M) 55 23 M Q := T_at zk55 rfl
theorem zT55_23 : TT 55 23 L S M Q = TR (z_st (.ifCond .eq 151) 3 23 L S M) 55 26 M Q := T_at zk55 rfl
theorem zT55_26 : TT 55 26 L S M Q = TR (z_st (.iconst 17) 2 26 L S M) 55 28 M Q := T_at zk55 rfl
theorem zT55_28 : TT 55 28 L S M Q = TR (z_st (.iconst 12) 2 28 L S M) 55 30 M Q := T_at zk55 rfl
theorem zT55_30 : TT 55 30 L S M Q = TR (z_st (.iload 3) 1 30 L S M) 55 31 M Q := T_at zk55 rfl
theorem zT55_31 : TT 55 31 L S M Q = TR (z_st (.imul) 1 31 L S M) 55 32 M Q := T_at zk55 rfl
theorem zT55_32 : TT 55 32 L S M Q = TR (z_st (.iadd) 1 32 L S M) 55 33 M Q := T_at zk55 rfl
theorem zT55_33 : TT 55 33 L S M Q = TR (z_st (.iconst 4) 1 33 L S M) 55 34 M Q := T_at zk55 rfl
theorem zT55_34 : TT 55 34 L S M Q = TR (z_st (.aload 0) 1 34 L S M) 55 35 M Q := T_at zk55 rfl
theorem zT55_35 : TT 55 35 L S M Q = TR (z_st (.iload 3) 1 35 L S M) 55 36 M Q := T_at zk55 rfl
theorem zT55_36 : TT 55 36 L S M Q = TR (z_st (.iload 2) 1 36 L S M) 55 37 M Q := T_at zk55 rfl
theorem zT55_37 : TT 55 37 L S M Q = TR (z_st (.iconst 4) 1 37 L S M) 55 38 M Q := T_at zk55 rfl
theorem zT55_38 : TT 55 38 L S M Q = TR (z_st (.iload 3) 1 38 L S M) 55 39 M Q := T_at zk55 rfl
theorem zT55_39 : TT 55 39 L S M Q = TR (z_st (.imul) 1 39 L S M) 55 40 M Q := T_at zk55 rfl
theorem zT55_40 : TT 55 40 L S M Q = TR (z_st (.ishr) 1 40 L S M) 55 41 M Q := T_at zk55 rfl
theorem zT55_41 : TT 55 41 L S M Q = TR (z_st (.iconst 15) 2 41 L S M) 55 43 M Q := T_at zk55 rfl
theorem zT55_43 : TT 55 43 L S M Q = TR (z_st (.iand) 1 43 L S M) 55 44 M Q := T_at zk55 rfl
theorem zT55_44 : TT 55 44 L S M Q = TR (z_st (.invokevirtual 40) 3 44 L S M) 55 47 M Q := T_at zk55 rfl
theorem zT55_47 : TT 55 47 L S M Q = TR (z_st (.iconst 8) 2 47 L S M) 55 49 M Q := T_at zk55 rfl
theorem zT55_49 : TT 55 49 L S M Q = TR (z_st (.idiv) 1 49 L S M) 55 50 M Q := T_at zk55 rfl
theorem zT55_50 : TT 55 50 L S M Q = TR (z_st (.imul) 1 50 L S M) 55 51 M Q := T_at zk55 rfl
theorem zT55_51 : TT 55 51 L S M Q = TR (z_st (.iadd) 1 51 L S M) 55 52 M Q := T_at zk55 rfl
theorem zT55_52 : TT 55 52 L S M Q = TR (z_st (.istore 4) 2 52 L S M) 55 54 M Q := T_at zk55 rfl
theorem zT55_54 : TT 55 54 L S M Q = TR (z_st (.iconst 0) 1 54 L S M) 55 55 M Q := T_at zk55 rfl
theorem zT55_55 : TT 55 55 L S M Q = TR (z_st (.istore 5) 2 55 L S M) 55 57 M Q := T_at zk55 rfl
theorem zT55_57 : TT 55 57 L S M Q = TR (z_st (.iload 5) 2 57 L S M) 55 59 M Q := T_at zk55 rfl
theorem zT55_59 : TT 55 59 L S M Q = TR (z_st (.aload 0) 1 59 L S M) 55 60 M Q := T_at zk55 rfl
theorem zT55_60 : TT 55 60 L S M Q = TR (z_st (.fload 71) 3 60 L S M) 55 63 M Q := T_at zk55 rfl
theorem zT55_63 : TT 55 63 L S M Q = TR (z_st (.iload 4) 2 63 L S M) 55 65 M Q := T_at zk55 rfl
theorem zT55_65 : TT 55 65 L S M Q = TR (z_st (.iaload) 1 65 L S M) 55 66 M Q := T_at zk55 rfl
theorem zT55_66 : TT 55 66 L S M Q = TR (z_st (.aload 0) 1 66 L S M) 55 67 M Q := T_at zk55 rfl
theorem zT55_67 : TT 55 67 L S M Q = TR (z_st (.fload 71) 3 67 L S M) 55 70 M Q := T_at zk55 rfl
theorem zT55_70 : TT 55 70 L S M Q = TR (z_st (.iload 4) 2 70 L S M) 55 72 M Q := T_at zk55 rfl
theorem zT55_72 : TT 55 72 L S M Q = TR (z_st (.iconst 1) 1 72 L S M) 55 73 M Q := T_at zk55 rfl
theorem zT55_73 : TT 55 73 L S M Q = TR (z_st (.iadd) 1 73 L S M) 55 74 M Q := T_at zk55 rfl
theorem zT55_74 : TT 55 74 L S M Q = TR (z_st (.iaload) 1 74 L S M) 55 75 M Q := T_at zk55 rfl
theorem zT55_75 : TT 55 75 L S M Q = TR (z_st (.iadd) 1 75 L S M) 55 76 M Q := T_at zk55 rfl
theorem zT55_76 : TT 55 76 L S M Q = TR (z_st (.if_icmp .ge 151) 3 76 L S M) 55 79 M Q := T_at zk55 rfl
theorem zT55_79 : TT 55 79 L S M Q = TR (z_st (.aload 0) 1 79 L S M) 55 80 M Q := T_at zk55 rfl
theorem zT55_80 : TT 55 80 L S M Q = TR (z_st (.fload 93) 3 80 L S M) 55 83 M Q := T_at zk55 rfl
theorem zT55_83 : TT 55 83 L S M Q = TR (z_st (.aload 0) 1 83 L S M) 55 84 M Q := T_at zk55 rfl
theorem zT55_84 : TT 55 84 L S M Q = TR (z_st (.getfield 90) 3 84 L S M) 55 87 M Q := T_at zk55 rfl
theorem zT55_87 : TT 55 87 L S M Q = TR (z_st (.iload 5) 2 87 L S M) 55 89 M Q := T_at zk55 rfl
theorem zT55_89 : TT 55 89 L S M Q = TR (z_st (.aload 0) 1 89 L S M) 55 90 M Q := T_at zk55 rfl
theorem zT55_90 : TT 55 90 L S M Q = TR (z_st (.fload 71) 3 90 L S M) 55 93 M Q := T_at zk55 rfl
theorem zT55_93 : TT 55 93 L S M Q = TR (z_st (.iload 4) 2 93 L S M) 55 95 M Q := T_at zk55 rfl
theorem zT55_95 : TT 55 95 L S M Q = TR (z_st (.iaload) 1 95 L S M) 55 96 M Q := T_at zk55 rfl
theorem zT55_96 : TT 55 96 L S M Q = TR (z_st (.if_icmp .ge 103) 3 96 L S M) 55 99 M Q := T_at zk55 rfl
theorem zT55_99 : TT 55 99 L S M Q = TR (z_st (.iconst 0) 1 99 L S M) 55 100 M Q := T_at zk55 rfl
theorem zT55_100 : TT 55 100 L S M Q = TR (z_st (.goto 104) 3 100 L S M) 55 103 M Q := T_at zk55 rfl
theorem zT55_103 : TT 55 103 L S M Q = TR (z_st (.iconst 2) 1 103 L S M) 55 104 M Q := T_at zk55 rfl
theorem zT55_104 : TT 55 104 L S M Q = TR (z_st (.iload 5) 2 104 L S M) 55 106 M Q := T_at zk55 rfl
theorem zT55_106 : TT 55 106 L S M Q = TR (z_st (.aload 0) 1 106 L S M) 55 107 M Q := T_at zk55 rfl
theorem zT55_107 : TT 55 107 L S M Q = TR (z_st (.fload 71) 3 107 L S M) 55 110 M Q := T_at zk55 rfl
theorem zT55_110 : TT 55 110 L S M Q = TR (z_st (.iload 4) 2 110 L S M) 55 112 M Q := T_at zk55 rfl
theorem zT55_112 : TT 55 112 L S M Q = TR (z_st (.iconst 2) 1 112 L S M) 55 113 M Q := T_at zk55 rfl
theorem zT55_113 : TT 55 113 L S M Q = TR (z_st (.iadd) 1 113 L S M) 55 114 M Q := T_at zk55 rfl
theorem zT55_114 : TT 55 114 L S M Q = TR (z_st (.iaload) 1 114 L S M) 55 115 M Q := T_at zk55 rfl
theorem zT55_115 : TT 55 115 L S M Q = TR (z_st (.if_icmp .ge 122) 3 115 L S M) 55 118 M Q := T_at zk55 rfl
theorem zT55_118 : TT 55 118 L S M Q = TR (z_st (.iconst 0) 1 118 L S M) 55 119 M Q := T_at zk55 rfl
theorem zT55_119 : TT 55 119 L S M Q = TR (z_st (.goto 123) 3 119 L S M) 55 122 M Q := T_at zk55 rfl
theorem zT55_122 : TT 55 122 L S M Q = TR (z_st (.iconst 1) 1 122 L S M) 55 123 M Q := T_at zk55 rfl
theorem zT55_123 : TT 55 123 L S M Q = TR (z_st (.iadd) 1 123 L S M) 55 124 M Q := T_at zk55 rfl
theorem zT55_124 : TT 55 124 L S M Q = TR (z_st (.iastore) 1 124 L S M) 55 125 M Q := T_at zk55 rfl
theorem zT55_125 : TT 55 125 L S M Q = TR (z_st (.aload 0) 1 125 L S M) 55 126 M Q := T_at zk55 rfl
theorem zT55_126 : TT 55 126 L S M Q = TR (z_st (.fload 91) 3 126 L S M) 55 129 M Q := T_at zk55 rfl
theorem zT55_129 : TT 55 129 L S M Q = TR (z_st (.aload 0) 1 129 L S M) 55 130 M Q := T_at zk55 rfl
theorem zT55_130 : TT 55 130 L S M Q = TR (z_st (.getfield 90) 3 130 L S M) 55 133 M Q := T_at zk55 rfl
theorem zT55_133 : TT 55 133 L S M Q = TR (z_st (.iload 3) 1 133 L S M) 55 134 M Q := T_at zk55 rfl
theorem zT55_134 : TT 55 134 L S M Q = TR (z_st (.iastore) 1 134 L S M) 55 135 M Q := T_at zk55 rfl
theorem zT55_135 : TT 55 135 L S M Q = TR (z_st (.aload 0) 1 135 L S M) 55 136 M Q := T_at zk55 rfl
theorem zT55_136 : TT 55 136 L S M Q = TR (z_st (.dup) 1 136 L S M) 55 137 M Q := T_at zk55 rfl
theorem zT55_137 : TT 55 137 L S M Q = TR (z_st (.getfield 90) 3 137 L S M) 55 140 M Q := T_at zk55 rfl
theorem zT55_140 : TT 55 140 L S M Q = TR (z_st (.iconst 1) 1 140 L S M) 55 141 M Q := T_at zk55 rfl
theorem zT55_141 : TT 55 141 L S M Q = TR (z_st (.iadd) 1 141 L S M) 55 142 M Q := T_at zk55 rfl
theorem zT55_142 : TT 55 142 L S M Q = TR (z_st (.putfield 90) 3 142 L S M) 55 145 M Q := T_at zk55 rfl
theorem zT55_145 : TT 55 145 L S M Q = TR (z_st (.iinc 5 1) 3 145 L S M) 55 148 M Q := T_at zk55 rfl
theorem zT55_148 : TT 55 148 L S M Q = TR (z_st (.goto 57) 3 148 L S M) 55 151 M Q := T_at zk55 rfl
set_option maxRecDepth 100000 in
theorem zT55_151 : TT 55 151 L S M Q = TR (z_st (.iinc 3 1) 3 151 L S M) 55 154 M Q := T_at zk55 rfl
set_option maxRecDepth 100000 in
theorem zT55_154 : TT 55 154 L S M Q = TR (z_st (.goto 7) 3 154 L S M) 55 157 M Q := T_at zk55 rfl
set_option maxRecDepth 100000 in
theorem zT55_157 : TT 55 157 L S M Q = TR (z_st (.iconst 0) 1 157 L S M) 55 158 M Q := T_at zk55 rfl
set_option maxRecDepth 100000 in
theorem zT55_158 : TT 55 158 L S M Q = TR (z_st (.istore 3) 1 158 L S M) 55 159 M Q := T_at zk55 rfl
set_option maxRecDepth 100000 in
theorem zT55_159 : TT 55 159 L S M Q = TR (z_st (.iload 3) 1 159 L S M) 55 160 M Q := T_at zk55 rfl
set_option maxRecDepth 100000 in
theorem zT55_160 : TT 55 160 L S M Q = TR (z_st (.aload 0) 1 160 L S M) 55 161 M Q := T_at zk55 rfl
set_option maxRecDepth 100000 in
theorem zT55_161 : TT 55 161 L S M Q = TR (z_st (.fload 71) 3 161 L S M) 55 164 M Q := T_at zk55 rfl
set_option maxRecDepth 100000 in
theorem zT55_164 : TT 55 164 L S M Q = TR (z_st (.iconst 0) 1 164 L S M) 55 165 M Q := T_at zk55 rfl
set_option maxRecDepth 100000 in
theorem zT55_165 : TT 55 165 L S M Q = TR (z_st (.iaload) 1 165 L S M) 55 166 M Q := T_at zk55 rfl
set_option maxRecDepth 100000 in
theorem zT55_166 : TT 55 166 L S M Q = TR (z_st (.if_icmp .ge 186) 3 166 L S M) 55 169 M Q := T_at zk55 rfl
set_option maxRecDepth 100000 in
theorem zT55_169 : TT 55 169 L S M Q = TR (z_st (.aload 0) 1 169 L S M) 55 170 M Q := T_at zk55 rfl
set_option maxRecDepth 100000 in
theorem zT55_170 : TT 55 170 L S M Q = TR (z_st (.fload 92) 3 170 L S M) 55 173 M Q := T_at zk55 rfl
set_option maxRecDepth 100000 in
theorem zT55_173 : TT 55 173 L S M Q = TR (z_st (.iload 3) 1 173 L S M) 55 174 M Q := T_at zk55 rfl
set_option maxRecDepth 100000 in
theorem zT55_174 : TT 55 174 L S M Q = TR (z_st (.aload 0) 1 174 L S M) 55 175 M Q := T_at zk55 rfl
set_option maxRecDepth 100000 in
theorem zT55_175 : TT 55 175 L S M Q = TR (z_st (.iload 3) 1 175 L S M) 55 176 M Q := T_at zk55 rfl
set_option maxRecDepth 100000 in
theorem zT55_176 : TT 55 176 L S M Q = TR (z_st (.invokevirtual 24) 3 176 L S M) 55 179 M Q := T_at zk55 rfl
set_option maxRecDepth 100000 in
theorem zT55_179 : TT 55 179 L S M Q = TR (z_st (.iastore) 1 179 L S M) 55 180 M Q := T_at zk55 rfl
set_option maxRecDepth 100000 in
theorem zT55_180 : TT 55 180 L S M Q = TR (z_st (.iinc 3 1) 3 180 L S M) 55 183 M Q := T_at zk55 rfl
set_option maxRecDepth 100000 in
theorem zT55_183 : TT 55 183 L S M Q = TR (z_st (.goto 159) 3 183 L S M) 55 186 M Q := T_at zk55 rfl
set_option maxRecDepth 100000 in
theorem zT55_186 : TT 55 186 L S M Q = TR (z_st (.iconst 0) 1 186 L S M) 55 187 M Q := T_at zk55 rfl
set_option maxRecDepth 100000 in
theorem zT55_187 : TT 55 187 L S M Q = TR (z_st (.istore 3) 1 187 L S M) 55 188 M Q := T_at zk55 rfl
set_option maxRecDepth 100000 in
theorem zT55_188 : TT 55 188 L S M Q = TR (z_st (.iload 3) 1 188 L S M) 55 189 M Q := T_at zk55 rfl
set_option maxRecDepth 100000 in
theorem zT55_189 : TT 55 189 L S M Q = TR (z_st (.aload 0) 1 189 L S M) 55 190 M Q := T_at zk55 rfl
set_option maxRecDepth 100000 in
theorem zT55_190 : TT 55 190 L S M Q = TR (z_st (.getfield 90) 3 190 L S M) 55 193 M Q := T_at zk55 rfl
set_option maxRecDepth 100000 in
theorem zT55_193 : TT 55 193 L S M Q = TR (z_st (.if_icmp .ge 305) 3 193 L S M) 55 196 M Q := T_at zk55 rfl
set_option maxRecDepth 100000 in
theorem zT55_196 : TT 55 196 L S M Q = TR (z_st (.iconst 0) 1 196 L S M) 55 197 M Q := T_at zk55 rfl
set_option maxRecDepth 100000 in
theorem zT55_197 : TT 55 197 L S M Q = TR (z_st (.istore 4) 2 197 L S M) 55 199 M Q := T_at zk55 rfl
set_option maxRecDepth 100000 in
theorem zT55_199 : TT 55 199 L S M Q = TR (z_st (.iconst 0) 1 199 L S M) 55 200 M Q := T_at zk55 rfl
set_option maxRecDepth 100000 in
theorem zT55_200 : TT 55 200 L S M Q = TR (z_st (.istore 5) 2 200 L S M) 55 202 M Q := T_at zk55 rfl
set_option maxRecDepth 100000 in
theorem zT55_202 : TT 55 202 L S M Q = TR (z_st (.iload 5) 2 202 L S M) 55 204 M Q := T_at zk55 rfl
set_option maxRecDepth 100000 in
theorem zT55_204 : TT 55 204 L S M Q = TR (z_st (.ifCond .ne 299) 3 204 L S M) 55 207 M Q := T_at zk55 rfl
set_option maxRecDepth 100000 in
theorem zT55_207 : TT 55 207 L S M Q = TR (z_st (.aload 0) 1 207 L S M) 55 208 M Q := T_at zk55 rfl
set_option maxRecDepth 100000 in
theorem zT55_208 : TT 55 208 L S M Q = TR (z_st (.iload 4) 2 208 L S M) 55 210 M Q := T_at zk55 rfl
set_option maxRecDepth 100000 in
theorem zT55_210 : TT 55 210 L S M Q = TR (z_st (.aload 0) 1 210 L S M) 55 211 M Q := T_at zk55 rfl
set_option maxRecDepth 100000 in
theorem zT55_211 : TT 55 211 L S M Q = TR (z_st (.fload 93) 3 211 L S M) 55 214 M Q := T_at zk55 rfl
set_option maxRecDepth 100000 in
theorem zT55_214 : TT 55 214 L S M Q = TR (z_st (.iload 3) 1 214 L S M) 55 215 M Q := T_at zk55 rfl
set_option maxRecDepth 100000 in
theorem zT55_215 : TT 55 215 L S M Q = TR (z_st (.iaload) 1 215 L S M) 55 216 M Q := T_at zk55 rfl
set_option maxRecDepth 100000 in
theorem zT55_216 : TT 55 216 L S M Q = TR (z_st (.invokevirtual 54) 3 216 L S M) 55 219 M Q := T_at zk55 rfl
set_option maxRecDepth 100000 in
theorem zT55_219 : TT 55 219 L S M Q = TR (z_st (.istore 6) 2 219 L S M) 55 221 M Q := T_at zk55 rfl
set_option maxRecDepth 100000 in
theorem zT55_221 : TT 55 221 L S M Q = TR (z_st (.aload 0) 1 221 L S M) 55 222 M Q := T_at zk55 rfl
set_option maxRecDepth 100000 in
theorem zT55_222 : TT 55 222 L S M Q = TR (z_st (.fload 92) 3 222 L S M) 55 225 M Q := T_at zk55 rfl
set_option maxRecDepth 100000 in
theorem zT55_225 : TT 55 225 L S M Q = TR (z_st (.iload 4) 2 225 L S M) 55 227 M Q := T_at zk55 rfl
set_option maxRecDepth 100000 in
theorem zT55_227 : TT 55 227 L S M Q = TR (z_st (.iaload) 1 227 L S M) 55 228 M Q := T_at zk55 rfl
set_option maxRecDepth 100000 in
theorem zT55_228 : TT 55 228 L S M Q = TR (z_st (.istore 7) 2 228 L S M) 55 230 M Q := T_at zk55 rfl
set_option maxRecDepth 100000 in
theorem zT55_230 : TT 55 230 L S M Q = TR (z_st (.iload 6) 2 230 L S M) 55 232 M Q := T_at zk55 rfl
set_option maxRecDepth 100000 in
theorem zT55_232 : TT 55 232 L S M Q = TR (z_st (.iconst (-1)) 1 232 L S M) 55 233 M Q := T_at zk55 rfl
set_option maxRecDepth 100000 in
theorem zT55_233 : TT 55 233 L S M Q = TR (z_st (.if_icmp .eq 285) 3 233 L S M) 55 236 M Q := T_at zk55 rfl
set_option maxRecDepth 100000 in
theorem zT55_236 : TT 55 236 L S M Q = TR (z_st (.aload 0) 1 236 L S M) 55 237 M Q := T_at zk55 rfl
set_option maxRecDepth 100000 in
theorem zT55_237 : TT 55 237 L S M Q = TR (z_st (.fload 92) 3 237 L S M) 55 240 M Q := T_at zk55 rfl
set_option maxRecDepth 100000 in
theorem zT55_240 : TT 55 240 L S M Q = TR (z_st (.iload 4) 2 240 L S M) 55 242 M Q := T_at zk55 rfl
set_option maxRecDepth 100000 in
theorem zT55_242 : TT 55 242 L S M Q = TR (z_st (.dup2) 1 242 L S M) 55 243 M Q := T_at zk55 rfl
set_option maxRecDepth 100000 in
theorem zT55_243 : TT 55 243 L S M Q = TR (z_st (.iaload) 1 243 L S M) 55 244 M Q := T_at zk55 rfl
set_option maxRecDepth 100000 in
theorem zT55_244 : TT 55 244 L S M Q = TR (z_st (.iconst 1) 1 244 L S M) 55 245 M Q := T_at zk55 rfl
set_option maxRecDepth 100000 in
theorem zT55_245 : TT 55 245 L S M Q = TR (z_st (.iload 6) 2 245 L S M) 55 247 M Q := T_at zk55 rfl
set_option maxRecDepth 100000 in
theorem zT55_247 : TT 55 247 L S M Q = TR (z_st (.ishl) 1 247 L S M) 55 248 M Q := T_at zk55 rfl
set_option maxRecDepth 100000 in
theorem zT55_248 : TT 55 248 L S M Q = TR (z_st (.iconst (-1)) 1 248 L S M) 55 249 M Q := T_at zk55 rfl
set_option maxRecDepth 100000 in
theorem zT55_249 : TT 55 249 L S M Q = TR (z_st (.ixor) 1 249 L S M) 55 250 M Q := T_at zk55 rfl
set_option maxRecDepth 100000 in
theorem zT55_250 : TT 55 250 L S M Q = TR (z_st (.iand) 1 250 L S M) 55 251 M Q := T_at zk55 rfl
set_option maxRecDepth 100000 in
theorem zT55_251 : TT 55 251 L S M Q = TR (z_st (.iastore) 1 251 L S M) 55 252 M Q := T_at zk55 rfl
set_option maxRecDepth 100000 in
theorem zT55_252 : TT 55 252 L S M Q = TR (z_st (.aload 0) 1 252 L S M) 55 253 M Q := T_at zk55 rfl
set_option maxRecDepth 100000 in
theorem zT55_253 : TT 55 253 L S M Q = TR (z_st (.iload 3) 1 253 L S M) 55 254 M Q := T_at zk55 rfl
set_option maxRecDepth 100000 in
theorem zT55_254 : TT 55 254 L S M Q = TR (z_st (.iconst 1) 1 254 L S M) 55 255 M Q := T_at zk55 rfl
set_option maxRecDepth 100000 in
theorem zT55_255 : TT 55 255 L S M Q = TR (z_st (.iadd) 1 255 L S M) 55 256 M Q := T_at zk55 rfl
set_option maxRecDepth 100000 in
theorem zT55_256 : TT 55 256 L S M Q = TR (z_st (.invokevirtual 53) 3 256 L S M) 55 259 M Q := T_at zk55 rfl
set_option maxRecDepth 100000 in
theorem zT55_259 : TT 55 259 L S M Q = TR (z_st (.istore 5) 2 259 L S M) 55 261 M Q := T_at zk55 rfl
set_option maxRecDepth 100000 in
theorem zT55_261 : TT 55 261 L S M Q = TR (z_st (.aload 0) 1 261 L S M) 55 262 M Q := T_at zk55 rfl
set_option maxRecDepth 100000 in
theorem zT55_262 : TT 55 262 L S M Q = TR (z_st (.fload 92) 3 262 L S M) 55 265 M Q := T_at zk55 rfl
set_option maxRecDepth 100000 in
theorem zT55_265 : TT 55 265 L S M Q = TR (z_st (.iload 4) 2 265 L S M) 55 267 M Q := T_at zk55 rfl
set_option maxRecDepth 100000 in
theorem zT55_267 : TT 55 267 L S M Q = TR (z_st (.iload 5) 2 267 L S M) 55 269 M Q := T_at zk55 rfl
set_option maxRecDepth 100000 in
theorem zT55_269 : TT 55 269 L S M Q = TR (z_st (.ifCond .eq 282) 3 269 L S M) 55 272 M Q := T_at zk55 rfl
set_option maxRecDepth 100000 in
theorem zT55_272 : TT 55 272 L S M Q = TR (z_st (.aload 0) 1 272 L S M) 55 273 M Q := T_at zk55 rfl
set_option maxRecDepth 100000 in
theorem zT55_273 : TT 55 273 L S M Q = TR (z_st (.fload 92) 3 273 L S M) 55 276 M Q := T_at zk55 rfl
set_option maxRecDepth 100000 in
theorem zT55_276 : TT 55 276 L S M Q = TR (z_st (.iload 4) 2 276 L S M) 55 278 M Q := T_at zk55 rfl
set_option maxRecDepth 100000 in
theorem zT55_278 : TT 55 278 L S M Q = TR (z_st (.iaload) 1 278 L S M) 55 279 M Q := T_at zk55 rfl
set_option maxRecDepth 100000 in
theorem zT55_279 : TT 55 279 L S M Q = TR (z_st (.goto 284) 3 279 L S M) 55 282 M Q := T_at zk55 rfl
set_option maxRecDepth 100000 in
theorem zT55_282 : TT 55 282 L S M Q = TR (z_st (.iload 7) 2 282 L S M) 55 284 M Q := T_at zk55 rfl
set_option maxRecDepth 100000 in
theorem zT55_284 : TT 55 284 L S M Q = TR (z_st (.iastore) 1 284 L S M) 55 285 M Q := T_at zk55 rfl
set_option maxRecDepth 100000 in
theorem zT55_285 : TT 55 285 L S M Q = TR (z_st (.aload 0) 1 285 L S M) 55 286 M Q := T_at zk55 rfl
set_option maxRecDepth 100000 in
theorem zT55_286 : TT 55 286 L S M Q = TR (z_st (.fload 89) 3 286 L S M) 55 289 M Q := T_at zk55 rfl
set_option maxRecDepth 100000 in
theorem zT55_289 : TT 55 289 L S M Q = TR (z_st (.iload 3) 1 289 L S M) 55 290 M Q := T_at zk55 rfl
set_option maxRecDepth 100000 in
theorem zT55_290 : TT 55 290 L S M Q = TR (z_st (.iload 4) 2 290 L S M) 55 292 M Q := T_at zk55 rfl
set_option maxRecDepth 100000 in
theorem zT55_292 : TT 55 292 L S M Q = TR (z_st (.iastore) 1 292 L S M) 55 293 M Q := T_at zk55 rfl
set_option maxRecDepth 100000 in
theorem zT55_293 : TT 55 293 L S M Q = TR (z_st (.iinc 4 1) 3 293 L S M) 55 296 M Q := T_at zk55 rfl
set_option maxRecDepth 100000 in
theorem zT55_296 : TT 55 296 L S M Q = TR (z_st (.goto 202) 3 296 L S M) 55 299 M Q := T_at zk55 rfl
set_option maxRecDepth 100000 in
theorem zT55_299 : TT 55 299 L S M Q = TR (z_st (.iinc 3 1) 3 299 L S M) 55 302 M Q := T_at zk55 rfl
set_option maxRecDepth 100000 in
theorem zT55_302 : TT 55 302 L S M Q = TR (z_st (.goto 188) 3 302 L S M) 55 305 M Q := T_at zk55 rfl
set_option maxRecDepth 100000 in
theorem zT55_305 : TT 55 305 L S M Q = TR (z_st (.return_) 1 305 L S M) 55 306 M Q := T_at zk55 rfl
theorem zk56 : z_coL.getD 56 [] = zc56 := rfl
theorem zT56_0 : TT 56 0 L S M Q = TR (z_st (.iload 1) 1 0 L S M) 56 1 M Q := T_at zk56 rfl
theorem zT56_1 : TT 56 1 L S M Q = TR (z_st (.i2l) 1 1 L S M) 56 2 M Q := T_at zk56 rfl
theorem zT56_2 : TT 56 2 L S M Q = TR (z_st (.ldc2_w 0) 1 2 L S M) 56 3 M Q := T_at zk56 rfl
theorem zT56_3 : TT 56 3 L S M Q = TR (z_st (.aload 0) 1 3 L S M) 56 4 M Q := T_at zk56 rfl
theorem zT56_4 : TT 56 4 L S M Q = TR (z_st (.invokevirtual 48) 3 4 L S M) 56 7 M Q := T_at zk56 rfl
theorem zT56_7 : TT 56 7 L S M Q = TR (z_st (.i2l) 1 7 L S M) 56 8 M Q := T_at zk56 rfl
theorem zT56_8 : TT 56 8 L S M Q = TR (z_st (.invokestatic 2) 3 8 L S M) 56 11 M Q := T_at zk56 rfl
theorem zT56_11 : TT 56 11 L S M Q = TR (z_st (.ifCond .eq 22) 3 11 L S M) 56 14 M Q := T_at zk56 rfl
theorem zT56_14 : TT 56 14 L S M Q = TR (z_st (.iload 2) 1 14 L S M) 56 15 M Q := T_at zk56 rfl
theorem zT56_15 : TT 56 15 L S M Q = TR (z_st (.ifCond .lt 22) 3 15 L S M) 56 18 M Q := T_at zk56 rfl
theorem zT56_18 : TT 56 18 L S M Q = TR (z_st (.iconst 1) 1 18 L S M) 56 19 M Q := T_at zk56 rfl
theorem zT56_19 : TT 56 19 L S M Q = TR (z_st (.goto 23) 3 19 L S M) 56 22 M Q := T_at zk56 rfl
theorem zT56_22 : TT 56 22 L S M Q = TR (z_st (.iconst 0) 1 22 L S M) 56 23 M Q := T_at zk56 rfl
theorem zT56_23 : TT 56 23 L S M Q = TR (z_st (.istore 3) 1 23 L S M) 56 24 M Q := T_at zk56 rfl
theorem zT56_24 : TT 56 24 L S M Q = TR (z_st (.iconst 0) 1 24 L S M) 56 25 M Q := T_at zk56 rfl
theorem zT56_25 : TT 56 25 L S M Q = TR (z_st (.istore 4) 2 25 L S M) 56 27 M Q := T_at zk56 rfl
theorem zT56_27 : TT 56 27 L S M Q = TR (z_st (.iload 4) 2 27 L S M) 56 29 M Q := T_at zk56 rfl
theorem zT56_29 : TT 56 29 L S M Q = TR (z_st (.aload 0) 1 29 L S M) 56 30 M Q := T_at zk56 rfl
theorem zT56_30 : TT 56 30 L S M Q = TR (z_st (.fload 71) 3 30 L S M) 56 33 M Q := T_at zk56 rfl
theorem zT56_33 : TT 56 33 L S M Q = TR (z_st (.iconst 13) 2 33 L S M) 56 35 M Q := T_at zk56 rfl
theorem zT56_35 : TT 56 35 L S M Q = TR (z_st (.iaload) 1 35 L S M) 56 36 M Q := T_at zk56 rfl
theorem zT56_36 : TT 56 36 L S M Q = TR (z_st (.if_icmp .ge 83) 3 36 L S M) 56 39 M Q := T_at zk56 rfl
theorem zT56_39 : TT 56 39 L S M Q = TR (z_st (.iload 3) 1 39 L S M) 56 40 M Q := T_at zk56 rfl
theorem zT56_40 : TT 56 40 L S M Q = TR (z_st (.ifCond .eq 75) 3 40 L S M) 56 43 M Q := T_at zk56 rfl
theorem zT56_43 : TT 56 43 L S M Q = TR (z_st (.iload 1) 1 43 L S M) 56 44 M Q := T_at zk56 rfl
theorem zT56_44 : TT 56 44 L S M Q = TR (z_st (.iload 4) 2 44 L S M) 56 46 M Q := T_at zk56 rfl
theorem zT56_46 : TT 56 46 L S M Q = TR (z_st (.invokestatic 5) 3 46 L S M) 56 49 M Q := T_at zk56 rfl
theorem zT56_49 : TT 56 49 L S M Q = TR (z_st (.ifCond .eq 71) 3 49 L S M) 56 52 M Q := T_at zk56 rfl
theorem zT56_52 : TT 56 52 L S M Q = TR (z_st (.aload 0) 1 52 L S M) 56 53 M Q := T_at zk56 rfl
theorem zT56_53 : TT 56 53 L S M Q = TR (z_st (.fload 71) 3 53 L S M) 56 56 M Q := T_at zk56 rfl
theorem zT56_56 : TT 56 56 L S M Q = TR (z_st (.iconst 55) 2 56 L S M) 56 58 M Q := T_at zk56 rfl
theorem zT56_58 : TT 56 58 L S M Q = TR (z_st (.iload 4) 2 58 L S M) 56 60 M Q := T_at zk56 rfl
theorem zT56_60 : TT 56 60 L S M Q = TR (z_st (.iadd) 1 60 L S M) 56 61 M Q := T_at zk56 rfl
theorem zT56_61 : TT 56 61 L S M Q = TR (z_st (.iaload) 1 61 L S M) 56 62 M Q := T_at zk56 rfl
theorem zT56_62 : TT 56 62 L S M Q = TR (z_st (.aload 0) 1 62 L S M) 56 63 M Q := T_at zk56 rfl
theorem zT56_63 : TT 56 63 L S M Q = TR (z_st (.iload 4) 2 63 L S M) 56 65 M Q := T_at zk56 rfl
theorem zT56_65 : TT 56 65 L S M Q = TR (z_st (.invokevirtual 39) 3 65 L S M) 56 68 M Q := T_at zk56 rfl
theorem zT56_68 : TT 56 68 L S M Q = TR (z_st (.if_icmp .eq 75) 3 68 L S M) 56 71 M Q := T_at zk56 rfl
theorem zT56_71 : TT 56 71 L S M Q = TR (z_st (.iconst 1) 1 71 L S M) 56 72 M Q := T_at zk56 rfl
theorem zT56_72 : TT 56 72 L S M Q = TR (z_st (.goto 76) 3 72 L S M) 56 75 M Q := T_at zk56 rfl
theorem zT56_75 : TT 56 75 L S M Q = TR (z_st (.iconst 0) 1 75 L S M) 56 76 M Q := T_at zk56 rfl
theorem zT56_76 : TT 56 76 L S M Q = TR (z_st (.istore 3) 1 76 L S M) 56 77 M Q := T_at zk56 rfl
theorem zT56_77 : TT 56 77 L S M Q = TR (z_st (.iinc 4 1) 3 77 L S M) 56 80 M Q := T_at zk56 rfl
theorem zT56_80 : TT 56 80 L S M Q = TR (z_st (.goto 27) 3 80 L S M) 56 83 M Q := T_at zk56 rfl
theorem zT56_83 : TT 56 83 L S M Q = TR (z_st (.iload 3) 1 83 L S M) 56 84 M Q := T_at zk56 rfl
theorem zT56_84 : TT 56 84 L S M Q = TR (z_st (.ifCond .ne 94) 3 84 L S M) 56 87 M Q := T_at zk56 rfl
theorem zT56_87 : TT 56 87 L S M Q = TR (z_st (.aload 0) 1 87 L S M) 56 88 M Q := T_at zk56 rfl
theorem zT56_88 : TT 56 88 L S M Q = TR (z_st (.iconst (-10)) 2 88 L S M) 56 90 M Q := T_at zk56 rfl
theorem zT56_90 : TT 56 90 L S M Q = TR (z_st (.invokevirtual 4) 3 90 L S M) 56 93 M Q := T_at zk56 rfl
theorem zT56_93 : TT 56 93 L S M Q = TR (z_st (.ret 0) 1 93 L S M) 56 94 M Q := T_at zk56 rfl
theorem zT56_94 : TT 56 94 L S M Q = TR (z_st (.aload 0) 1 94 L S M) 56 95 M Q := T_at zk56 rfl
theorem zT56_95 : TT 56 95 L S M Q = TR (z_st (.iconst (-1)) 1 95 L S M) 56 96 M Q := T_at zk56 rfl
theorem zT56_96 : TT 56 96 L S M Q = TR (z_st (.aload 0) 1 96 L S M) 56 97 M Q := T_at zk56 rfl
theorem zT56_97 : TT 56 97 L S M Q = TR (z_st (.fload 71) 3 97 L S M) 56 100 M Q := T_at zk56 rfl
theorem zT56_100 : TT 56 100 L S M Q = TR (z_st (.iconst 54) 2 100 L S M) 56 102 M Q := T_at zk56 rfl
theorem zT56_102 : TT 56 102 L S M Q = TR (z_st (.iaload) 1 102 L S M) 56 103 M Q := T_at zk56 rfl
theorem zT56_103 : TT 56 103 L S M Q = TR (z_st (.iconst 1) 1 103 L S M) 56 104 M Q := T_at zk56 rfl
theorem zT56_104 : TT 56 104 L S M Q = TR (z_st (.if_icmp .ne 111) 3 104 L S M) 56 107 M Q := T_at zk56 rfl
theorem zT56_107 : TT 56 107 L S M Q = TR (z_st (.iconst 1) 1 107 L S M) 56 108 M Q := T_at zk56 rfl
theorem zT56_108 : TT 56 108 L S M Q = TR (z_st (.goto 112) 3 108 L S M) 56 111 M Q := T_at zk56 rfl
theorem zT56_111 : TT 56 111 L S M Q = TR (z_st (.iconst 0) 1 111 L S M) 56 112 M Q := T_at zk56 rfl
theorem zT56_112 : TT 56 112 L S M Q = TR (z_st (.invokevirtual 37) 3 112 L S M) 56 115 M Q := T_at zk56 rfl
theorem zT56_115 : TT 56 115 L S M Q = TR (z_st (.aload 0) 1 115 L S M) 56 116 M Q := T_at zk56 rfl
theorem zT56_116 : TT 56 116 L S M Q = TR (z_st (.iload 1) 1 116 L S M) 56 117 M Q := T_at zk56 rfl
theorem zT56_117 : TT 56 117 L S M Q = TR (z_st (.aload 0) 1 117 L S M) 56 118 M Q := T_at zk56 rfl
theorem zT56_118 : TT 56 118 L S M Q = TR (z_st (.invokevirtual 42) 3 118 L S M) 56 121 M Q := T_at zk56 rfl
theorem zT56_121 : TT 56 121 L S M Q = TR (z_st (.invokevirtual 41) 3 121 L S M) 56 124 M Q := T_at zk56 rfl
theorem zT56_124 : TT 56 124 L S M Q = TR (z_st (.ifCond .ne 129) 3 124 L S M) 56 127 M Q := T_at zk56 rfl
theorem zT56_127 : TT 56 127 L S M Q = TR (z_st (.iconst (-1)) 1 127 L S M) 56 128 M Q := T_at zk56 rfl
theorem zT56_128 : TT 56 128 L S M Q = TR (z_st (.ret 0) 1 128 L S M) 56 129 M Q := T_at zk56 rfl
theorem zT56_129 : TT 56 129 L S M Q = TR (z_st (.aload 0) 1 129 L S M) 56 130 M Q := T_at zk56 rfl
theorem zT56_130 : TT 56 130 L S M Q = TR (z_st (.iload 1) 1 130 L S M) 56 131 M Q := T_at zk56 rfl
theorem zT56_131 : TT 56 131 L S M Q = TR (z_st (.aload 0) 1 131 L S M) 56 132 M Q := T_at zk56 rfl
theorem zT56_132 : TT 56 132 L S M Q = TR (z_st (.invokevirtual 42) 3 132 L S M) 56 135 M Q := T_at zk56 rfl
theorem zT56_135 : TT 56 135 L S M Q = TR (z_st (.invokevirtual 55) 3 135 L S M) 56 138 M Q := T_at zk56 rfl
theorem zT56_138 : TT 56 138 L S M Q = TR (z_st (.iload 2) 1 138 L S M) 56 139 M Q := T_at zk56 rfl
theorem zT56_139 : TT 56 139 L S M Q = TR (z_st (.aload 0) 1 139 L S M) 56 140 M Q := T_at zk56 rfl
theorem zT56_140 : TT 56 140 L S M Q = TR (z_st (.getfield 90) 3 140 L S M) 56 143 M Q := T_at zk56 rfl
theorem zT56_143 : TT 56 143 L S M Q = TR (z_st (.if_icmp .ge 155) 3 143 L S M) 56 146 M Q := T_at zk56 rfl
theorem zT56_146 : TT 56 146 L S M Q = TR (z_st (.aload 0) 1 146 L S M) 56 147 M Q := T_at zk56 rfl
theorem zT56_147 : TT 56 147 L S M Q = TR (z_st (.fload 89) 3 147 L S M) 56 150 M Q := T_at zk56 rfl
theorem zT56_150 : TT 56 150 L S M Q = TR (z_st (.iload 2) 1 150 L S M) 56 151 M Q := T_at zk56 rfl
theorem zT56_151 : TT 56 151 L S M Q = TR (z_st (.iaload) 1 151 L S M) 56 152 M Q := T_at zk56 rfl
theorem zT56_152 : TT 56 152 L S M Q = TR (z_st (.goto 157) 3 152 L S M) 56 155 M Q := T_at zk56 rfl
theorem zT56_155 : TT 56 155 L S M Q = TR (z_st (.iconst (-5)) 2 155 L S M) 56 157 M Q := T_at zk56 rfl
theorem zT56_157 : TT 56 157 L S M Q = TR (z_st (.ret 0) 1 157 L S M) 56 158 M Q := T_at zk56 rfl
theorem zk57 : z_coL.getD 57 [] = zc57 := rfl
theorem zT57_0 : TT 57 0 L S M Q = TR (z_st (.iload 1) 1 0 L S M) 57 1 M Q := T_at zk57 rfl
theorem zT57_1 : TT 57 1 L S M Q = TR (z_st (.i2l) 1 1 L S M) 57 2 M Q := T_at zk57 rfl
theorem zT57_2 : TT 57 2 L S M Q = TR (z_st (.ldc2_w 0) 1 2 L S M) 57 3 M Q := T_at zk57 rfl
theorem zT57_3 : TT 57 3 L S M Q = TR (z_st (.ldc2_w 60) 3 3 L S M) 57 6 M Q := T_at zk57 rfl
theorem zT57_6 : TT 57 6 L S M Q = TR (z_st (.invokestatic 2) 3 6 L S M) 57 9 M Q := T_at zk57 rfl
theorem zT57_9 : TT 57 9 L S M Q = TR (z_st (.ifCond .ne 19) 3 9 L S M) 57 12 M Q := T_at zk57 rfl
theorem zT57_12 : TT 57 12 L S M Q = TR (z_st (.aload 0) 1 12 L S M) 57 13 M Q := T_at zk57 rfl
theorem zT57_13 : TT 57 13 L S M Q = TR (z_st (.iconst (-2)) 2 13 L S M) 57 15 M Q := T_at zk57 rfl
theorem zT57_15 : TT 57 15 L S M Q = TR (z_st (.invokevirtual 3) 3 15 L S M) 57 18 M Q := T_at zk57 rfl
theorem zT57_18 : TT 57 18 L S M Q = TR (z_st (.ret 0) 1 18 L S M) 57 19 M Q := T_at zk57 rfl
theorem zT57_19 : TT 57 19 L S M Q = TR (z_st (.aload 0) 1 19 L S M) 57 20 M Q := T_at zk57 rfl
theorem zT57_20 : TT 57 20 L S M Q = TR (z_st (.iconst (-1)) 1 20 L S M) 57 21 M Q := T_at zk57 rfl
theorem zT57_21 : TT 57 21 L S M Q = TR (z_st (.aload 0) 1 21 L S M) 57 22 M Q := T_at zk57 rfl
theorem zT57_22 : TT 57 22 L S M Q = TR (z_st (.fload 71) 3 22 L S M) 57 25 M Q := T_at zk57 rfl
theorem zT57_25 : TT 57 25 L S M Q = TR (z_st (.iconst 54) 2 25 L S M) 57 27 M Q := T_at zk57 rfl
theorem zT57_27 : TT 57 27 L S M Q = TR (z_st (.iaload) 1 27 L S M) 57 28 M Q := T_at zk57 rfl
theorem zT57_28 : TT 57 28 L S M Q = TR (z_st (.iconst 1) 1 28 L S M) 57 29 M Q := T_at zk57 rfl
theorem zT57_29 : TT 57 29 L S M Q = TR (z_st (.if_icmp .ne 36) 3 29 L S M) 57 32 M Q := T_at zk57 rfl
theorem zT57_32 : TT 57 32 L S M Q = TR (z_st (.iconst 1) 1 32 L S M) 57 33 M Q := T_at zk57 rfl
theorem zT57_33 : TT 57 33 L S M Q = TR (z_st (.goto 37) 3 33 L S M) 57 36 M Q := T_at zk57 rfl
theorem zT57_36 : TT 57 36 L S M Q = TR (z_st (.iconst 0) 1 36 L S M) 57 37 M Q := T_at zk57 rfl
theorem zT57_37 : TT 57 37 L S M Q = TR (z_st (.invokevirtual 37) 3 37 L S M) 57 40 M Q := T_at zk57 rfl
theorem zT57_40 : TT 57 40 L S M Q = TR (z_st (.aload 0) 1 40 L S M) 57 41 M Q := T_at zk57 rfl
theorem zT57_41 : TT 57 41 L S M Q = TR (z_st (.aload 0) 1 41 L S M) 57 42 M Q := T_at zk57 rfl
theorem zT57_42 : TT 57 42 L S M Q = TR (z_st (.invokevirtual 48) 3 42 L S M) 57 45 M Q := T_at zk57 rfl
theorem zT57_45 : TT 57 45 L S M Q = TR (z_st (.invokevirtual 46) 3 45 L S M) 57 48 M Q := T_at zk57 rfl
theorem zT57_48 : TT 57 48 L S M Q = TR (z_st (.iconst 0) 1 48 L S M) 57 49 M Q := T_at zk57 rfl
theorem zT57_49 : TT 57 49 L S M Q = TR (z_st (.istore 2) 1 49 L S M) 57 50 M Q := T_at zk57 rfl
theorem zT57_50 : TT 57 50 L S M Q = TR (z_st (.iload 2) 1 50 L S M) 57 51 M Q := T_at zk57 rfl
theorem zT57_51 : TT 57 51 L S M Q = TR (z_st (.iconst 4096) 3 51 L S M) 57 54 M Q := T_at zk57 rfl
theorem zT57_54 : TT 57 54 L S M Q = TR (z_st (.if_icmp .ge 93) 3 54 L S M) 57 57 M Q := T_at zk57 rfl
theorem zT57_57 : TT 57 57 L S M Q = TR (z_st (.aload 0) 1 57 L S M) 57 58 M Q := T_at zk57 rfl
theorem zT57_58 : TT 57 58 L S M Q = TR (z_st (.fload 94) 3 58 L S M) 57 61 M Q := T_at zk57 rfl
theorem zT57_61 : TT 57 61 L S M Q = TR (z_st (.iload 2) 1 61 L S M) 57 62 M Q := T_at zk57 rfl
theorem zT57_62 : TT 57 62 L S M Q = TR (z_st (.aload 0) 1 62 L S M) 57 63 M Q := T_at zk57 rfl
theorem zT57_63 : TT 57 63 L S M Q = TR (z_st (.iload 2) 1 63 L S M) 57 64 M Q := T_at zk57 rfl
theorem zT57_64 : TT 57 64 L S M Q = TR (z_st (.invokevirtual 43) 3 64 L S M) 57 67 M Q := T_at zk57 rfl
theorem zT57_67 : TT 57 67 L S M Q = TR (z_st (.ifCond .eq 84) 3 67 L S M) 57 70 M Q := T_at zk57 rfl
theorem zT57_70 : TT 57 70 L S M Q = TR (z_st (.aload 0) 1 70 L S M) 57 71 M Q := T_at zk57 rfl
theorem zT57_71 : TT 57 71 L S M Q = TR (z_st (.iload 2) 1 71 L S M) 57 72 M Q := T_at zk57 rfl
theorem zT57_72 : TT 57 72 L S M Q = TR (z_st (.invokevirtual 44) 3 72 L S M) 57 75 M Q := T_at zk57 rfl
theorem zT57_75 : TT 57 75 L S M Q = TR (z_st (.iconst 7) 2 75 L S M) 57 77 M Q := T_at zk57 rfl
theorem zT57_77 : TT 57 77 L S M Q = TR (z_st (.if_icmp .ne 84) 3 77 L S M) 57 80 M Q := T_at zk57 rfl
theorem zT57_80 : TT 57 80 L S M Q = TR (z_st (.iconst 0) 1 80 L S M) 57 81 M Q := T_at zk57 rfl
theorem zT57_81 : TT 57 81 L S M Q = TR (z_st (.goto 86) 3 81 L S M) 57 84 M Q := T_at zk57 rfl
theorem zT57_84 : TT 57 84 L S M Q = TR (z_st (.iconst 100000) 2 84 L S M) 57 86 M Q := T_at zk57 rfl
theorem zT57_86 : TT 57 86 L S M Q = TR (z_st (.iastore) 1 86 L S M) 57 87 M Q := T_at zk57 rfl
theorem zT57_87 : TT 57 87 L S M Q = TR (z_st (.iinc 2 1) 3 87 L S M) 57 90 M Q := T_at zk57 rfl
theorem zT57_90 : TT 57 90 L S M Q = TR (z_st (.goto 50) 3 90 L S M) 57 93 M Q := T_at zk57 rfl
theorem zT57_93 : TT 57 93 L S M Q = TR (z_st (.iconst 1) 1 93 L S M) 57 94 M Q := T_at zk57 rfl
theorem zT57_94 : TT 57 94 L S M Q = TR (z_st (.istore 2) 1 94 L S M) 57 95 M Q := T_at zk57 rfl
theorem zT57_95 : TT 57 95 L S M Q = TR (z_st (.iload 2) 1 95 L S M) 57 96 M Q := T_at zk57 rfl
theorem zT57_96 : TT 57 96 L S M Q = TR (z_st (.iload 1) 1 96 L S M) 57 97 M Q := T_at zk57 rfl
theorem zT57_97 : TT 57 97 L S M Q = TR (z_st (.if_icmp .gt 237) 3 97 L S M) 57 100 M Q := T_at zk57 rfl
theorem zT57_100 : TT 57 100 L S M Q = TR (z_st (.iconst 0) 1 100 L S M) 57 101 M Q := T_at zk57 rfl
theorem zT57_101 : TT 57 101 L S M Q = TR (z_st (.istore 3) 1 101 L S M) 57 102 M Q := T_at zk57 rfl
theorem zT57_102 : TT 57 102 L S M Q = TR (z_st (.iload 3) 1 102 L S M) 57 103 M Q := T_at zk57 rfl
theorem zT57_103 : TT 57 103 L S M Q = TR (z_st (.iconst 4096) 3 103 L S M) 57 106 M Q := T_at zk57 rfl
theorem zT57_106 : TT 57 106 L S M Q = TR (z_st (.if_icmp .ge 127) 3 106 L S M) 57 109 M Q := T_at zk57 rfl
theorem zT57_109 : TT 57 109 L S M Q = TR (z_st (.aload 0) 1 109 L S M) 57 110 M Q := T_at zk57 rfl
theorem zT57_110 : TT 57 110 L S M Q = TR (z_st (.fload 95) 3 110 L S M) 57 113 M Q := T_at zk57 rfl
theorem zT57_113 : TT 57 113 L S M Q = TR (z_st (.iload 3) 1 113 L S M) 57 114 M Q := T_at zk57 rfl
theorem zT57_114 : TT 57 114 L S M Q = TR (z_st (.aload 0) 1 114 L S M) 57 115 M Q := T_at zk57 rfl
theorem zT57_115 : TT 57 115 L S M Q = TR (z_st (.fload 94) 3 115 L S M) 57 118 M Q := T_at zk57 rfl
theorem zT57_118 : TT 57 118 L S M Q = TR (z_st (.iload 3) 1 118 L S M) 57 119 M Q := T_at zk57 rfl
theorem zT57_119 : TT 57 119 L S M Q = TR (z_st (.iaload) 1 119 L S M) 57 120 M Q := T_at zk57 rfl
theorem zT57_120 : TT 57 120 L S M Q = TR (z_st (.iastore) 1 120 L S M) 57 121 M Q := T_at zk57 rfl
theorem zT57_121 : TT 57 121 L S M Q = TR (z_st (.iinc 3 1) 3 121 L S M) 57 124 M Q := T_at zk57 rfl
theorem zT57_124 : TT 57 124 L S M Q = TR (z_st (.goto 102) 3 124 L S M) 57 127 M Q := T_at zk57 rfl
theorem zT57_127 : TT 57 127 L S M Q = TR (z_st (.iconst 0) 1 127 L S M) 57 128 M Q := T_at zk57 rfl
theorem zT57_128 : TT 57 128 L S M Q = TR (z_st (.istore 3) 1 128 L S M) 57 129 M Q := T_at zk57 rfl
theorem zT57_129 : TT 57 129 L S M Q = TR (z_st (.iload 3) 1 129 L S M) 57 130 M Q := T_at zk57 rfl
theorem zT57_130 : TT 57 130 L S M Q = TR (z_st (.iconst 4096) 3 130 L S M) 57 133 M Q := T_at zk57 rfl
theorem zT57_133 : TT 57 133 L S M Q = TR (z_st (.if_icmp .ge 231) 3 133 L S M) 57 136 M Q := T_at zk57 rfl
theorem zT57_136 : TT 57 136 L S M Q = TR (z_st (.aload 0) 1 136 L S M) 57 137 M Q := T_at zk57 rfl
theorem zT57_137 : TT 57 137 L S M Q = TR (z_st (.fload 94) 3 137 L S M) 57 140 M Q := T_at zk57 rfl
theorem zT57_140 : TT 57 140 L S M Q = TR (z_st (.iload 3) 1 140 L S M) 57 141 M Q := T_at zk57 rfl
theorem zT57_141 : TT 57 141 L S M Q = TR (z_st (.iconst 100000) 2 141 L S M) 57 143 M Q := T_at zk57 rfl
theorem zT57_143 : TT 57 143 L S M Q = TR (z_st (.iastore) 1 143 L S M) 57 144 M Q := T_at zk57 rfl
theorem zT57_144 : TT 57 144 L S M Q = TR (z_st (.iconst 0) 1 144 L S M) 57 145 M Q := T_at zk57 rfl
theorem zT57_145 : TT 57 145 L S M Q = TR (z_st (.istore 4) 2 145 L S M) 57 147 M Q := T_at zk57 rfl
theorem zT57_147 : TT 57 147 L S M Q = TR (z_st (.iload 4) 2 147 L S M) 57 149 M Q := T_at zk57 rfl
theorem zT57_149 : TT 57 149 L S M Q = TR (z_st (.iconst 8) 2 149 L S M) 57 151 M Q := T_at zk57 rfl
theorem zT57_151 : TT 57 151 L S M Q = TR (z_st (.if_icmp .ge 225) 3 151 L S M) 57 154 M Q := T_at zk57 rfl
theorem zT57_154 : TT 57 154 L S M Q = TR (z_st (.aload 0) 1 154 L S M) 57 155 M Q := T_at zk57 rfl
theorem zT57_155 : TT 57 155 L S M Q = TR (z_st (.fload 86) 3 155 L S M) 57 158 M Q := T_at zk57 rfl
theorem zT57_158 : TT 57 158 L S M Q = TR (z_st (.iload 3) 1 158 L S M) 57 159 M Q := T_at zk57 rfl
theorem zT57_159 : TT 57 159 L S M Q = TR (z_st (.iaload) 1 159 L S M) 57 160 M Q := T_at zk57 rfl
theorem zT57_160 : TT 57 160 L S M Q = TR (z_st (.iload 4) 2 160 L S M) 57 162 M Q := T_at zk57 rfl
theorem zT57_162 : TT 57 162 L S M Q = TR (z_st (.invokestatic 5) 3 162 L S M) 57 165 M Q := T_at zk57 rfl
theorem zT57_165 : TT 57 165 L S M Q = TR (z_st (.ifCond .eq 219) 3 165 L S M) 57 168 M Q := T_at zk57 rfl
set_option maxRecDepth 100000 in
theorem zT57_168 : TT 57 168 L S M Q = TR (z_st (.iload 3) 1 168 L S M) 57 169 M Q := T_at zk57 rfl
set_option maxRecDepth 100000 in
theorem zT57_169 : TT 57 169 L S M Q = TR (z_st (.iload 4) 2 169 L S M) 57 171 M Q := T_at zk57 rfl
set_option maxRecDepth 100000 in
theorem zT57_171 : TT 57 171 L S M Q = TR (z_st (.invokestatic 45) 3 171 L S M) 57 174 M Q := T_at zk57 rfl
set_option maxRecDepth 100000 in
theorem zT57_174 : TT 57 174 L S M Q = TR (z_st (.istore 5) 2 174 L S M) 57 176 M Q := T_at zk57 rfl
set_option maxRecDepth 100000 in
theorem zT57_176 : TT 57 176 L S M Q = TR (z_st (.aload 0) 1 176 L S M) 57 177 M Q := T_at zk57 rfl
set_option maxRecDepth 100000 in
theorem zT57_177 : TT 57 177 L S M Q = TR (z_st (.iload 5) 2 177 L S M) 57 179 M Q := T_at zk57 rfl
set_option maxRecDepth 100000 in
theorem zT57_179 : TT 57 179 L S M Q = TR (z_st (.invokevirtual 44) 3 179 L S M) 57 182 M Q := T_at zk57 rfl
set_option maxRecDepth 100000 in
theorem zT57_182 : TT 57 182 L S M Q = TR (z_st (.iload 4) 2 182 L S M) 57 184 M Q := T_at zk57 rfl
set_option maxRecDepth 100000 in
theorem zT57_184 : TT 57 184 L S M Q = TR (z_st (.iand) 1 184 L S M) 57 185 M Q := T_at zk57 rfl
set_option maxRecDepth 100000 in
theorem zT57_185 : TT 57 185 L S M Q = TR (z_st (.invokestatic 8) 3 185 L S M) 57 188 M Q := T_at zk57 rfl
set_option maxRecDepth 100000 in
theorem zT57_188 : TT 57 188 L S M Q = TR (z_st (.istore 6) 2 188 L S M) 57 190 M Q := T_at zk57 rfl
set_option maxRecDepth 100000 in
theorem zT57_190 : TT 57 190 L S M Q = TR (z_st (.aload 0) 1 190 L S M) 57 191 M Q := T_at zk57 rfl
set_option maxRecDepth 100000 in
theorem zT57_191 : TT 57 191 L S M Q = TR (z_st (.fload 94) 3 191 L S M) 57 194 M Q := T_at zk57 rfl
set_option maxRecDepth 100000 in
theorem zT57_194 : TT 57 194 L S M Q = TR (z_st (.iload 3) 1 194 L S M) 57 195 M Q := T_at zk57 rfl
set_option maxRecDepth 100000 in
theorem zT57_195 : TT 57 195 L S M Q = TR (z_st (.aload 0) 1 195 L S M) 57 196 M Q := T_at zk57 rfl
set_option maxRecDepth 100000 in
theorem zT57_196 : TT 57 196 L S M Q = TR (z_st (.fload 94) 3 196 L S M) 57 199 M Q := T_at zk57 rfl
set_option maxRecDepth 100000 in
theorem zT57_199 : TT 57 199 L S M Q = TR (z_st (.iload 3) 1 199 L S M) 57 200 M Q := T_at zk57 rfl
set_option maxRecDepth 100000 in
theorem zT57_200 : TT 57 200 L S M Q = TR (z_st (.iaload) 1 200 L S M) 57 201 M Q := T_at zk57 rfl
set_option maxRecDepth 100000 in
theorem zT57_201 : TT 57 201 L S M Q = TR (z_st (.aload 0) 1 201 L S M) 57 202 M Q := T_at zk57 rfl
set_option maxRecDepth 100000 in
theorem zT57_202 : TT 57 202 L S M Q = TR (z_st (.fload 95) 3 202 L S M) 57 205 M Q := T_at zk57 rfl
set_option maxRecDepth 100000 in
theorem zT57_205 : TT 57 205 L S M Q = TR (z_st (.iload 5) 2 205 L S M) 57 207 M Q := T_at zk57 rfl
set_option maxRecDepth 100000 in
theorem zT57_207 : TT 57 207 L S M Q = TR (z_st (.iaload) 1 207 L S M) 57 208 M Q := T_at zk57 rfl
set_option maxRecDepth 100000 in
theorem zT57_208 : TT 57 208 L S M Q = TR (z_st (.iload 6) 2 208 L S M) 57 210 M Q := T_at zk57 rfl
set_option maxRecDepth 100000 in
theorem zT57_210 : TT 57 210 L S M Q = TR (z_st (.iload 2) 1 210 L S M) 57 211 M Q := T_at zk57 rfl
set_option maxRecDepth 100000 in
theorem zT57_211 : TT 57 211 L S M Q = TR (z_st (.iconst 1) 1 211 L S M) 57 212 M Q := T_at zk57 rfl
set_option maxRecDepth 100000 in
theorem zT57_212 : TT 57 212 L S M Q = TR (z_st (.isub) 1 212 L S M) 57 213 M Q := T_at zk57 rfl
set_option maxRecDepth 100000 in
theorem zT57_213 : TT 57 213 L S M Q = TR (z_st (.imul) 1 213 L S M) 57 214 M Q := T_at zk57 rfl
set_option maxRecDepth 100000 in
theorem zT57_214 : TT 57 214 L S M Q = TR (z_st (.iadd) 1 214 L S M) 57 215 M Q := T_at zk57 rfl
set_option maxRecDepth 100000 in
theorem zT57_215 : TT 57 215 L S M Q = TR (z_st (.invokestatic 6) 3 215 L S M) 57 218 M Q := T_at zk57 rfl
set_option maxRecDepth 100000 in
theorem zT57_218 : TT 57 218 L S M Q = TR (z_st (.iastore) 1 218 L S M) 57 219 M Q := T_at zk57 rfl
set_option maxRecDepth 100000 in
theorem zT57_219 : TT 57 219 L S M Q = TR (z_st (.iinc 4 1) 3 219 L S M) 57 222 M Q := T_at zk57 rfl
set_option maxRecDepth 100000 in
theorem zT57_222 : TT 57 222 L S M Q = TR (z_st (.goto 147) 3 222 L S M) 57 225 M Q := T_at zk57 rfl
set_option maxRecDepth 100000 in
theorem zT57_225 : TT 57 225 L S M Q = TR (z_st (.iinc 3 1) 3 225 L S M) 57 228 M Q := T_at zk57 rfl
set_option maxRecDepth 100000 in
theorem zT57_228 : TT 57 228 L S M Q = TR (z_st (.goto 129) 3 228 L S M) 57 231 M Q := T_at zk57 rfl
set_option maxRecDepth 100000 in
theorem zT57_231 : TT 57 231 L S M Q = TR (z_st (.iinc 2 1) 3 231 L S M) 57 234 M Q := T_at zk57 rfl
set_option maxRecDepth 100000 in
theorem zT57_234 : TT 57 234 L S M Q = TR (z_st (.goto 95) 3 234 L S M) 57 237 M Q := T_at zk57 rfl
set_option maxRecDepth 100000 in
theorem zT57_237 : TT 57 237 L S M Q = TR (z_st (.iconst 0) 1 237 L S M) 57 238 M Q := T_at zk57 rfl
set_option maxRecDepth 100000 in
theorem zT57_238 : TT 57 238 L S M Q = TR (z_st (.istore 2) 1 238 L S M) 57 239 M Q := T_at zk57 rfl
set_option maxRecDepth 100000 in
theorem zT57_239 : TT 57 239 L S M Q = TR (z_st (.iconst 0) 1 239 L S M) 57 240 M Q := T_at zk57 rfl
set_option maxRecDepth 100000 in
theorem zT57_240 : TT 57 240 L S M Q = TR (z_st (.istore 3) 1 240 L S M) 57 241 M Q := T_at zk57 rfl
set_option maxRecDepth 100000 in
theorem zT57_241 : TT 57 241 L S M Q = TR (z_st (.iload 3) 1 241 L S M) 57 242 M Q := T_at zk57 rfl
set_option maxRecDepth 100000 in
theorem zT57_242 : TT 57 242 L S M Q = TR (z_st (.aload 0) 1 242 L S M) 57 243 M Q := T_at zk57 rfl
set_option maxRecDepth 100000 in
theorem zT57_243 : TT 57 243 L S M Q = TR (z_st (.fload 71) 3 243 L S M) 57 246 M Q := T_at zk57 rfl
set_option maxRecDepth 100000 in
theorem zT57_246 : TT 57 246 L S M Q = TR (z_st (.iconst 13) 2 246 L S M) 57 248 M Q := T_at zk57 rfl
set_option maxRecDepth 100000 in
theorem zT57_248 : TT 57 248 L S M Q = TR (z_st (.iaload) 1 248 L S M) 57 249 M Q := T_at zk57 rfl
set_option maxRecDepth 100000 in
theorem zT57_249 : TT 57 249 L S M Q = TR (z_st (.if_icmp .ge 281) 3 249 L S M) 57 252 M Q := T_at zk57 rfl
set_option maxRecDepth 100000 in
theorem zT57_252 : TT 57 252 L S M Q = TR (z_st (.iload 2) 1 252 L S M) 57 253 M Q := T_at zk57 rfl
set_option maxRecDepth 100000 in
theorem zT57_253 : TT 57 253 L S M Q = TR (z_st (.aload 0) 1 253 L S M) 57 254 M Q := T_at zk57 rfl
set_option maxRecDepth 100000 in
theorem zT57_254 : TT 57 254 L S M Q = TR (z_st (.aload 0) 1 254 L S M) 57 255 M Q := T_at zk57 rfl
set_option maxRecDepth 100000 in
theorem zT57_255 : TT 57 255 L S M Q = TR (z_st (.invokevirtual 42) 3 255 L S M) 57 258 M Q := T_at zk57 rfl
set_option maxRecDepth 100000 in
theorem zT57_258 : TT 57 258 L S M Q = TR (z_st (.invokevirtual 44) 3 258 L S M) 57 261 M Q := T_at zk57 rfl
set_option maxRecDepth 100000 in
theorem zT57_261 : TT 57 261 L S M Q = TR (z_st (.iload 3) 1 261 L S M) 57 262 M Q := T_at zk57 rfl
set_option maxRecDepth 100000 in
theorem zT57_262 : TT 57 262 L S M Q = TR (z_st (.invokestatic 5) 3 262 L S M) 57 265 M Q := T_at zk57 rfl
set_option maxRecDepth 100000 in
theorem zT57_265 : TT 57 265 L S M Q = TR (z_st (.ifCond .eq 272) 3 265 L S M) 57 268 M Q := T_at zk57 rfl
set_option maxRecDepth 100000 in
theorem zT57_268 : TT 57 268 L S M Q = TR (z_st (.iload 1) 1 268 L S M) 57 269 M Q := T_at zk57 rfl
set_option maxRecDepth 100000 in
theorem zT57_269 : TT 57 269 L S M Q = TR (z_st (.goto 273) 3 269 L S M) 57 272 M Q := T_at zk57 rfl
set_option maxRecDepth 100000 in
theorem zT57_272 : TT 57 272 L S M Q = TR (z_st (.iconst 0) 1 272 L S M) 57 273 M Q := T_at zk57 rfl
set_option maxRecDepth 100000 in
theorem zT57_273 : TT 57 273 L S M Q = TR (z_st (.iadd) 1 273 L S M) 57 274 M Q := T_at zk57 rfl
set_option maxRecDepth 100000 in
theorem zT57_274 : TT 57 274 L S M Q = TR (z_st (.istore 2) 1 274 L S M) 57 275 M Q := T_at zk57 rfl
set_option maxRecDepth 100000 in
theorem zT57_275 : TT 57 275 L S M Q = TR (z_st (.iinc 3 1) 3 275 L S M) 57 278 M Q := T_at zk57 rfl
set_option maxRecDepth 100000 in
theorem zT57_278 : TT 57 278 L S M Q = TR (z_st (.goto 241) 3 278 L S M) 57 281 M Q := T_at zk57 rfl
set_option maxRecDepth 100000 in
theorem zT57_281 : TT 57 281 L S M Q = TR (z_st (.aload 0) 1 281 L S M) 57 282 M Q := T_at zk57 rfl
set_option maxRecDepth 100000 in
theorem zT57_282 : TT 57 282 L S M Q = TR (z_st (.fload 94) 3 282 L S M) 57 285 M Q := T_at zk57 rfl
set_option maxRecDepth 100000 in
theorem zT57_285 : TT 57 285 L S M Q = TR (z_st (.aload 0) 1 285 L S M) 57 286 M Q := T_at zk57 rfl
set_option maxRecDepth 100000 in
theorem zT57_286 : TT 57 286 L S M Q = TR (z_st (.invokevirtual 42) 3 286 L S M) 57 289 M Q := T_at zk57 rfl
set_option maxRecDepth 100000 in
theorem zT57_289 : TT 57 289 L S M Q = TR (z_st (.iaload) 1 289 L S M) 57 290 M Q := T_at zk57 rfl
set_option maxRecDepth 100000 in
theorem zT57_290 : TT 57 290 L S M Q = TR (z_st (.istore 3) 1 290 L S M) 57 291 M Q := T_at zk57 rfl
set_option maxRecDepth 100000 in
theorem zT57_291 : TT 57 291 L S M Q = TR (z_st (.iload 3) 1 291 L S M) 57 292 M Q := T_at zk57 rfl
set_option maxRecDepth 100000 in
theorem zT57_292 : TT 57 292 L S M Q = TR (z_st (.iconst 100000) 2 292 L S M) 57 294 M Q := T_at zk57 rfl
set_option maxRecDepth 100000 in
theorem zT57_294 : TT 57 294 L S M Q = TR (z_st (.if_icmp .lt 301) 3 294 L S M) 57 297 M Q := T_at zk57 rfl
set_option maxRecDepth 100000 in
theorem zT57_297 : TT 57 297 L S M Q = TR (z_st (.iconst (-1)) 1 297 L S M) 57 298 M Q := T_at zk57 rfl
set_option maxRecDepth 100000 in
theorem zT57_298 : TT 57 298 L S M Q = TR (z_st (.goto 304) 3 298 L S M) 57 301 M Q := T_at zk57 rfl
set_option maxRecDepth 100000 in
theorem zT57_301 : TT 57 301 L S M Q = TR (z_st (.iload 3) 1 301 L S M) 57 302 M Q := T_at zk57 rfl
set_option maxRecDepth 100000 in
theorem zT57_302 : TT 57 302 L S M Q = TR (z_st (.iload 2) 1 302 L S M) 57 303 M Q := T_at zk57 rfl
set_option maxRecDepth 100000 in
theorem zT57_303 : TT 57 303 L S M Q = TR (z_st (.iadd) 1 303 L S M) 57 304 M Q := T_at zk57 rfl
set_option maxRecDepth 100000 in
theorem zT57_304 : TT 57 304 L S M Q = TR (z_st (.ret 0) 1 304 L S M) 57 305 M Q := T_at zk57 rfl
theorem zk58 : z_coL.getD 58 [] = zc58 := rfl
theorem zT58_0 : TT 58 0 L S M Q = TR (z_st (.iload 1) 1 0 L S M) 58 1 M Q := T_at zk58 rfl
theorem zT58_1 : TT 58 1 L S M Q = TR (z_st (.i2l) 1 1 L S M) 58 2 M Q := T_at zk58 rfl
theorem zT58_2 : TT 58 2 L S M Q = TR (z_st (.ldc2_w 0) 1 2 L S M) 58 3 M Q := T_at zk58 rfl
theorem zT58_3 : TT 58 3 L S M Q = TR (z_st (.ldc2_w 1) 1 3 L S M) 58 4 M Q := T_at zk58 rfl
theorem zT58_4 : TT 58 4 L S M Q = TR (z_st (.invokestatic 2) 3 4 L S M) 58 7 M Q := T_at zk58 rfl
theorem zT58_7 : TT 58 7 L S M Q = TR (z_st (.ifCond .ne 17) 3 7 L S M) 58 10 M Q := T_at zk58 rfl
theorem zT58_10 : TT 58 10 L S M Q = TR (z_st (.aload 0) 1 10 L S M) 58 11 M Q := T_at zk58 rfl
theorem zT58_11 : TT 58 11 L S M Q = TR (z_st (.iconst (-10)) 2 11 L S M) 58 13 M Q := T_at zk58 rfl
theorem zT58_13 : TT 58 13 L S M Q = TR (z_st (.invokevirtual 4) 3 13 L S M) 58 16 M Q := T_at zk58 rfl
theorem zT58_16 : TT 58 16 L S M Q = TR (z_st (.ret 0) 1 16 L S M) 58 17 M Q := T_at zk58 rfl
theorem zT58_17 : TT 58 17 L S M Q = TR (z_st (.aload 0) 1 17 L S M) 58 18 M Q := T_at zk58 rfl
theorem zT58_18 : TT 58 18 L S M Q = TR (z_st (.invokevirtual 49) 3 18 L S M) 58 21 M Q := T_at zk58 rfl
theorem zT58_21 : TT 58 21 L S M Q = TR (z_st (.istore 2) 1 21 L S M) 58 22 M Q := T_at zk58 rfl
theorem zT58_22 : TT 58 22 L S M Q = TR (z_st (.aload 0) 1 22 L S M) 58 23 M Q := T_at zk58 rfl
theorem zT58_23 : TT 58 23 L S M Q = TR (z_st (.dup) 1 23 L S M) 58 24 M Q := T_at zk58 rfl
theorem zT58_24 : TT 58 24 L S M Q = TR (z_st (.getfield 83) 3 24 L S M) 58 27 M Q := T_at zk58 rfl
theorem zT58_27 : TT 58 27 L S M Q = TR (z_st (.iload 1) 1 27 L S M) 58 28 M Q := T_at zk58 rfl
theorem zT58_28 : TT 58 28 L S M Q = TR (z_st (.ifCond .ne 35) 3 28 L S M) 58 31 M Q := T_at zk58 rfl
theorem zT58_31 : TT 58 31 L S M Q = TR (z_st (.iconst 1) 1 31 L S M) 58 32 M Q := T_at zk58 rfl
theorem zT58_32 : TT 58 32 L S M Q = TR (z_st (.goto 36) 3 32 L S M) 58 35 M Q := T_at zk58 rfl
theorem zT58_35 : TT 58 35 L S M Q = TR (z_st (.iconst 0) 1 35 L S M) 58 36 M Q := T_at zk58 rfl
theorem zT58_36 : TT 58 36 L S M Q = TR (z_st (.iadd) 1 36 L S M) 58 37 M Q := T_at zk58 rfl
theorem zT58_37 : TT 58 37 L S M Q = TR (z_st (.putfield 83) 3 37 L S M) 58 40 M Q := T_at zk58 rfl
theorem zT58_40 : TT 58 40 L S M Q = TR (z_st (.aload 0) 1 40 L S M) 58 41 M Q := T_at zk58 rfl
theorem zT58_41 : TT 58 41 L S M Q = TR (z_st (.dup) 1 41 L S M) 58 42 M Q := T_at zk58 rfl
theorem zT58_42 : TT 58 42 L S M Q = TR (z_st (.getfield 84) 3 42 L S M) 58 45 M Q := T_at zk58 rfl
theorem zT58_45 : TT 58 45 L S M Q = TR (z_st (.iload 1) 1 45 L S M) 58 46 M Q := T_at zk58 rfl
theorem zT58_46 : TT 58 46 L S M Q = TR (z_st (.iconst 1) 1 46 L S M) 58 47 M Q := T_at zk58 rfl
theorem zT58_47 : TT 58 47 L S M Q = TR (z_st (.if_icmp .ne 54) 3 47 L S M) 58 50 M Q := T_at zk58 rfl
theorem zT58_50 : TT 58 50 L S M Q = TR (z_st (.iconst 1) 1 50 L S M) 58 51 M Q := T_at zk58 rfl
theorem zT58_51 : TT 58 51 L S M Q = TR (z_st (.goto 55) 3 51 L S M) 58 54 M Q := T_at zk58 rfl
theorem zT58_54 : TT 58 54 L S M Q = TR (z_st (.iconst 0) 1 54 L S M) 58 55 M Q := T_at zk58 rfl
theorem zT58_55 : TT 58 55 L S M Q = TR (z_st (.iadd) 1 55 L S M) 58 56 M Q := T_at zk58 rfl
theorem zT58_56 : TT 58 56 L S M Q = TR (z_st (.putfield 84) 3 56 L S M) 58 59 M Q := T_at zk58 rfl
theorem zT58_59 : TT 58 59 L S M Q = TR (z_st (.aload 0) 1 59 L S M) 58 60 M Q := T_at zk58 rfl
theorem zT58_60 : TT 58 60 L S M Q = TR (z_st (.aload 0) 1 60 L S M) 58 61 M Q := T_at zk58 rfl
theorem zT58_61 : TT 58 61 L S M Q = TR (z_st (.invokevirtual 48) 3 61 L S M) 58 64 M Q := T_at zk58 rfl
theorem zT58_64 : TT 58 64 L S M Q = TR (z_st (.invokevirtual 47) 3 64 L S M) 58 67 M Q := T_at zk58 rfl
theorem zT58_67 : TT 58 67 L S M Q = TR (z_st (.istore 3) 1 67 L S M) 58 68 M Q := T_at zk58 rfl
theorem zT58_68 : TT 58 68 L S M Q = TR (z_st (.iload 3) 1 68 L S M) 58 69 M Q := T_at zk58 rfl
theorem zT58_69 : TT 58 69 L S M Q = TR (z_st (.iconst (-1)) 1 69 L S M) 58 70 M Q := T_at zk58 rfl
theorem zT58_70 : TT 58 70 L S M Q = TR (z_st (.if_icmp .ne 77) 3 70 L S M) 58 73 M Q := T_at zk58 rfl
theorem zT58_73 : TT 58 73 L S M Q = TR (z_st (.iconst (-1)) 1 73 L S M) 58 74 M Q := T_at zk58 rfl
theorem zT58_74 : TT 58 74 L S M Q = TR (z_st (.goto 91) 3 74 L S M) 58 77 M Q := T_at zk58 rfl
theorem zT58_77 : TT 58 77 L S M Q = TR (z_st (.iload 2) 1 77 L S M) 58 78 M Q := T_at zk58 rfl
theorem zT58_78 : TT 58 78 L S M Q = TR (z_st (.iconst (-1)) 1 78 L S M) 58 79 M Q := T_at zk58 rfl
theorem zT58_79 : TT 58 79 L S M Q = TR (z_st (.if_icmp .ne 88) 3 79 L S M) 58 82 M Q := T_at zk58 rfl
theorem zT58_82 : TT 58 82 L S M Q = TR (z_st (.iconst 1000) 3 82 L S M) 58 85 M Q := T_at zk58 rfl
theorem zT58_85 : TT 58 85 L S M Q = TR (z_st (.goto 89) 3 85 L S M) 58 88 M Q := T_at zk58 rfl
theorem zT58_88 : TT 58 88 L S M Q = TR (z_st (.iload 2) 1 88 L S M) 58 89 M Q := T_at zk58 rfl
theorem zT58_89 : TT 58 89 L S M Q = TR (z_st (.iload 3) 1 89 L S M) 58 90 M Q := T_at zk58 rfl
theorem zT58_90 : TT 58 90 L S M Q = TR (z_st (.isub) 1 90 L S M) 58 91 M Q := T_at zk58 rfl
theorem zT58_91 : TT 58 91 L S M Q = TR (z_st (.ret 0) 1 91 L S M) 58 92 M Q := T_at zk58 rfl
theorem zk59 : z_coL.getD 59 [] = zc59 := rfl
theorem zT59_0 : TT 59 0 L S M Q = TR (z_st (.aload 0) 1 0 L S M) 59 1 M Q := T_at zk59 rfl
theorem zT59_1 : TT 59 1 L S M Q = TR (z_st (.invokevirtual 49) 3 1 L S M) 59 4 M Q := T_at zk59 rfl
theorem zT59_4 : TT 59 4 L S M Q = TR (z_st (.istore 1) 1 4 L S M) 59 5 M Q := T_at zk59 rfl
theorem zT59_5 : TT 59 5 L S M Q = TR (z_st (.iload 1) 1 5 L S M) 59 6 M Q := T_at zk59 rfl
theorem zT59_6 : TT 59 6 L S M Q = TR (z_st (.iconst (-1)) 1 6 L S M) 59 7 M Q := T_at zk59 rfl
theorem zT59_7 : TT 59 7 L S M Q = TR (z_st (.if_icmp .ne 12) 3 7 L S M) 59 10 M Q := T_at zk59 rfl
theorem zT59_10 : TT 59 10 L S M Q = TR (z_st (.iconst (-1)) 1 10 L S M) 59 11 M Q := T_at zk59 rfl
theorem zT59_11 : TT 59 11 L S M Q = TR (z_st (.ret 0) 1 11 L S M) 59 12 M Q := T_at zk59 rfl
theorem zT59_12 : TT 59 12 L S M Q = TR (z_st (.iconst 0) 1 12 L S M) 59 13 M Q := T_at zk59 rfl
theorem zT59_13 : TT 59 13 L S M Q = TR (z_st (.istore 2) 1 13 L S M) 59 14 M Q := T_at zk59 rfl
theorem zT59_14 : TT 59 14 L S M Q = TR (z_st (.iconst 0) 1 14 L S M) 59 15 M Q := T_at zk59 rfl
theorem zT59_15 : TT 59 15 L S M Q = TR (z_st (.istore 3) 1 15 L S M) 59 16 M Q := T_at zk59 rfl
theorem zT59_16 : TT 59 16 L S M Q = TR (z_st (.iload 3) 1 16 L S M) 59 17 M Q := T_at zk59 rfl
theorem zT59_17 : TT 59 17 L S M Q = TR (z_st (.aload 0) 1 17 L S M) 59 18 M Q := T_at zk59 rfl
theorem zT59_18 : TT 59 18 L S M Q = TR (z_st (.fload 71) 3 18 L S M) 59 21 M Q := T_at zk59 rfl
theorem zT59_21 : TT 59 21 L S M Q = TR (z_st (.iconst 0) 1 21 L S M) 59 22 M Q := T_at zk59 rfl
theorem zT59_22 : TT 59 22 L S M Q = TR (z_st (.iaload) 1 22 L S M) 59 23 M Q := T_at zk59 rfl
theorem zT59_23 : TT 59 23 L S M Q = TR (z_st (.if_icmp .ge 75) 3 23 L S M) 59 26 M Q := T_at zk59 rfl
theorem zT59_26 : TT 59 26 L S M Q = TR (z_st (.aload 0) 1 26 L S M) 59 27 M Q := T_at zk59 rfl
theorem zT59_27 : TT 59 27 L S M Q = TR (z_st (.iload 3) 1 27 L S M) 59 28 M Q := T_at zk59 rfl
theorem zT59_28 : TT 59 28 L S M Q = TR (z_st (.aload 0) 1 28 L S M) 59 29 M Q := T_at zk59 rfl
theorem zT59_29 : TT 59 29 L S M Q = TR (z_st (.fload 71) 3 29 L S M) 59 32 M Q := T_at zk59 rfl
theorem zT59_32 : TT 59 32 L S M Q = TR (z_st (.iconst 54) 2 32 L S M) 59 34 M Q := T_at zk59 rfl
theorem zT59_34 : TT 59 34 L S M Q = TR (z_st (.iaload) 1 34 L S M) 59 35 M Q := T_at zk59 rfl
theorem zT59_35 : TT 59 35 L S M Q = TR (z_st (.iconst 1) 1 35 L S M) 59 36 M Q := T_at zk59 rfl
theorem zT59_36 : TT 59 36 L S M Q = TR (z_st (.if_icmp .ne 43) 3 36 L S M) 59 39 M Q := T_at zk59 rfl
theorem zT59_39 : TT 59 39 L S M Q = TR (z_st (.iconst 1) 1 39 L S M) 59 40 M Q := T_at zk59 rfl
theorem zT59_40 : TT 59 40 L S M Q = TR (z_st (.goto 44) 3 40 L S M) 59 43 M Q := T_at zk59 rfl
theorem zT59_43 : TT 59 43 L S M Q = TR (z_st (.iconst 0) 1 43 L S M) 59 44 M Q := T_at zk59 rfl
theorem zT59_44 : TT 59 44 L S M Q = TR (z_st (.invokevirtual 37) 3 44 L S M) 59 47 M Q := T_at zk59 rfl
theorem zT59_47 : TT 59 47 L S M Q = TR (z_st (.iload 2) 1 47 L S M) 59 48 M Q := T_at zk59 rfl
theorem zT59_48 : TT 59 48 L S M Q = TR (z_st (.aload 0) 1 48 L S M) 59 49 M Q := T_at zk59 rfl
theorem zT59_49 : TT 59 49 L S M Q = TR (z_st (.aload 0) 1 49 L S M) 59 50 M Q := T_at zk59 rfl
theorem zT59_50 : TT 59 50 L S M Q = TR (z_st (.invokevirtual 48) 3 50 L S M) 59 53 M Q := T_at zk59 rfl
theorem zT59_53 : TT 59 53 L S M Q = TR (z_st (.invokevirtual 47) 3 53 L S M) 59 56 M Q := T_at zk59 rfl
theorem zT59_56 : TT 59 56 L S M Q = TR (z_st (.iload 1) 1 56 L S M) 59 57 M Q := T_at zk59 rfl
theorem zT59_57 : TT 59 57 L S M Q = TR (z_st (.if_icmp .ne 66) 3 57 L S M) 59 60 M Q := T_at zk59 rfl
theorem zT59_60 : TT 59 60 L S M Q = TR (z_st (.iconst 1) 1 60 L S M) 59 61 M Q := T_at zk59 rfl
theorem zT59_61 : TT 59 61 L S M Q = TR (z_st (.iload 3) 1 61 L S M) 59 62 M Q := T_at zk59 rfl
theorem zT59_62 : TT 59 62 L S M Q = TR (z_st (.ishl) 1 62 L S M) 59 63 M Q := T_at zk59 rfl
theorem zT59_63 : TT 59 63 L S M Q = TR (z_st (.goto 67) 3 63 L S M) 59 66 M Q := T_at zk59 rfl
theorem zT59_66 : TT 59 66 L S M Q = TR (z_st (.iconst 0) 1 66 L S M) 59 67 M Q := T_at zk59 rfl
theorem zT59_67 : TT 59 67 L S M Q = TR (z_st (.ior) 1 67 L S M) 59 68 M Q := T_at zk59 rfl
theorem zT59_68 : TT 59 68 L S M Q = TR (z_st (.istore 2) 1 68 L S M) 59 69 M Q := T_at zk59 rfl
theorem zT59_69 : TT 59 69 L S M Q = TR (z_st (.iinc 3 1) 3 69 L S M) 59 72 M Q := T_at zk59 rfl
theorem zT59_72 : TT 59 72 L S M Q = TR (z_st (.goto 16) 3 72 L S M) 59 75 M Q := T_at zk59 rfl
theorem zT59_75 : TT 59 75 L S M Q = TR (z_st (.iload 2) 1 75 L S M) 59 76 M Q := T_at zk59 rfl
theorem zT59_76 : TT 59 76 L S M Q = TR (z_st (.ret 0) 1 76 L S M) 59 77 M Q := T_at zk59 rfl
theorem zk60 : z_coL.getD 60 [] = zc60 := rfl
theorem zT60_0 : TT 60 0 L S M Q = TR (z_st (.aload 0) 1 0 L S M) 60 1 M Q := T_at zk60 rfl
theorem zT60_1 : TT 60 1 L S M Q = TR (z_st (.iconst (-1)) 1 1 L S M) 60 2 M Q := T_at zk60 rfl
theorem zT60_2 : TT 60 2 L S M Q = TR (z_st (.iconst 1) 1 2 L S M) 60 3 M Q := T_at zk60 rfl
theorem zT60_3 : TT 60 3 L S M Q = TR (z_st (.invokevirtual 37) 3 3 L S M) 60 6 M Q := T_at zk60 rfl
theorem zT60_6 : TT 60 6 L S M Q = TR (z_st (.aload 0) 1 6 L S M) 60 7 M Q := T_at zk60 rfl
theorem zT60_7 : TT 60 7 L S M Q = TR (z_st (.aload 0) 1 7 L S M) 60 8 M Q := T_at zk60 rfl
theorem zT60_8 : TT 60 8 L S M Q = TR (z_st (.invokevirtual 48) 3 8 L S M) 60 11 M Q := T_at zk60 rfl
theorem zT60_11 : TT 60 11 L S M Q = TR (z_st (.invokevirtual 47) 3 11 L S M) 60 14 M Q := T_at zk60 rfl
theorem zT60_14 : TT 60 14 L S M Q = TR (z_st (.istore 1) 1 14 L S M) 60 15 M Q := T_at zk60 rfl
theorem zT60_15 : TT 60 15 L S M Q = TR (z_st (.aload 0) 1 15 L S M) 60 16 M Q := T_at zk60 rfl
theorem zT60_16 : TT 60 16 L S M Q = TR (z_st (.iconst (-1)) 1 16 L S M) 60 17 M Q := T_at zk60 rfl
theorem zT60_17 : TT 60 17 L S M Q = TR (z_st (.iconst 0) 1 17 L S M) 60 18 M Q := T_at zk60 rfl
theorem zT60_18 : TT 60 18 L S M Q = TR (z_st (.invokevirtual 37) 3 18 L S M) 60 21 M Q := T_at zk60 rfl
theorem zT60_21 : TT 60 21 L S M Q = TR (z_st (.aload 0) 1 21 L S M) 60 22 M Q := T_at zk60 rfl
theorem zT60_22 : TT 60 22 L S M Q = TR (z_st (.aload 0) 1 22 L S M) 60 23 M Q := T_at zk60 rfl
theorem zT60_23 : TT 60 23 L S M Q = TR (z_st (.invokevirtual 48) 3 23 L S M) 60 26 M Q := T_at zk60 rfl
theorem zT60_26 : TT 60 26 L S M Q = TR (z_st (.invokevirtual 47) 3 26 L S M) 60 29 M Q := T_at zk60 rfl
theorem zT60_29 : TT 60 29 L S M Q = TR (z_st (.istore 2) 1 29 L S M) 60 30 M Q := T_at zk60 rfl
theorem zT60_30 : TT 60 30 L S M Q = TR (z_st (.iload 1) 1 30 L S M) 60 31 M Q := T_at zk60 rfl
theorem zT60_31 : TT 60 31 L S M Q = TR (z_st (.iconst (-1)) 1 31 L S M) 60 32 M Q := T_at zk60 rfl
theorem zT60_32 : TT 60 32 L S M Q = TR (z_st (.if_icmp .eq 40) 3 32 L S M) 60 35 M Q := T_at zk60 rfl
theorem zT60_35 : TT 60 35 L S M Q = TR (z_st (.iload 2) 1 35 L S M) 60 36 M Q := T_at zk60 rfl
theorem zT60_36 : TT 60 36 L S M Q = TR (z_st (.iconst (-1)) 1 36 L S M) 60 37 M Q := T_at zk60 rfl
theorem zT60_37 : TT 60 37 L S M Q = TR (z_st (.if_icmp .ne 44) 3 37 L S M) 60 40 M Q := T_at zk60 rfl
theorem zT60_40 : TT 60 40 L S M Q = TR (z_st (.iconst (-1)) 1 40 L S M) 60 41 M Q := T_at zk60 rfl
theorem zT60_41 : TT 60 41 L S M Q = TR (z_st (.goto 47) 3 41 L S M) 60 44 M Q := T_at zk60 rfl
theorem zT60_44 : TT 60 44 L S M Q = TR (z_st (.iload 1) 1 44 L S M) 60 45 M Q := T_at zk60 rfl
theorem zT60_45 : TT 60 45 L S M Q = TR (z_st (.iload 2) 1 45 L S M) 60 46 M Q := T_at zk60 rfl
theorem zT60_46 : TT 60 46 L S M Q = TR (z_st (.isub) 1 46 L S M) 60 47 M Q := T_at zk60 rfl
theorem zT60_47 : TT 60 47 L S M Q = TR (z_st (.ret 0) 1 47 L S M) 60 48 M Q := T_at zk60 rfl
theorem zk61 : z_coL.getD 61 [] = zc61 := rfl
theorem zT61_0 : TT 61 0 L S M Q = TR (z_st (.iload 1) 1 0 L S M) 61 1 M Q := T_at zk61 rfl
theorem zT61_1 : TT 61 1 L S M Q = TR (z_st (.i2l) 1 1 L S M) 61 2 M Q := T_at zk61 rfl
theorem zT61_2 : TT 61 2 L S M Q = TR (z_st (.ldc2_w 0) 1 2 L S M) 61 3 M Q := T_at zk61 rfl
theorem zT61_3 : TT 61 3 L S M Q = TR (z_st (.ldc2_w 60) 3 3 L S M) 61 6 M Q := T_at zk61 rfl
theorem zT61_6 : TT 61 6 L S M Q = TR (z_st (.invokestatic 2) 3 6 L S M) 61 9 M Q := T_at zk61 rfl
theorem zT61_9 : TT 61 9 L S M Q = TR (z_st (.ifCond .ne 19) 3 9 L S M) 61 12 M Q := T_at zk61 rfl
theorem zT61_12 : TT 61 12 L S M Q = TR (z_st (.aload 0) 1 12 L S M) 61 13 M Q := T_at zk61 rfl
theorem zT61_13 : TT 61 13 L S M Q = TR (z_st (.iconst (-2)) 2 13 L S M) 61 15 M Q := T_at zk61 rfl
theorem zT61_15 : TT 61 15 L S M Q = TR (z_st (.invokevirtual 3) 3 15 L S M) 61 18 M Q := T_at zk61 rfl
theorem zT61_18 : TT 61 18 L S M Q = TR (z_st (.ret 0) 1 18 L S M) 61 19 M Q := T_at zk61 rfl
theorem zT61_19 : TT 61 19 L S M Q = TR (z_st (.aload 0) 1 19 L S M) 61 20 M Q := T_at zk61 rfl
theorem zT61_20 : TT 61 20 L S M Q = TR (z_st (.iconst (-1)) 1 20 L S M) 61 21 M Q := T_at zk61 rfl
theorem zT61_21 : TT 61 21 L S M Q = TR (z_st (.aload 0) 1 21 L S M) 61 22 M Q := T_at zk61 rfl
theorem zT61_22 : TT 61 22 L S M Q = TR (z_st (.fload 71) 3 22 L S M) 61 25 M Q := T_at zk61 rfl
theorem zT61_25 : TT 61 25 L S M Q = TR (z_st (.iconst 54) 2 25 L S M) 61 27 M Q := T_at zk61 rfl
theorem zT61_27 : TT 61 27 L S M Q = TR (z_st (.iaload) 1 27 L S M) 61 28 M Q := T_at zk61 rfl
theorem zT61_28 : TT 61 28 L S M Q = TR (z_st (.iconst 1) 1 28 L S M) 61 29 M Q := T_at zk61 rfl
theorem zT61_29 : TT 61 29 L S M Q = TR (z_st (.if_icmp .ne 36) 3 29 L S M) 61 32 M Q := T_at zk61 rfl
theorem zT61_32 : TT 61 32 L S M Q = TR (z_st (.iconst 1) 1 32 L S M) 61 33 M Q := T_at zk61 rfl
theorem zT61_33 : TT 61 33 L S M Q = TR (z_st (.goto 37) 3 33 L S M) 61 36 M Q := T_at zk61 rfl
theorem zT61_36 : TT 61 36 L S M Q = TR (z_st (.iconst 0) 1 36 L S M) 61 37 M Q := T_at zk61 rfl
theorem zT61_37 : TT 61 37 L S M Q = TR (z_st (.invokevirtual 37) 3 37 L S M) 61 40 M Q := T_at zk61 rfl
theorem zT61_40 : TT 61 40 L S M Q = TR (z_st (.iconst 0) 1 40 L S M) 61 41 M Q := T_at zk61 rfl
theorem zT61_41 : TT 61 41 L S M Q = TR (z_st (.istore 2) 1 41 L S M) 61 42 M Q := T_at zk61 rfl
theorem zT61_42 : TT 61 42 L S M Q = TR (z_st (.iconst 1) 1 42 L S M) 61 43 M Q := T_at zk61 rfl
theorem zT61_43 : TT 61 43 L S M Q = TR (z_st (.istore 3) 1 43 L S M) 61 44 M Q := T_at zk61 rfl
theorem zT61_44 : TT 61 44 L S M Q = TR (z_st (.iload 3) 1 44 L S M) 61 45 M Q := T_at zk61 rfl
theorem zT61_45 : TT 61 45 L S M Q = TR (z_st (.aload 0) 1 45 L S M) 61 46 M Q := T_at zk61 rfl
theorem zT61_46 : TT 61 46 L S M Q = TR (z_st (.invokevirtual 48) 3 46 L S M) 61 49 M Q := T_at zk61 rfl
theorem zT61_49 : TT 61 49 L S M Q = TR (z_st (.if_icmp .gt 98) 3 49 L S M) 61 52 M Q := T_at zk61 rfl
theorem zT61_52 : TT 61 52 L S M Q = TR (z_st (.iload 3) 1 52 L S M) 61 53 M Q := T_at zk61 rfl
theorem zT61_53 : TT 61 53 L S M Q = TR (z_st (.invokestatic 8) 3 53 L S M) 61 56 M Q := T_at zk61 rfl
theorem zT61_56 : TT 61 56 L S M Q = TR (z_st (.iload 2) 1 56 L S M) 61 57 M Q := T_at zk61 rfl
theorem zT61_57 : TT 61 57 L S M Q = TR (z_st (.invokestatic 8) 3 57 L S M) 61 60 M Q := T_at zk61 rfl
theorem zT61_60 : TT 61 60 L S M Q = TR (z_st (.if_icmp .le 71) 3 60 L S M) 61 63 M Q := T_at zk61 rfl
theorem zT61_63 : TT 61 63 L S M Q = TR (z_st (.aload 0) 1 63 L S M) 61 64 M Q := T_at zk61 rfl
theorem zT61_64 : TT 61 64 L S M Q = TR (z_st (.iload 3) 1 64 L S M) 61 65 M Q := T_at zk61 rfl
theorem zT61_65 : TT 61 65 L S M Q = TR (z_st (.invokevirtual 47) 3 65 L S M) 61 68 M Q := T_at zk61 rfl
theorem zT61_68 : TT 61 68 L S M Q = TR (z_st (.goto 72) 3 68 L S M) 61 71 M Q := T_at zk61 rfl
theorem zT61_71 : TT 61 71 L S M Q = TR (z_st (.iconst (-1)) 1 71 L S M) 61 72 M Q := T_at zk61 rfl
theorem zT61_72 : TT 61 72 L S M Q = TR (z_st (.istore 4) 2 72 L S M) 61 74 M Q := T_at zk61 rfl
theorem zT61_74 : TT 61 74 L S M Q = TR (z_st (.iload 4) 2 74 L S M) 61 76 M Q := T_at zk61 rfl
theorem zT61_76 : TT 61 76 L S M Q = TR (z_st (.iconst (-1)) 1 76 L S M) 61 77 M Q := T_at zk61 rfl
theorem zT61_77 : TT 61 77 L S M Q = TR (z_st (.if_icmp .eq 90) 3 77 L S M) 61 80 M Q := T_at zk61 rfl
theorem zT61_80 : TT 61 80 L S M Q = TR (z_st (.iload 4) 2 80 L S M) 61 82 M Q := T_at zk61 rfl
theorem zT61_82 : TT 61 82 L S M Q = TR (z_st (.iload 1) 1 82 L S M) 61 83 M Q := T_at zk61 rfl
theorem zT61_83 : TT 61 83 L S M Q = TR (z_st (.if_icmp .gt 90) 3 83 L S M) 61 86 M Q := T_at zk61 rfl
theorem zT61_86 : TT 61 86 L S M Q = TR (z_st (.iload 3) 1 86 L S M) 61 87 M Q := T_at zk61 rfl
theorem zT61_87 : TT 61 87 L S M Q = TR (z_st (.goto 91) 3 87 L S M) 61 90 M Q := T_at zk61 rfl
theorem zT61_90 : TT 61 90 L S M Q = TR (z_st (.iload 2) 1 90 L S M) 61 91 M Q := T_at zk61 rfl
theorem zT61_91 : TT 61 91 L S M Q = TR (z_st (.istore 2) 1 91 L S M) 61 92 M Q := T_at zk61 rfl
theorem zT61_92 : TT 61 92 L S M Q = TR (z_st (.iinc 3 1) 3 92 L S M) 61 95 M Q := T_at zk61 rfl
theorem zT61_95 : TT 61 95 L S M Q = TR (z_st (.goto 44) 3 95 L S M) 61 98 M Q := T_at zk61 rfl
theorem zT61_98 : TT 61 98 L S M Q = TR (z_st (.iload 2) 1 98 L S M) 61 99 M Q := T_at zk61 rfl
theorem zT61_99 : TT 61 99 L S M Q = TR (z_st (.ret 0) 1 99 L S M) 61 100 M Q := T_at zk61 rfl
theorem zk62 : z_coL.getD 62 [] = zc62 := rfl
theorem zT62_0 : TT 62 0 L S M Q = TR (z_st (.ldc2_w 0) 1 0 L S M) 62 1 M Q := T_at zk62 rfl
theorem zT62_1 : TT 62 1 L S M Q = TR (z_st (.lstore 4) 2 1 L S M) 62 3 M Q := T_at zk62 rfl
theorem zT62_3 : TT 62 3 L S M Q = TR (z_st (.iconst 0) 1 3 L S M) 62 4 M Q := T_at zk62 rfl
theorem zT62_4 : TT 62 4 L S M Q = TR (z_st (.istore 6) 2 4 L S M) 62 6 M Q := T_at zk62 rfl
theorem zT62_6 : TT 62 6 L S M Q = TR (z_st (.iconst 0) 1 6 L S M) 62 7 M Q := T_at zk62 rfl
theorem zT62_7 : TT 62 7 L S M Q = TR (z_st (.istore 7) 2 7 L S M) 62 9 M Q := T_at zk62 rfl
theorem zT62_9 : TT 62 9 L S M Q = TR (z_st (.iload 7) 2 9 L S M) 62 11 M Q := T_at zk62 rfl
theorem zT62_11 : TT 62 11 L S M Q = TR (z_st (.iconst 10) 2 11 L S M) 62 13 M Q := T_at zk62 rfl
theorem zT62_13 : TT 62 13 L S M Q = TR (z_st (.if_icmp .ge 80) 3 13 L S M) 62 16 M Q := T_at zk62 rfl
theorem zT62_16 : TT 62 16 L S M Q = TR (z_st (.iload 7) 2 16 L S M) 62 18 M Q := T_at zk62 rfl
theorem zT62_18 : TT 62 18 L S M Q = TR (z_st (.iload 1) 1 18 L S M) 62 19 M Q := T_at zk62 rfl
theorem zT62_19 : TT 62 19 L S M Q = TR (z_st (.if_icmp .ge 29) 3 19 L S M) 62 22 M Q := T_at zk62 rfl
theorem zT62_22 : TT 62 22 L S M Q = TR (z_st (.aload 0) 1 22 L S M) 62 23 M Q := T_at zk62 rfl
theorem zT62_23 : TT 62 23 L S M Q = TR (z_st (.iload 7) 2 23 L S M) 62 25 M Q := T_at zk62 rfl
theorem zT62_25 : TT 62 25 L S M Q = TR (z_st (.laload) 1 25 L S M) 62 26 M Q := T_at zk62 rfl
theorem zT62_26 : TT 62 26 L S M Q = TR (z_st (.goto 30) 3 26 L S M) 62 29 M Q := T_at zk62 rfl
theorem zT62_29 : TT 62 29 L S M Q = TR (z_st (.ldc2_w 0) 1 29 L S M) 62 30 M Q := T_at zk62 rfl
theorem zT62_30 : TT 62 30 L S M Q = TR (z_st (.lload 2) 1 30 L S M) 62 31 M Q := T_at zk62 rfl
theorem zT62_31 : TT 62 31 L S M Q = TR (z_st (.lmul) 1 31 L S M) 62 32 M Q := T_at zk62 rfl
theorem zT62_32 : TT 62 32 L S M Q = TR (z_st (.lload 4) 2 32 L S M) 62 34 M Q := T_at zk62 rfl
theorem zT62_34 : TT 62 34 L S M Q = TR (z_st (.ladd) 1 34 L S M) 62 35 M Q := T_at zk62 rfl
theorem zT62_35 : TT 62 35 L S M Q = TR (z_st (.lstore 8) 2 35 L S M) 62 37 M Q := T_at zk62 rfl
theorem zT62_37 : TT 62 37 L S M Q = TR (z_st (.aload 0) 1 37 L S M) 62 38 M Q := T_at zk62 rfl
theorem zT62_38 : TT 62 38 L S M Q = TR (z_st (.iload 7) 2 38 L S M) 62 40 M Q := T_at zk62 rfl
theorem zT62_40 : TT 62 40 L S M Q = TR (z_st (.lload 8) 2 40 L S M) 62 42 M Q := T_at zk62 rfl
theorem zT62_42 : TT 62 42 L S M Q = TR (z_st (.ldc2_w 1073741823) 3 42 L S M) 62 45 M Q := T_at zk62 rfl
theorem zT62_45 : TT 62 45 L S M Q = TR (z_st (.land) 1 45 L S M) 62 46 M Q := T_at zk62 rfl
theorem zT62_46 : TT 62 46 L S M Q = TR (z_st (.lastore) 1 46 L S M) 62 47 M Q := T_at zk62 rfl
theorem zT62_47 : TT 62 47 L S M Q = TR (z_st (.lload 8) 2 47 L S M) 62 49 M Q := T_at zk62 rfl
theorem zT62_49 : TT 62 49 L S M Q = TR (z_st (.iconst 30) 2 49 L S M) 62 51 M Q := T_at zk62 rfl
theorem zT62_51 : TT 62 51 L S M Q = TR (z_st (.lshr) 1 51 L S M) 62 52 M Q := T_at zk62 rfl
theorem zT62_52 : TT 62 52 L S M Q = TR (z_st (.lstore 4) 2 52 L S M) 62 54 M Q := T_at zk62 rfl
theorem zT62_54 : TT 62 54 L S M Q = TR (z_st (.aload 0) 1 54 L S M) 62 55 M Q := T_at zk62 rfl
theorem zT62_55 : TT 62 55 L S M Q = TR (z_st (.iload 7) 2 55 L S M) 62 57 M Q := T_at zk62 rfl
theorem zT62_57 : TT 62 57 L S M Q = TR (z_st (.laload) 1 57 L S M) 62 58 M Q := T_at zk62 rfl
theorem zT62_58 : TT 62 58 L S M Q = TR (z_st (.ldc2_w 0) 1 58 L S M) 62 59 M Q := T_at zk62 rfl
theorem zT62_59 : TT 62 59 L S M Q = TR (z_st (.lcmp) 1 59 L S M) 62 60 M Q := T_at zk62 rfl
theorem zT62_60 : TT 62 60 L S M Q = TR (z_st (.ifCond .eq 70) 3 60 L S M) 62 63 M Q := T_at zk62 rfl
theorem zT62_63 : TT 62 63 L S M Q = TR (z_st (.iload 7) 2 63 L S M) 62 65 M Q := T_at zk62 rfl
theorem zT62_65 : TT 62 65 L S M Q = TR (z_st (.iconst 1) 1 65 L S M) 62 66 M Q := T_at zk62 rfl
theorem zT62_66 : TT 62 66 L S M Q = TR (z_st (.iadd) 1 66 L S M) 62 67 M Q := T_at zk62 rfl
theorem zT62_67 : TT 62 67 L S M Q = TR (z_st (.goto 72) 3 67 L S M) 62 70 M Q := T_at zk62 rfl
theorem zT62_70 : TT 62 70 L S M Q = TR (z_st (.iload 6) 2 70 L S M) 62 72 M Q := T_at zk62 rfl
theorem zT62_72 : TT 62 72 L S M Q = TR (z_st (.istore 6) 2 72 L S M) 62 74 M Q := T_at zk62 rfl
theorem zT62_74 : TT 62 74 L S M Q = TR (z_st (.iinc 7 1) 3 74 L S M) 62 77 M Q := T_at zk62 rfl
theorem zT62_77 : TT 62 77 L S M Q = TR (z_st (.goto 9) 3 77 L S M) 62 80 M Q := T_at zk62 rfl
theorem zT62_80 : TT 62 80 L S M Q = TR (z_st (.iload 6) 2 80 L S M) 62 82 M Q := T_at zk62 rfl
theorem zT62_82 : TT 62 82 L S M Q = TR (z_st (.ret 0) 1 82 L S M) 62 83 M Q := T_at zk62 rfl
theorem zk63 : z_coL.getD 63 [] = zc63 := rfl
theorem zT63_0 : TT 63 0 L S M Q = TR (z_st (.iload 1) 1 0 L S M) 63 1 M Q := T_at zk63 rfl
theorem zT63_1 : TT 63 1 L S M Q = TR (z_st (.istore 4) 2 1 L S M) 63 3 M Q := T_at zk63 rfl
theorem zT63_3 : TT 63 3 L S M Q = TR (z_st (.iload 2) 1 3 L S M) 63 4 M Q := T_at zk63 rfl
theorem zT63_4 : TT 63 4 L S M Q = TR (z_st (.istore 5) 2 4 L S M) 63 6 M Q := T_at zk63 rfl
theorem zT63_6 : TT 63 6 L S M Q = TR (z_st (.iload 5) 2 6 L S M) 63 8 M Q := T_at zk63 rfl
theorem zT63_8 : TT 63 8 L S M Q = TR (z_st (.ifCond .eq 29) 3 8 L S M) 63 11 M Q := T_at zk63 rfl
theorem zT63_11 : TT 63 11 L S M Q = TR (z_st (.iload 4) 2 11 L S M) 63 13 M Q := T_at zk63 rfl
theorem zT63_13 : TT 63 13 L S M Q = TR (z_st (.iload 5) 2 13 L S M) 63 15 M Q := T_at zk63 rfl
theorem zT63_15 : TT 63 15 L S M Q = TR (z_st (.irem) 1 15 L S M) 63 16 M Q := T_at zk63 rfl
theorem zT63_16 : TT 63 16 L S M Q = TR (z_st (.istore 6) 2 16 L S M) 63 18 M Q := T_at zk63 rfl
theorem zT63_18 : TT 63 18 L S M Q = TR (z_st (.iload 5) 2 18 L S M) 63 20 M Q := T_at zk63 rfl
theorem zT63_20 : TT 63 20 L S M Q = TR (z_st (.istore 4) 2 20 L S M) 63 22 M Q := T_at zk63 rfl
theorem zT63_22 : TT 63 22 L S M Q = TR (z_st (.iload 6) 2 22 L S M) 63 24 M Q := T_at zk63 rfl
theorem zT63_24 : TT 63 24 L S M Q = TR (z_st (.istore 5) 2 24 L S M) 63 26 M Q := T_at zk63 rfl
theorem zT63_26 : TT 63 26 L S M Q = TR (z_st (.goto 6) 3 26 L S M) 63 29 M Q := T_at zk63 rfl
theorem zT63_29 : TT 63 29 L S M Q = TR (z_st (.aload 0) 1 29 L S M) 63 30 M Q := T_at zk63 rfl
theorem zT63_30 : TT 63 30 L S M Q = TR (z_st (.fload 96) 3 30 L S M) 63 33 M Q := T_at zk63 rfl
theorem zT63_33 : TT 63 33 L S M Q = TR (z_st (.iconst 0) 1 33 L S M) 63 34 M Q := T_at zk63 rfl
theorem zT63_34 : TT 63 34 L S M Q = TR (z_st (.ldc2_w 1) 1 34 L S M) 63 35 M Q := T_at zk63 rfl
theorem zT63_35 : TT 63 35 L S M Q = TR (z_st (.lastore) 1 35 L S M) 63 36 M Q := T_at zk63 rfl
theorem zT63_36 : TT 63 36 L S M Q = TR (z_st (.aload 0) 1 36 L S M) 63 37 M Q := T_at zk63 rfl
theorem zT63_37 : TT 63 37 L S M Q = TR (z_st (.fload 98) 3 37 L S M) 63 40 M Q := T_at zk63 rfl
theorem zT63_40 : TT 63 40 L S M Q = TR (z_st (.iconst 0) 1 40 L S M) 63 41 M Q := T_at zk63 rfl
theorem zT63_41 : TT 63 41 L S M Q = TR (z_st (.ldc2_w 1) 1 41 L S M) 63 42 M Q := T_at zk63 rfl
theorem zT63_42 : TT 63 42 L S M Q = TR (z_st (.lastore) 1 42 L S M) 63 43 M Q := T_at zk63 rfl
theorem zT63_43 : TT 63 43 L S M Q = TR (z_st (.aload 0) 1 43 L S M) 63 44 M Q := T_at zk63 rfl
theorem zT63_44 : TT 63 44 L S M Q = TR (z_st (.iconst 1) 1 44 L S M) 63 45 M Q := T_at zk63 rfl
theorem zT63_45 : TT 63 45 L S M Q = TR (z_st (.putfield 97) 3 45 L S M) 63 48 M Q := T_at zk63 rfl
theorem zT63_48 : TT 63 48 L S M Q = TR (z_st (.aload 0) 1 48 L S M) 63 49 M Q := T_at zk63 rfl
theorem zT63_49 : TT 63 49 L S M Q = TR (z_st (.iconst 1) 1 49 L S M) 63 50 M Q := T_at zk63 rfl
theorem zT63_50 : TT 63 50 L S M Q = TR (z_st (.putfield 99) 3 50 L S M) 63 53 M Q := T_at zk63 rfl
theorem zT63_53 : TT 63 53 L S M Q = TR (z_st (.iconst 0) 1 53 L S M) 63 54 M Q := T_at zk63 rfl
theorem zT63_54 : TT 63 54 L S M Q = TR (z_st (.istore 6) 2 54 L S M) 63 56 M Q := T_at zk63 rfl
theorem zT63_56 : TT 63 56 L S M Q = TR (z_st (.iload 6) 2 56 L S M) 63 58 M Q := T_at zk63 rfl
theorem zT63_58 : TT 63 58 L S M Q = TR (z_st (.iload 3) 1 58 L S M) 63 59 M Q := T_at zk63 rfl
theorem zT63_59 : TT 63 59 L S M Q = TR (z_st (.if_icmp .ge 116) 3 59 L S M) 63 62 M Q := T_at zk63 rfl
theorem zT63_62 : TT 63 62 L S M Q = TR (z_st (.aload 0) 1 62 L S M) 63 63 M Q := T_at zk63 rfl
theorem zT63_63 : TT 63 63 L S M Q = TR (z_st (.aload 0) 1 63 L S M) 63 64 M Q := T_at zk63 rfl
theorem zT63_64 : TT 63 64 L S M Q = TR (z_st (.fload 96) 3 64 L S M) 63 67 M Q := T_at zk63 rfl
theorem zT63_67 : TT 63 67 L S M Q = TR (z_st (.aload 0) 1 67 L S M) 63 68 M Q := T_at zk63 rfl
theorem zT63_68 : TT 63 68 L S M Q = TR (z_st (.getfield 97) 3 68 L S M) 63 71 M Q := T_at zk63 rfl
theorem zT63_71 : TT 63 71 L S M Q = TR (z_st (.iload 1) 1 71 L S M) 63 72 M Q := T_at zk63 rfl
theorem zT63_72 : TT 63 72 L S M Q = TR (z_st (.iload 4) 2 72 L S M) 63 74 M Q := T_at zk63 rfl
theorem zT63_74 : TT 63 74 L S M Q = TR (z_st (.idiv) 1 74 L S M) 63 75 M Q := T_at zk63 rfl
theorem zT63_75 : TT 63 75 L S M Q = TR (z_st (.i2l) 1 75 L S M) 63 76 M Q := T_at zk63 rfl
theorem zT63_76 : TT 63 76 L S M Q = TR (z_st (.invokestatic 62) 3 76 L S M) 63 79 M Q := T_at zk63 rfl
theorem zT63_79 : TT 63 79 L S M Q = TR (z_st (.putfield 97) 3 79 L S M) 63 82 M Q := T_at zk63 rfl
theorem zT63_82 : TT 63 82 L S M Q = TR (z_st (.aload 0) 1 82 L S M) 63 83 M Q := T_at zk63 rfl
theorem zT63_83 : TT 63 83 L S M Q = TR (z_st (.aload 0) 1 83 L S M) 63 84 M Q := T_at zk63 rfl
theorem zT63_84 : TT 63 84 L S M Q = TR (z_st (.fload 98) 3 84 L S M) 63 87 M Q := T_at zk63 rfl
theorem zT63_87 : TT 63 87 L S M Q = TR (z_st (.aload 0) 1 87 L S M) 63 88 M Q := T_at zk63 rfl
theorem zT63_88 : TT 63 88 L S M Q = TR (z_st (.getfield 99) 3 88 L S M) 63 91 M Q := T_at zk63 rfl
theorem zT63_91 : TT 63 91 L S M Q = TR (z_st (.iload 1) 1 91 L S M) 63 92 M Q := T_at zk63 rfl
theorem zT63_92 : TT 63 92 L S M Q = TR (z_st (.ifCond .ne 99) 3 92 L S M) 63 95 M Q := T_at zk63 rfl
theorem zT63_95 : TT 63 95 L S M Q = TR (z_st (.ldc2_w 1) 1 95 L S M) 63 96 M Q := T_at zk63 rfl
theorem zT63_96 : TT 63 96 L S M Q = TR (z_st (.goto 104) 3 96 L S M) 63 99 M Q := T_at zk63 rfl
theorem zT63_99 : TT 63 99 L S M Q = TR (z_st (.iload 2) 1 99 L S M) 63 100 M Q := T_at zk63 rfl
theorem zT63_100 : TT 63 100 L S M Q = TR (z_st (.iload 4) 2 100 L S M) 63 102 M Q := T_at zk63 rfl
theorem zT63_102 : TT 63 102 L S M Q = TR (z_st (.idiv) 1 102 L S M) 63 103 M Q := T_at zk63 rfl
theorem zT63_103 : TT 63 103 L S M Q = TR (z_st (.i2l) 1 103 L S M) 63 104 M Q := T_at zk63 rfl
theorem zT63_104 : TT 63 104 L S M Q = TR (z_st (.invokestatic 62) 3 104 L S M) 63 107 M Q := T_at zk63 rfl
theorem zT63_107 : TT 63 107 L S M Q = TR (z_st (.putfield 99) 3 107 L S M) 63 110 M Q := T_at zk63 rfl
theorem zT63_110 : TT 63 110 L S M Q = TR (z_st (.iinc 6 1) 3 110 L S M) 63 113 M Q := T_at zk63 rfl
theorem zT63_113 : TT 63 113 L S M Q = TR (z_st (.goto 56) 3 113 L S M) 63 116 M Q := T_at zk63 rfl
theorem zT63_116 : TT 63 116 L S M Q = TR (z_st (.iconst 1) 1 116 L S M) 63 117 M Q := T_at zk63 rfl
theorem zT63_117 : TT 63 117 L S M Q = TR (z_st (.ret 0) 1 117 L S M) 63 118 M Q := T_at zk63 rfl
theorem zk64 : z_coL.getD 64 [] = zc64 := rfl
theorem zT64_0 : TT 64 0 L S M Q = TR (z_st (.aload 0) 1 0 L S M) 64 1 M Q := T_at zk64 rfl
theorem zT64_1 : TT 64 1 L S M Q = TR (z_st (.invokevirtual 42) 3 1 L S M) 64 4 M Q := T_at zk64 rfl
theorem zT64_4 : TT 64 4 L S M Q = TR (z_st (.istore 6) 2 4 L S M) 64 6 M Q := T_at zk64 rfl
theorem zT64_6 : TT 64 6 L S M Q = TR (z_st (.lload 4) 2 6 L S M) 64 8 M Q := T_at zk64 rfl
theorem zT64_8 : TT 64 8 L S M Q = TR (z_st (.lstore 7) 2 8 L S M) 64 10 M Q := T_at zk64 rfl
theorem zT64_10 : TT 64 10 L S M Q = TR (z_st (.aload 0) 1 10 L S M) 64 11 M Q := T_at zk64 rfl
theorem zT64_11 : TT 64 11 L S M Q = TR (z_st (.iconst 0) 1 11 L S M) 64 12 M Q := T_at zk64 rfl
theorem zT64_12 : TT 64 12 L S M Q = TR (z_st (.putfield 100) 3 12 L S M) 64 15 M Q := T_at zk64 rfl
theorem zT64_15 : TT 64 15 L S M Q = TR (z_st (.aload 0) 1 15 L S M) 64 16 M Q := T_at zk64 rfl
theorem zT64_16 : TT 64 16 L S M Q = TR (z_st (.iconst 0) 1 16 L S M) 64 17 M Q := T_at zk64 rfl
theorem zT64_17 : TT 64 17 L S M Q = TR (z_st (.putfield 101) 3 17 L S M) 64 20 M Q := T_at zk64 rfl
theorem zT64_20 : TT 64 20 L S M Q = TR (z_st (.aload 0) 1 20 L S M) 64 21 M Q := T_at zk64 rfl
theorem zT64_21 : TT 64 21 L S M Q = TR (z_st (.iconst 0) 1 21 L S M) 64 22 M Q := T_at zk64 rfl
theorem zT64_22 : TT 64 22 L S M Q = TR (z_st (.putfield 102) 3 22 L S M) 64 25 M Q := T_at zk64 rfl
theorem zT64_25 : TT 64 25 L S M Q = TR (z_st (.aload 0) 1 25 L S M) 64 26 M Q := T_at zk64 rfl
theorem zT64_26 : TT 64 26 L S M Q = TR (z_st (.iconst (-1)) 1 26 L S M) 64 27 M Q := T_at zk64 rfl
theorem zT64_27 : TT 64 27 L S M Q = TR (z_st (.putfield 103) 3 27 L S M) 64 30 M Q := T_at zk64 rfl
theorem zT64_30 : TT 64 30 L S M Q = TR (z_st (.iconst 0) 1 30 L S M) 64 31 M Q := T_at zk64 rfl
theorem zT64_31 : TT 64 31 L S M Q = TR (z_st (.istore 9) 2 31 L S M) 64 33 M Q := T_at zk64 rfl
theorem zT64_33 : TT 64 33 L S M Q = TR (z_st (.iload 9) 2 33 L S M) 64 35 M Q := T_at zk64 rfl
theorem zT64_35 : TT 64 35 L S M Q = TR (z_st (.iload 1) 1 35 L S M) 64 36 M Q := T_at zk64 rfl
theorem zT64_36 : TT 64 36 L S M Q = TR (z_st (.if_icmp .ge 305) 3 36 L S M) 64 39 M Q := T_at zk64 rfl
theorem zT64_39 : TT 64 39 L S M Q = TR (z_st (.aload 0) 1 39 L S M) 64 40 M Q := T_at zk64 rfl
theorem zT64_40 : TT 64 40 L S M Q = TR (z_st (.iload 6) 2 40 L S M) 64 42 M Q := T_at zk64 rfl
theorem zT64_42 : TT 64 42 L S M Q = TR (z_st (.invokevirtual 51) 3 42 L S M) 64 45 M Q := T_at zk64 rfl
theorem zT64_45 : TT 64 45 L S M Q = TR (z_st (.istore 10) 2 45 L S M) 64 47 M Q := T_at zk64 rfl
theorem zT64_47 : TT 64 47 L S M Q = TR (z_st (.aload 0) 1 47 L S M) 64 48 M Q := T_at zk64 rfl
theorem zT64_48 : TT 64 48 L S M Q = TR (z_st (.iload 10) 2 48 L S M) 64 50 M Q := T_at zk64 rfl
theorem zT64_50 : TT 64 50 L S M Q = TR (z_st (.iload 6) 2 50 L S M) 64 52 M Q := T_at zk64 rfl
theorem zT64_52 : TT 64 52 L S M Q = TR (z_st (.invokevirtual 55) 3 52 L S M) 64 55 M Q := T_at zk64 rfl
theorem zT64_55 : TT 64 55 L S M Q = TR (z_st (.iconst 0) 1 55 L S M) 64 56 M Q := T_at zk64 rfl
theorem zT64_56 : TT 64 56 L S M Q = TR (z_st (.istore 11) 2 56 L S M) 64 58 M Q := T_at zk64 rfl
theorem zT64_58 : TT 64 58 L S M Q = TR (z_st (.iconst 0) 1 58 L S M) 64 59 M Q := T_at zk64 rfl
theorem zT64_59 : TT 64 59 L S M Q = TR (z_st (.istore 12) 2 59 L S M) 64 61 M Q := T_at zk64 rfl
theorem zT64_61 : TT 64 61 L S M Q = TR (z_st (.iload 12) 2 61 L S M) 64 63 M Q := T_at zk64 rfl
theorem zT64_63 : TT 64 63 L S M Q = TR (z_st (.iconst 3) 1 63 L S M) 64 64 M Q := T_at zk64 rfl
theorem zT64_64 : TT 64 64 L S M Q = TR (z_st (.if_icmp .ge 237) 3 64 L S M) 64 67 M Q := T_at zk64 rfl
theorem zT64_67 : TT 64 67 L S M Q = TR (z_st (.iconst 0) 1 67 L S M) 64 68 M Q := T_at zk64 rfl
theorem zT64_68 : TT 64 68 L S M Q = TR (z_st (.istore 13) 2 68 L S M) 64 70 M Q := T_at zk64 rfl
theorem zT64_70 : TT 64 70 L S M Q = TR (z_st (.iconst 0) 1 70 L S M) 64 71 M Q := T_at zk64 rfl
theorem zT64_71 : TT 64 71 L S M Q = TR (z_st (.istore 14) 2 71 L S M) 64 73 M Q := T_at zk64 rfl
theorem zT64_73 : TT 64 73 L S M Q = TR (z_st (.iload 14) 2 73 L S M) 64 75 M Q := T_at zk64 rfl
theorem zT64_75 : TT 64 75 L S M Q = TR (z_st (.aload 0) 1 75 L S M) 64 76 M Q := T_at zk64 rfl
theorem zT64_76 : TT 64 76 L S M Q = TR (z_st (.getfield 90) 3 76 L S M) 64 79 M Q := T_at zk64 rfl
theorem zT64_79 : TT 64 79 L S M Q = TR (z_st (.if_icmp .ge 118) 3 79 L S M) 64 82 M Q := T_at zk64 rfl
theorem zT64_82 : TT 64 82 L S M Q = TR (z_st (.iload 13) 2 82 L S M) 64 84 M Q := T_at zk64 rfl
theorem zT64_84 : TT 64 84 L S M Q = TR (z_st (.aload 0) 1 84 L S M) 64 85 M Q := T_at zk64 rfl
theorem zT64_85 : TT 64 85 L S M Q = TR (z_st (.fload 91) 3 85 L S M) 64 88 M Q := T_at zk64 rfl
theorem zT64_88 : TT 64 88 L S M Q = TR (z_st (.iload 14) 2 88 L S M) 64 90 M Q := T_at zk64 rfl
theorem zT64_90 : TT 64 90 L S M Q = TR (z_st (.iaload) 1 90 L S M) 64 91 M Q := T_at zk64 rfl
theorem zT64_91 : TT 64 91 L S M Q = TR (z_st (.iload 12) 2 91 L S M) 64 93 M Q := T_at zk64 rfl
theorem zT64_93 : TT 64 93 L S M Q = TR (z_st (.if_icmp .ne 108) 3 93 L S M) 64 96 M Q := T_at zk64 rfl
theorem zT64_96 : TT 64 96 L S M Q = TR (z_st (.iconst 1) 1 96 L S M) 64 97 M Q := T_at zk64 rfl
theorem zT64_97 : TT 64 97 L S M Q = TR (z_st (.aload 0) 1 97 L S M) 64 98 M Q := T_at zk64 rfl
theorem zT64_98 : TT 64 98 L S M Q = TR (z_st (.fload 89) 3 98 L S M) 64 101 M Q := T_at zk64 rfl
theorem zT64_101 : TT 64 101 L S M Q = TR (z_st (.iload 14) 2 101 L S M) 64 103 M Q := T_at zk64 rfl
theorem zT64_103 : TT 64 103 L S M Q = TR (z_st (.iaload) 1 103 L S M) 64 104 M Q := T_at zk64 rfl
theorem zT64_104 : TT 64 104 L S M Q = TR (z_st (.ishl) 1 104 L S M) 64 105 M Q := T_at zk64 rfl
theorem zT64_105 : TT 64 105 L S M Q = TR (z_st (.goto 109) 3 105 L S M) 64 108 M Q := T_at zk64 rfl
theorem zT64_108 : TT 64 108 L S M Q = TR (z_st (.iconst 0) 1 108 L S M) 64 109 M Q := T_at zk64 rfl
theorem zT64_109 : TT 64 109 L S M Q = TR (z_st (.ior) 1 109 L S M) 64 110 M Q := T_at zk64 rfl
theorem zT64_110 : TT 64 110 L S M Q = TR (z_st (.istore 13) 2 110 L S M) 64 112 M Q := T_at zk64 rfl
theorem zT64_112 : TT 64 112 L S M Q = TR (z_st (.iinc 14 1) 3 112 L S M) 64 115 M Q := T_at zk64 rfl
theorem zT64_115 : TT 64 115 L S M Q = TR (z_st (.goto 73) 3 115 L S M) 64 118 M Q := T_at zk64 rfl
theorem zT64_118 : TT 64 118 L S M Q = TR (z_st (.iload 11) 2 118 L S M) 64 120 M Q := T_at zk64 rfl
theorem zT64_120 : TT 64 120 L S M Q = TR (z_st (.iload 13) 2 120 L S M) 64 122 M Q := T_at zk64 rfl
theorem zT64_122 : TT 64 122 L S M Q = TR (z_st (.ior) 1 122 L S M) 64 123 M Q := T_at zk64 rfl
theorem zT64_123 : TT 64 123 L S M Q = TR (z_st (.istore 11) 2 123 L S M) 64 125 M Q := T_at zk64 rfl
theorem zT64_125 : TT 64 125 L S M Q = TR (z_st (.iload 13) 2 125 L S M) 64 127 M Q := T_at zk64 rfl
theorem zT64_127 : TT 64 127 L S M Q = TR (z_st (.iload 13) 2 127 L S M) 64 129 M Q := T_at zk64 rfl
theorem zT64_129 : TT 64 129 L S M Q = TR (z_st (.iconst 1) 1 129 L S M) 64 130 M Q := T_at zk64 rfl
theorem zT64_130 : TT 64 130 L S M Q = TR (z_st (.isub) 1 130 L S M) 64 131 M Q := T_at zk64 rfl
theorem zT64_131 : TT 64 131 L S M Q = TR (z_st (.iand) 1 131 L S M) 64 132 M Q := T_at zk64 rfl
theorem zT64_132 : TT 64 132 L S M Q = TR (z_st (.ifCond .eq 231) 3 132 L S M) 64 135 M Q := T_at zk64 rfl
theorem zT64_135 : TT 64 135 L S M Q = TR (z_st (.aload 0) 1 135 L S M) 64 136 M Q := T_at zk64 rfl
theorem zT64_136 : TT 64 136 L S M Q = TR (z_st (.dup) 1 136 L S M) 64 137 M Q := T_at zk64 rfl
theorem zT64_137 : TT 64 137 L S M Q = TR (z_st (.getfield 100) 3 137 L S M) 64 140 M Q := T_at zk64 rfl
theorem zT64_140 : TT 64 140 L S M Q = TR (z_st (.iconst 1) 1 140 L S M) 64 141 M Q := T_at zk64 rfl
theorem zT64_141 : TT 64 141 L S M Q = TR (z_st (.iadd) 1 141 L S M) 64 142 M Q := T_at zk64 rfl
theorem zT64_142 : TT 64 142 L S M Q = TR (z_st (.putfield 100) 3 142 L S M) 64 145 M Q := T_at zk64 rfl
theorem zT64_145 : TT 64 145 L S M Q = TR (z_st (.aload 0) 1 145 L S M) 64 146 M Q := T_at zk64 rfl
theorem zT64_146 : TT 64 146 L S M Q = TR (z_st (.dup) 1 146 L S M) 64 147 M Q := T_at zk64 rfl
theorem zT64_147 : TT 64 147 L S M Q = TR (z_st (.getfield 101) 3 147 L S M) 64 150 M Q := T_at zk64 rfl
theorem zT64_150 : TT 64 150 L S M Q = TR (z_st (.iload 2) 1 150 L S M) 64 151 M Q := T_at zk64 rfl
theorem zT64_151 : TT 64 151 L S M Q = TR (z_st (.ifCond .lt 167) 3 151 L S M) 64 154 M Q := T_at zk64 rfl
theorem zT64_154 : TT 64 154 L S M Q = TR (z_st (.iload 13) 2 154 L S M) 64 156 M Q := T_at zk64 rfl
theorem zT64_156 : TT 64 156 L S M Q = TR (z_st (.iload 2) 1 156 L S M) 64 157 M Q := T_at zk64 rfl
theorem zT64_157 : TT 64 157 L S M Q = TR (z_st (.invokestatic 5) 3 157 L S M) 64 160 M Q := T_at zk64 rfl
theorem zT64_160 : TT 64 160 L S M Q = TR (z_st (.ifCond .eq 167) 3 160 L S M) 64 163 M Q := T_at zk64 rfl
theorem zT64_163 : TT 64 163 L S M Q = TR (z_st (.iconst 1) 1 163 L S M) 64 164 M Q := T_at zk64 rfl
theorem zT64_164 : TT 64 164 L S M Q = TR (z_st (.goto 168) 3 164 L S M) 64 167 M Q := T_at zk64 rfl
set_option maxRecDepth 100000 in
theorem zT64_167 : TT 64 167 L S M Q = TR (z_st (.iconst 0) 1 167 L S M) 64 168 M Q := T_at zk64 rfl
set_option maxRecDepth 100000 in
theorem zT64_168 : TT 64 168 L S M Q = TR (z_st (.iadd) 1 168 L S M) 64 169 M Q := T_at zk64 rfl
set_option maxRecDepth 100000 in
theorem zT64_169 : TT 64 169 L S M Q = TR (z_st (.putfield 101) 3 169 L S M) 64 172 M Q := T_at zk64 rfl
set_option maxRecDepth 100000 in
theorem zT64_172 : TT 64 172 L S M Q = TR (z_st (.lload 7) 2 172 L S M) 64 174 M Q := T_at zk64 rfl
set_option maxRecDepth 100000 in
theorem zT64_174 : TT 64 174 L S M Q = TR (z_st (.ldc2_w 1103515245) 3 174 L S M) 64 177 M Q := T_at zk64 rfl
set_option maxRecDepth 100000 in
theorem zT64_177 : TT 64 177 L S M Q = TR (z_st (.lmul) 1 177 L S M) 64 178 M Q := T_at zk64 rfl
set_option maxRecDepth 100000 in
theorem zT64_178 : TT 64 178 L S M Q = TR (z_st (.ldc2_w 12345) 3 178 L S M) 64 181 M Q := T_at zk64 rfl
set_option maxRecDepth 100000 in
theorem zT64_181 : TT 64 181 L S M Q = TR (z_st (.ladd) 1 181 L S M) 64 182 M Q := T_at zk64 rfl
set_option maxRecDepth 100000 in
theorem zT64_182 : TT 64 182 L S M Q = TR (z_st (.ldc2_w 2147483648) 3 182 L S M) 64 185 M Q := T_at zk64 rfl
set_option maxRecDepth 100000 in
theorem zT64_185 : TT 64 185 L S M Q = TR (z_st (.lrem) 1 185 L S M) 64 186 M Q := T_at zk64 rfl
set_option maxRecDepth 100000 in
theorem zT64_186 : TT 64 186 L S M Q = TR (z_st (.lstore 7) 2 186 L S M) 64 188 M Q := T_at zk64 rfl
set_option maxRecDepth 100000 in
theorem zT64_188 : TT 64 188 L S M Q = TR (z_st (.aload 0) 1 188 L S M) 64 189 M Q := T_at zk64 rfl
set_option maxRecDepth 100000 in
theorem zT64_189 : TT 64 189 L S M Q = TR (z_st (.aload 0) 1 189 L S M) 64 190 M Q := T_at zk64 rfl
set_option maxRecDepth 100000 in
theorem zT64_190 : TT 64 190 L S M Q = TR (z_st (.getfield 103) 3 190 L S M) 64 193 M Q := T_at zk64 rfl
set_option maxRecDepth 100000 in
theorem zT64_193 : TT 64 193 L S M Q = TR (z_st (.iconst (-1)) 1 193 L S M) 64 194 M Q := T_at zk64 rfl
set_option maxRecDepth 100000 in
theorem zT64_194 : TT 64 194 L S M Q = TR (z_st (.if_icmp .ne 224) 3 194 L S M) 64 197 M Q := T_at zk64 rfl
set_option maxRecDepth 100000 in
theorem zT64_197 : TT 64 197 L S M Q = TR (z_st (.lload 7) 2 197 L S M) 64 199 M Q := T_at zk64 rfl
set_option maxRecDepth 100000 in
theorem zT64_199 : TT 64 199 L S M Q = TR (z_st (.ldc2_w 65536) 3 199 L S M) 64 202 M Q := T_at zk64 rfl
set_option maxRecDepth 100000 in
theorem zT64_202 : TT 64 202 L S M Q = TR (z_st (.ldiv) 1 202 L S M) 64 203 M Q := T_at zk64 rfl
set_option maxRecDepth 100000 in
theorem zT64_203 : TT 64 203 L S M Q = TR (z_st (.ldc2_w 20) 3 203 L S M) 64 206 M Q := T_at zk64 rfl
set_option maxRecDepth 100000 in
theorem zT64_206 : TT 64 206 L S M Q = TR (z_st (.lrem) 1 206 L S M) 64 207 M Q := T_at zk64 rfl
set_option maxRecDepth 100000 in
theorem zT64_207 : TT 64 207 L S M Q = TR (z_st (.iload 3) 1 207 L S M) 64 208 M Q := T_at zk64 rfl
set_option maxRecDepth 100000 in
theorem zT64_208 : TT 64 208 L S M Q = TR (z_st (.i2l) 1 208 L S M) 64 209 M Q := T_at zk64 rfl
set_option maxRecDepth 100000 in
theorem zT64_209 : TT 64 209 L S M Q = TR (z_st (.lcmp) 1 209 L S M) 64 210 M Q := T_at zk64 rfl
set_option maxRecDepth 100000 in
theorem zT64_210 : TT 64 210 L S M Q = TR (z_st (.ifCond .ge 224) 3 210 L S M) 64 213 M Q := T_at zk64 rfl
set_option maxRecDepth 100000 in
theorem zT64_213 : TT 64 213 L S M Q = TR (z_st (.iconst 10) 2 213 L S M) 64 215 M Q := T_at zk64 rfl
set_option maxRecDepth 100000 in
theorem zT64_215 : TT 64 215 L S M Q = TR (z_st (.iload 9) 2 215 L S M) 64 217 M Q := T_at zk64 rfl
set_option maxRecDepth 100000 in
theorem zT64_217 : TT 64 217 L S M Q = TR (z_st (.imul) 1 217 L S M) 64 218 M Q := T_at zk64 rfl
set_option maxRecDepth 100000 in
theorem zT64_218 : TT 64 218 L S M Q = TR (z_st (.iload 12) 2 218 L S M) 64 220 M Q := T_at zk64 rfl
set_option maxRecDepth 100000 in
theorem zT64_220 : TT 64 220 L S M Q = TR (z_st (.iadd) 1 220 L S M) 64 221 M Q := T_at zk64 rfl
set_option maxRecDepth 100000 in
theorem zT64_221 : TT 64 221 L S M Q = TR (z_st (.goto 228) 3 221 L S M) 64 224 M Q := T_at zk64 rfl
set_option maxRecDepth 100000 in
theorem zT64_224 : TT 64 224 L S M Q = TR (z_st (.aload 0) 1 224 L S M) 64 225 M Q := T_at zk64 rfl
set_option maxRecDepth 100000 in
theorem zT64_225 : TT 64 225 L S M Q = TR (z_st (.getfield 103) 3 225 L S M) 64 228 M Q := T_at zk64 rfl
set_option maxRecDepth 100000 in
theorem zT64_228 : TT 64 228 L S M Q = TR (z_st (.putfield 103) 3 228 L S M) 64 231 M Q := T_at zk64 rfl
set_option maxRecDepth 100000 in
theorem zT64_231 : TT 64 231 L S M Q = TR (z_st (.iinc 12 1) 3 231 L S M) 64 234 M Q := T_at zk64 rfl
set_option maxRecDepth 100000 in
theorem zT64_234 : TT 64 234 L S M Q = TR (z_st (.goto 61) 3 234 L S M) 64 237 M Q := T_at zk64 rfl
set_option maxRecDepth 100000 in
theorem zT64_237 : TT 64 237 L S M Q = TR (z_st (.iconst 0) 1 237 L S M) 64 238 M Q := T_at zk64 rfl
set_option maxRecDepth 100000 in
theorem zT64_238 : TT 64 238 L S M Q = TR (z_st (.istore 12) 2 238 L S M) 64 240 M Q := T_at zk64 rfl
set_option maxRecDepth 100000 in
theorem zT64_240 : TT 64 240 L S M Q = TR (z_st (.iload 12) 2 240 L S M) 64 242 M Q := T_at zk64 rfl
set_option maxRecDepth 100000 in
theorem zT64_242 : TT 64 242 L S M Q = TR (z_st (.aload 0) 1 242 L S M) 64 243 M Q := T_at zk64 rfl
set_option maxRecDepth 100000 in
theorem zT64_243 : TT 64 243 L S M Q = TR (z_st (.fload 71) 3 243 L S M) 64 246 M Q := T_at zk64 rfl
set_option maxRecDepth 100000 in
theorem zT64_246 : TT 64 246 L S M Q = TR (z_st (.iconst 0) 1 246 L S M) 64 247 M Q := T_at zk64 rfl
set_option maxRecDepth 100000 in
theorem zT64_247 : TT 64 247 L S M Q = TR (z_st (.iaload) 1 247 L S M) 64 248 M Q := T_at zk64 rfl
set_option maxRecDepth 100000 in
theorem zT64_248 : TT 64 248 L S M Q = TR (z_st (.if_icmp .ge 290) 3 248 L S M) 64 251 M Q := T_at zk64 rfl
set_option maxRecDepth 100000 in
theorem zT64_251 : TT 64 251 L S M Q = TR (z_st (.aload 0) 1 251 L S M) 64 252 M Q := T_at zk64 rfl
set_option maxRecDepth 100000 in
theorem zT64_252 : TT 64 252 L S M Q = TR (z_st (.dup) 1 252 L S M) 64 253 M Q := T_at zk64 rfl
set_option maxRecDepth 100000 in
theorem zT64_253 : TT 64 253 L S M Q = TR (z_st (.getfield 102) 3 253 L S M) 64 256 M Q := T_at zk64 rfl
set_option maxRecDepth 100000 in
theorem zT64_256 : TT 64 256 L S M Q = TR (z_st (.iload 11) 2 256 L S M) 64 258 M Q := T_at zk64 rfl
set_option maxRecDepth 100000 in
theorem zT64_258 : TT 64 258 L S M Q = TR (z_st (.iload 12) 2 258 L S M) 64 260 M Q := T_at zk64 rfl
set_option maxRecDepth 100000 in
theorem zT64_260 : TT 64 260 L S M Q = TR (z_st (.invokestatic 5) 3 260 L S M) 64 263 M Q := T_at zk64 rfl
set_option maxRecDepth 100000 in
theorem zT64_263 : TT 64 263 L S M Q = TR (z_st (.ifCond .eq 279) 3 263 L S M) 64 266 M Q := T_at zk64 rfl
set_option maxRecDepth 100000 in
theorem zT64_266 : TT 64 266 L S M Q = TR (z_st (.aload 0) 1 266 L S M) 64 267 M Q := T_at zk64 rfl
set_option maxRecDepth 100000 in
theorem zT64_267 : TT 64 267 L S M Q = TR (z_st (.fload 71) 3 267 L S M) 64 270 M Q := T_at zk64 rfl
set_option maxRecDepth 100000 in
theorem zT64_270 : TT 64 270 L S M Q = TR (z_st (.iconst 7) 2 270 L S M) 64 272 M Q := T_at zk64 rfl
set_option maxRecDepth 100000 in
theorem zT64_272 : TT 64 272 L S M Q = TR (z_st (.iload 12) 2 272 L S M) 64 274 M Q := T_at zk64 rfl
set_option maxRecDepth 100000 in
theorem zT64_274 : TT 64 274 L S M Q = TR (z_st (.iadd) 1 274 L S M) 64 275 M Q := T_at zk64 rfl
set_option maxRecDepth 100000 in
theorem zT64_275 : TT 64 275 L S M Q = TR (z_st (.iaload) 1 275 L S M) 64 276 M Q := T_at zk64 rfl
set_option maxRecDepth 100000 in
theorem zT64_276 : TT 64 276 L S M Q = TR (z_st (.goto 280) 3 276 L S M) 64 279 M Q := T_at zk64 rfl
set_option maxRecDepth 100000 in
theorem zT64_279 : TT 64 279 L S M Q = TR (z_st (.iconst 0) 1 279 L S M) 64 280 M Q := T_at zk64 rfl
set_option maxRecDepth 100000 in
theorem zT64_280 : TT 64 280 L S M Q = TR (z_st (.iadd) 1 280 L S M) 64 281 M Q := T_at zk64 rfl
set_option maxRecDepth 100000 in
theorem zT64_281 : TT 64 281 L S M Q = TR (z_st (.putfield 102) 3 281 L S M) 64 284 M Q := T_at zk64 rfl
set_option maxRecDepth 100000 in
theorem zT64_284 : TT 64 284 L S M Q = TR (z_st (.iinc 12 1) 3 284 L S M) 64 287 M Q := T_at zk64 rfl
set_option maxRecDepth 100000 in
theorem zT64_287 : TT 64 287 L S M Q = TR (z_st (.goto 240) 3 287 L S M) 64 290 M Q := T_at zk64 rfl
set_option maxRecDepth 100000 in
theorem zT64_290 : TT 64 290 L S M Q = TR (z_st (.iload 6) 2 290 L S M) 64 292 M Q := T_at zk64 rfl
set_option maxRecDepth 100000 in
theorem zT64_292 : TT 64 292 L S M Q = TR (z_st (.iload 10) 2 292 L S M) 64 294 M Q := T_at zk64 rfl
set_option maxRecDepth 100000 in
theorem zT64_294 : TT 64 294 L S M Q = TR (z_st (.invokestatic 45) 3 294 L S M) 64 297 M Q := T_at zk64 rfl
set_option maxRecDepth 100000 in
theorem zT64_297 : TT 64 297 L S M Q = TR (z_st (.istore 6) 2 297 L S M) 64 299 M Q := T_at zk64 rfl
set_option maxRecDepth 100000 in
theorem zT64_299 : TT 64 299 L S M Q = TR (z_st (.iinc 9 1) 3 299 L S M) 64 302 M Q := T_at zk64 rfl
set_option maxRecDepth 100000 in
theorem zT64_302 : TT 64 302 L S M Q = TR (z_st (.goto 33) 3 302 L S M) 64 305 M Q := T_at zk64 rfl
set_option maxRecDepth 100000 in
theorem zT64_305 : TT 64 305 L S M Q = TR (z_st (.return_) 1 305 L S M) 64 306 M Q := T_at zk64 rfl
theorem zk65 : z_coL.getD 65 [] = zc65 := rfl
theorem zT65_0 : TT 65 0 L S M Q = TR (z_st (.iload 1) 1 0 L S M) 65 1 M Q := T_at zk65 rfl
theorem zT65_1 : TT 65 1 L S M Q = TR (z_st (.i2l) 1 1 L S M) 65 2 M Q := T_at zk65 rfl
theorem zT65_2 : TT 65 2 L S M Q = TR (z_st (.ldc2_w 0) 1 2 L S M) 65 3 M Q := T_at zk65 rfl
theorem zT65_3 : TT 65 3 L S M Q = TR (z_st (.ldc2_w 20) 3 3 L S M) 65 6 M Q := T_at zk65 rfl
theorem zT65_6 : TT 65 6 L S M Q = TR (z_st (.invokestatic 2) 3 6 L S M) 65 9 M Q := T_at zk65 rfl
theorem zT65_9 : TT 65 9 L S M Q = TR (z_st (.ifCond .ne 19) 3 9 L S M) 65 12 M Q := T_at zk65 rfl
theorem zT65_12 : TT 65 12 L S M Q = TR (z_st (.aload 0) 1 12 L S M) 65 13 M Q := T_at zk65 rfl
theorem zT65_13 : TT 65 13 L S M Q = TR (z_st (.iconst (-2)) 2 13 L S M) 65 15 M Q := T_at zk65 rfl
theorem zT65_15 : TT 65 15 L S M Q = TR (z_st (.invokevirtual 3) 3 15 L S M) 65 18 M Q := T_at zk65 rfl
theorem zT65_18 : TT 65 18 L S M Q = TR (z_st (.ret 0) 1 18 L S M) 65 19 M Q := T_at zk65 rfl
theorem zT65_19 : TT 65 19 L S M Q = TR (z_st (.aload 0) 1 19 L S M) 65 20 M Q := T_at zk65 rfl
theorem zT65_20 : TT 65 20 L S M Q = TR (z_st (.invokevirtual 49) 3 20 L S M) 65 23 M Q := T_at zk65 rfl
theorem zT65_23 : TT 65 23 L S M Q = TR (z_st (.istore 2) 1 23 L S M) 65 24 M Q := T_at zk65 rfl
theorem zT65_24 : TT 65 24 L S M Q = TR (z_st (.iload 2) 1 24 L S M) 65 25 M Q := T_at zk65 rfl
theorem zT65_25 : TT 65 25 L S M Q = TR (z_st (.iconst (-1)) 1 25 L S M) 65 26 M Q := T_at zk65 rfl
theorem zT65_26 : TT 65 26 L S M Q = TR (z_st (.if_icmp .ne 36) 3 26 L S M) 65 29 M Q := T_at zk65 rfl
theorem zT65_29 : TT 65 29 L S M Q = TR (z_st (.aload 0) 1 29 L S M) 65 30 M Q := T_at zk65 rfl
theorem zT65_30 : TT 65 30 L S M Q = TR (z_st (.iconst (-3)) 2 30 L S M) 65 32 M Q := T_at zk65 rfl
theorem zT65_32 : TT 65 32 L S M Q = TR (z_st (.invokevirtual 3) 3 32 L S M) 65 35 M Q := T_at zk65 rfl
theorem zT65_35 : TT 65 35 L S M Q = TR (z_st (.ret 0) 1 35 L S M) 65 36 M Q := T_at zk65 rfl
theorem zT65_36 : TT 65 36 L S M Q = TR (z_st (.aload 0) 1 36 L S M) 65 37 M Q := T_at zk65 rfl
theorem zT65_37 : TT 65 37 L S M Q = TR (z_st (.iload 2) 1 37 L S M) 65 38 M Q := T_at zk65 rfl
theorem zT65_38 : TT 65 38 L S M Q = TR (z_st (.iconst (-1)) 1 38 L S M) 65 39 M Q := T_at zk65 rfl
theorem zT65_39 : TT 65 39 L S M Q = TR (z_st (.iconst 0) 1 39 L S M) 65 40 M Q := T_at zk65 rfl
theorem zT65_40 : TT 65 40 L S M Q = TR (z_st (.ldc2_w 0) 1 40 L S M) 65 41 M Q := T_at zk65 rfl
theorem zT65_41 : TT 65 41 L S M Q = TR (z_st (.invokevirtual 64) 3 41 L S M) 65 44 M Q := T_at zk65 rfl
theorem zT65_44 : TT 65 44 L S M Q = TR (z_st (.aload 0) 1 44 L S M) 65 45 M Q := T_at zk65 rfl
theorem zT65_45 : TT 65 45 L S M Q = TR (z_st (.iconst 20) 2 45 L S M) 65 47 M Q := T_at zk65 rfl
theorem zT65_47 : TT 65 47 L S M Q = TR (z_st (.iload 1) 1 47 L S M) 65 48 M Q := T_at zk65 rfl
theorem zT65_48 : TT 65 48 L S M Q = TR (z_st (.isub) 1 48 L S M) 65 49 M Q := T_at zk65 rfl
theorem zT65_49 : TT 65 49 L S M Q = TR (z_st (.iconst 20) 2 49 L S M) 65 51 M Q := T_at zk65 rfl
theorem zT65_51 : TT 65 51 L S M Q = TR (z_st (.aload 0) 1 51 L S M) 65 52 M Q := T_at zk65 rfl
theorem zT65_52 : TT 65 52 L S M Q = TR (z_st (.getfield 100) 3 52 L S M) 65 55 M Q := T_at zk65 rfl
theorem zT65_55 : TT 65 55 L S M Q = TR (z_st (.invokevirtual 63) 3 55 L S M) 65 58 M Q := T_at zk65 rfl
theorem zT65_58 : TT 65 58 L S M Q = TR (z_st (.ret 0) 1 58 L S M) 65 59 M Q := T_at zk65 rfl
theorem zk66 : z_coL.getD 66 [] = zc66 := rfl
theorem zT66_0 : TT 66 0 L S M Q = TR (z_st (.iload 1) 1 0 L S M) 66 1 M Q := T_at zk66 rfl
theorem zT66_1 : TT 66 1 L S M Q = TR (z_st (.i2l) 1 1 L S M) 66 2 M Q := T_at zk66 rfl
theorem zT66_2 : TT 66 2 L S M Q = TR (z_st (.ldc2_w 0) 1 2 L S M) 66 3 M Q := T_at zk66 rfl
theorem zT66_3 : TT 66 3 L S M Q = TR (z_st (.ldc2_w 20) 3 3 L S M) 66 6 M Q := T_at zk66 rfl
theorem zT66_6 : TT 66 6 L S M Q = TR (z_st (.invokestatic 2) 3 6 L S M) 66 9 M Q := T_at zk66 rfl
theorem zT66_9 : TT 66 9 L S M Q = TR (z_st (.ifCond .eq 24) 3 9 L S M) 66 12 M Q := T_at zk66 rfl
theorem zT66_12 : TT 66 12 L S M Q = TR (z_st (.iload 2) 1 12 L S M) 66 13 M Q := T_at zk66 rfl
theorem zT66_13 : TT 66 13 L S M Q = TR (z_st (.i2l) 1 13 L S M) 66 14 M Q := T_at zk66 rfl
theorem zT66_14 : TT 66 14 L S M Q = TR (z_st (.ldc2_w 0) 1 14 L S M) 66 15 M Q := T_at zk66 rfl
theorem zT66_15 : TT 66 15 L S M Q = TR (z_st (.ldc2_w 999999) 3 15 L S M) 66 18 M Q := T_at zk66 rfl
theorem zT66_18 : TT 66 18 L S M Q = TR (z_st (.invokestatic 2) 3 18 L S M) 66 21 M Q := T_at zk66 rfl
theorem zT66_21 : TT 66 21 L S M Q = TR (z_st (.ifCond .ne 31) 3 21 L S M) 66 24 M Q := T_at zk66 rfl
theorem zT66_24 : TT 66 24 L S M Q = TR (z_st (.aload 0) 1 24 L S M) 66 25 M Q := T_at zk66 rfl
theorem zT66_25 : TT 66 25 L S M Q = TR (z_st (.iconst (-10)) 2 25 L S M) 66 27 M Q := T_at zk66 rfl
theorem zT66_27 : TT 66 27 L S M Q = TR (z_st (.invokevirtual 4) 3 27 L S M) 66 30 M Q := T_at zk66 rfl
theorem zT66_30 : TT 66 30 L S M Q = TR (z_st (.ret 0) 1 30 L S M) 66 31 M Q := T_at zk66 rfl
theorem zT66_31 : TT 66 31 L S M Q = TR (z_st (.aload 0) 1 31 L S M) 66 32 M Q := T_at zk66 rfl
theorem zT66_32 : TT 66 32 L S M Q = TR (z_st (.invokevirtual 49) 3 32 L S M) 66 35 M Q := T_at zk66 rfl
theorem zT66_35 : TT 66 35 L S M Q = TR (z_st (.istore 3) 1 35 L S M) 66 36 M Q := T_at zk66 rfl
theorem zT66_36 : TT 66 36 L S M Q = TR (z_st (.iload 3) 1 36 L S M) 66 37 M Q := T_at zk66 rfl
theorem zT66_37 : TT 66 37 L S M Q = TR (z_st (.iconst (-1)) 1 37 L S M) 66 38 M Q := T_at zk66 rfl
theorem zT66_38 : TT 66 38 L S M Q = TR (z_st (.if_icmp .ne 48) 3 38 L S M) 66 41 M Q := T_at zk66 rfl
theorem zT66_41 : TT 66 41 L S M Q = TR (z_st (.aload 0) 1 41 L S M) 66 42 M Q := T_at zk66 rfl
theorem zT66_42 : TT 66 42 L S M Q = TR (z_st (.iconst (-20)) 2 42 L S M) 66 44 M Q := T_at zk66 rfl
theorem zT66_44 : TT 66 44 L S M Q = TR (z_st (.invokevirtual 4) 3 44 L S M) 66 47 M Q := T_at zk66 rfl
theorem zT66_47 : TT 66 47 L S M Q = TR (z_st (.ret 0) 1 47 L S M) 66 48 M Q := T_at zk66 rfl
theorem zT66_48 : TT 66 48 L S M Q = TR (z_st (.aload 0) 1 48 L S M) 66 49 M Q := T_at zk66 rfl
theorem zT66_49 : TT 66 49 L S M Q = TR (z_st (.iload 3) 1 49 L S M) 66 50 M Q := T_at zk66 rfl
theorem zT66_50 : TT 66 50 L S M Q = TR (z_st (.iconst (-1)) 1 50 L S M) 66 51 M Q := T_at zk66 rfl
theorem zT66_51 : TT 66 51 L S M Q = TR (z_st (.iload 1) 1 51 L S M) 66 52 M Q := T_at zk66 rfl
theorem zT66_52 : TT 66 52 L S M Q = TR (z_st (.iload 2) 1 52 L S M) 66 53 M Q := T_at zk66 rfl
theorem zT66_53 : TT 66 53 L S M Q = TR (z_st (.i2l) 1 53 L S M) 66 54 M Q := T_at zk66 rfl
theorem zT66_54 : TT 66 54 L S M Q = TR (z_st (.invokevirtual 64) 3 54 L S M) 66 57 M Q := T_at zk66 rfl
theorem zT66_57 : TT 66 57 L S M Q = TR (z_st (.aload 0) 1 57 L S M) 66 58 M Q := T_at zk66 rfl
theorem zT66_58 : TT 66 58 L S M Q = TR (z_st (.getfield 103) 3 58 L S M) 66 61 M Q := T_at zk66 rfl
theorem zT66_61 : TT 66 61 L S M Q = TR (z_st (.ret 0) 1 61 L S M) 66 62 M Q := T_at zk66 rfl
theorem zk67 : z_coL.getD 67 [] = zc67 := rfl
theorem zT67_0 : TT 67 0 L S M Q = TR (z_st (.aload 0) 1 0 L S M) 67 1 M Q := T_at zk67 rfl
theorem zT67_1 : TT 67 1 L S M Q = TR (z_st (.iload 1) 1 1 L S M) 67 2 M Q := T_at zk67 rfl
theorem zT67_2 : TT 67 2 L S M Q = TR (z_st (.invokevirtual 21) 3 2 L S M) 67 5 M Q := T_at zk67 rfl
theorem zT67_5 : TT 67 5 L S M Q = TR (z_st (.ifCond .ne 15) 3 5 L S M) 67 8 M Q := T_at zk67 rfl
theorem zT67_8 : TT 67 8 L S M Q = TR (z_st (.aload 0) 1 8 L S M) 67 9 M Q := T_at zk67 rfl
theorem zT67_9 : TT 67 9 L S M Q = TR (z_st (.iconst (-2)) 2 9 L S M) 67 11 M Q := T_at zk67 rfl
theorem zT67_11 : TT 67 11 L S M Q = TR (z_st (.invokevirtual 3) 3 11 L S M) 67 14 M Q := T_at zk67 rfl
theorem zT67_14 : TT 67 14 L S M Q = TR (z_st (.ret 0) 1 14 L S M) 67 15 M Q := T_at zk67 rfl
theorem zT67_15 : TT 67 15 L S M Q = TR (z_st (.aload 0) 1 15 L S M) 67 16 M Q := T_at zk67 rfl
theorem zT67_16 : TT 67 16 L S M Q = TR (z_st (.invokevirtual 49) 3 16 L S M) 67 19 M Q := T_at zk67 rfl
theorem zT67_19 : TT 67 19 L S M Q = TR (z_st (.istore 2) 1 19 L S M) 67 20 M Q := T_at zk67 rfl
theorem zT67_20 : TT 67 20 L S M Q = TR (z_st (.iload 2) 1 20 L S M) 67 21 M Q := T_at zk67 rfl
theorem zT67_21 : TT 67 21 L S M Q = TR (z_st (.iconst (-1)) 1 21 L S M) 67 22 M Q := T_at zk67 rfl
theorem zT67_22 : TT 67 22 L S M Q = TR (z_st (.if_icmp .ne 32) 3 22 L S M) 67 25 M Q := T_at zk67 rfl
theorem zT67_25 : TT 67 25 L S M Q = TR (z_st (.aload 0) 1 25 L S M) 67 26 M Q := T_at zk67 rfl
theorem zT67_26 : TT 67 26 L S M Q = TR (z_st (.iconst (-3)) 2 26 L S M) 67 28 M Q := T_at zk67 rfl
theorem zT67_28 : TT 67 28 L S M Q = TR (z_st (.invokevirtual 3) 3 28 L S M) 67 31 M Q := T_at zk67 rfl
theorem zT67_31 : TT 67 31 L S M Q = TR (z_st (.ret 0) 1 31 L S M) 67 32 M Q := T_at zk67 rfl
theorem zT67_32 : TT 67 32 L S M Q = TR (z_st (.aload 0) 1 32 L S M) 67 33 M Q := T_at zk67 rfl
theorem zT67_33 : TT 67 33 L S M Q = TR (z_st (.iload 2) 1 33 L S M) 67 34 M Q := T_at zk67 rfl
theorem zT67_34 : TT 67 34 L S M Q = TR (z_st (.iload 1) 1 34 L S M) 67 35 M Q := T_at zk67 rfl
theorem zT67_35 : TT 67 35 L S M Q = TR (z_st (.iconst 0) 1 35 L S M) 67 36 M Q := T_at zk67 rfl
theorem zT67_36 : TT 67 36 L S M Q = TR (z_st (.ldc2_w 0) 1 36 L S M) 67 37 M Q := T_at zk67 rfl
theorem zT67_37 : TT 67 37 L S M Q = TR (z_st (.invokevirtual 64) 3 37 L S M) 67 40 M Q := T_at zk67 rfl
theorem zT67_40 : TT 67 40 L S M Q = TR (z_st (.aload 0) 1 40 L S M) 67 41 M Q := T_at zk67 rfl
theorem zT67_41 : TT 67 41 L S M Q = TR (z_st (.aload 0) 1 41 L S M) 67 42 M Q := T_at zk67 rfl
theorem zT67_42 : TT 67 42 L S M Q = TR (z_st (.getfield 101) 3 42 L S M) 67 45 M Q := T_at zk67 rfl
theorem zT67_45 : TT 67 45 L S M Q = TR (z_st (.aload 0) 1 45 L S M) 67 46 M Q := T_at zk67 rfl
theorem zT67_46 : TT 67 46 L S M Q = TR (z_st (.getfield 100) 3 46 L S M) 67 49 M Q := T_at zk67 rfl
theorem zT67_49 : TT 67 49 L S M Q = TR (z_st (.ifCond .ne 56) 3 49 L S M) 67 52 M Q := T_at zk67 rfl
theorem zT67_52 : TT 67 52 L S M Q = TR (z_st (.iconst 1) 1 52 L S M) 67 53 M Q := T_at zk67 rfl
theorem zT67_53 : TT 67 53 L S M Q = TR (z_st (.goto 60) 3 53 L S M) 67 56 M Q := T_at zk67 rfl
theorem zT67_56 : TT 67 56 L S M Q = TR (z_st (.aload 0) 1 56 L S M) 67 57 M Q := T_at zk67 rfl
theorem zT67_57 : TT 67 57 L S M Q = TR (z_st (.getfield 100) 3 57 L S M) 67 60 M Q := T_at zk67 rfl
theorem zT67_60 : TT 67 60 L S M Q = TR (z_st (.iconst 1) 1 60 L S M) 67 61 M Q := T_at zk67 rfl
theorem zT67_61 : TT 67 61 L S M Q = TR (z_st (.invokevirtual 63) 3 61 L S M) 67 64 M Q := T_at zk67 rfl
theorem zT67_64 : TT 67 64 L S M Q = TR (z_st (.ret 0) 1 64 L S M) 67 65 M Q := T_at zk67 rfl
theorem zk68 : z_coL.getD 68 [] = zc68 := rfl
theorem zT68_0 : TT 68 0 L S M Q = TR (z_st (.aload 0) 1 0 L S M) 68 1 M Q := T_at zk68 rfl
theorem zT68_1 : TT 68 1 L S M Q = TR (z_st (.invokevirtual 49) 3 1 L S M) 68 4 M Q := T_at zk68 rfl
theorem zT68_4 : TT 68 4 L S M Q = TR (z_st (.istore 1) 1 4 L S M) 68 5 M Q := T_at zk68 rfl
theorem zT68_5 : TT 68 5 L S M Q = TR (z_st (.iload 1) 1 5 L S M) 68 6 M Q := T_at zk68 rfl
theorem zT68_6 : TT 68 6 L S M Q = TR (z_st (.iconst (-1)) 1 6 L S M) 68 7 M Q := T_at zk68 rfl
theorem zT68_7 : TT 68 7 L S M Q = TR (z_st (.if_icmp .ne 12) 3 7 L S M) 68 10 M Q := T_at zk68 rfl
theorem zT68_10 : TT 68 10 L S M Q = TR (z_st (.iconst (-1)) 1 10 L S M) 68 11 M Q := T_at zk68 rfl
theorem zT68_11 : TT 68 11 L S M Q = TR (z_st (.ret 0) 1 11 L S M) 68 12 M Q := T_at zk68 rfl
theorem zT68_12 : TT 68 12 L S M Q = TR (z_st (.aload 0) 1 12 L S M) 68 13 M Q := T_at zk68 rfl
theorem zT68_13 : TT 68 13 L S M Q = TR (z_st (.iload 1) 1 13 L S M) 68 14 M Q := T_at zk68 rfl
theorem zT68_14 : TT 68 14 L S M Q = TR (z_st (.iconst (-1)) 1 14 L S M) 68 15 M Q := T_at zk68 rfl
theorem zT68_15 : TT 68 15 L S M Q = TR (z_st (.iconst 0) 1 15 L S M) 68 16 M Q := T_at zk68 rfl
theorem zT68_16 : TT 68 16 L S M Q = TR (z_st (.ldc2_w 0) 1 16 L S M) 68 17 M Q := T_at zk68 rfl
theorem zT68_17 : TT 68 17 L S M Q = TR (z_st (.invokevirtual 64) 3 17 L S M) 68 20 M Q := T_at zk68 rfl
theorem zT68_20 : TT 68 20 L S M Q = TR (z_st (.aload 0) 1 20 L S M) 68 21 M Q := T_at zk68 rfl
theorem zT68_21 : TT 68 21 L S M Q = TR (z_st (.getfield 102) 3 21 L S M) 68 24 M Q := T_at zk68 rfl
theorem zT68_24 : TT 68 24 L S M Q = TR (z_st (.ret 0) 1 24 L S M) 68 25 M Q := T_at zk68 rfl
theorem zk69 : z_coL.getD 69 [] = zc69 := rfl
theorem zT69_0 : TT 69 0 L S M Q = TR (z_st (.iload 1) 1 0 L S M) 69 1 M Q := T_at zk69 rfl
theorem zT69_1 : TT 69 1 L S M Q = TR (z_st (.i2l) 1 1 L S M) 69 2 M Q := T_at zk69 rfl
theorem zT69_2 : TT 69 2 L S M Q = TR (z_st (.ldc2_w 1) 1 2 L S M) 69 3 M Q := T_at zk69 rfl
theorem zT69_3 : TT 69 3 L S M Q = TR (z_st (.aload 0) 1 3 L S M) 69 4 M Q := T_at zk69 rfl
theorem zT69_4 : TT 69 4 L S M Q = TR (z_st (.invokevirtual 48) 3 4 L S M) 69 7 M Q := T_at zk69 rfl
theorem zT69_7 : TT 69 7 L S M Q = TR (z_st (.i2l) 1 7 L S M) 69 8 M Q := T_at zk69 rfl
theorem zT69_8 : TT 69 8 L S M Q = TR (z_st (.invokestatic 2) 3 8 L S M) 69 11 M Q := T_at zk69 rfl
theorem zT69_11 : TT 69 11 L S M Q = TR (z_st (.ifCond .ne 21) 3 11 L S M) 69 14 M Q := T_at zk69 rfl
theorem zT69_14 : TT 69 14 L S M Q = TR (z_st (.aload 0) 1 14 L S M) 69 15 M Q := T_at zk69 rfl
theorem zT69_15 : TT 69 15 L S M Q = TR (z_st (.iconst (-2)) 2 15 L S M) 69 17 M Q := T_at zk69 rfl
theorem zT69_17 : TT 69 17 L S M Q = TR (z_st (.invokevirtual 3) 3 17 L S M) 69 20 M Q := T_at zk69 rfl
theorem zT69_20 : TT 69 20 L S M Q = TR (z_st (.ret 0) 1 20 L S M) 69 21 M Q := T_at zk69 rfl
theorem zT69_21 : TT 69 21 L S M Q = TR (z_st (.aload 0) 1 21 L S M) 69 22 M Q := T_at zk69 rfl
theorem zT69_22 : TT 69 22 L S M Q = TR (z_st (.iconst (-1)) 1 22 L S M) 69 23 M Q := T_at zk69 rfl
theorem zT69_23 : TT 69 23 L S M Q = TR (z_st (.aload 0) 1 23 L S M) 69 24 M Q := T_at zk69 rfl
theorem zT69_24 : TT 69 24 L S M Q = TR (z_st (.fload 71) 3 24 L S M) 69 27 M Q := T_at zk69 rfl
theorem zT69_27 : TT 69 27 L S M Q = TR (z_st (.iconst 54) 2 27 L S M) 69 29 M Q := T_at zk69 rfl
theorem zT69_29 : TT 69 29 L S M Q = TR (z_st (.iaload) 1 29 L S M) 69 30 M Q := T_at zk69 rfl
theorem zT69_30 : TT 69 30 L S M Q = TR (z_st (.iconst 1) 1 30 L S M) 69 31 M Q := T_at zk69 rfl
theorem zT69_31 : TT 69 31 L S M Q = TR (z_st (.if_icmp .ne 38) 3 31 L S M) 69 34 M Q := T_at zk69 rfl
theorem zT69_34 : TT 69 34 L S M Q = TR (z_st (.iconst 1) 1 34 L S M) 69 35 M Q := T_at zk69 rfl
theorem zT69_35 : TT 69 35 L S M Q = TR (z_st (.goto 39) 3 35 L S M) 69 38 M Q := T_at zk69 rfl
theorem zT69_38 : TT 69 38 L S M Q = TR (z_st (.iconst 0) 1 38 L S M) 69 39 M Q := T_at zk69 rfl
theorem zT69_39 : TT 69 39 L S M Q = TR (z_st (.invokevirtual 37) 3 39 L S M) 69 42 M Q := T_at zk69 rfl
theorem zT69_42 : TT 69 42 L S M Q = TR (z_st (.aload 0) 1 42 L S M) 69 43 M Q := T_at zk69 rfl
theorem zT69_43 : TT 69 43 L S M Q = TR (z_st (.aload 0) 1 43 L S M) 69 44 M Q := T_at zk69 rfl
theorem zT69_44 : TT 69 44 L S M Q = TR (z_st (.invokevirtual 48) 3 44 L S M) 69 47 M Q := T_at zk69 rfl
theorem zT69_47 : TT 69 47 L S M Q = TR (z_st (.invokevirtual 46) 3 47 L S M) 69 50 M Q := T_at zk69 rfl
theorem zT69_50 : TT 69 50 L S M Q = TR (z_st (.aload 0) 1 50 L S M) 69 51 M Q := T_at zk69 rfl
theorem zT69_51 : TT 69 51 L S M Q = TR (z_st (.fload 86) 3 51 L S M) 69 54 M Q := T_at zk69 rfl
theorem zT69_54 : TT 69 54 L S M Q = TR (z_st (.aload 0) 1 54 L S M) 69 55 M Q := T_at zk69 rfl
theorem zT69_55 : TT 69 55 L S M Q = TR (z_st (.invokevirtual 42) 3 55 L S M) 69 58 M Q := T_at zk69 rfl
theorem zT69_58 : TT 69 58 L S M Q = TR (z_st (.iaload) 1 58 L S M) 69 59 M Q := T_at zk69 rfl
theorem zT69_59 : TT 69 59 L S M Q = TR (z_st (.iload 1) 1 59 L S M) 69 60 M Q := T_at zk69 rfl
theorem zT69_60 : TT 69 60 L S M Q = TR (z_st (.invokestatic 5) 3 60 L S M) 69 63 M Q := T_at zk69 rfl
theorem zT69_63 : TT 69 63 L S M Q = TR (z_st (.ifCond .ne 73) 3 63 L S M) 69 66 M Q := T_at zk69 rfl
theorem zT69_66 : TT 69 66 L S M Q = TR (z_st (.aload 0) 1 66 L S M) 69 67 M Q := T_at zk69 rfl
theorem zT69_67 : TT 69 67 L S M Q = TR (z_st (.iconst (-3)) 2 67 L S M) 69 69 M Q := T_at zk69 rfl
theorem zT69_69 : TT 69 69 L S M Q = TR (z_st (.invokevirtual 3) 3 69 L S M) 69 72 M Q := T_at zk69 rfl
theorem zT69_72 : TT 69 72 L S M Q = TR (z_st (.ret 0) 1 72 L S M) 69 73 M Q := T_at zk69 rfl
theorem zT69_73 : TT 69 73 L S M Q = TR (z_st (.aload 0) 1 73 L S M) 69 74 M Q := T_at zk69 rfl
theorem zT69_74 : TT 69 74 L S M Q = TR (z_st (.fload 71) 3 74 L S M) 69 77 M Q := T_at zk69 rfl
theorem zT69_77 : TT 69 77 L S M Q = TR (z_st (.iconst 59) 2 77 L S M) 69 79 M Q := T_at zk69 rfl
theorem zT69_79 : TT 69 79 L S M Q = TR (z_st (.aload 0) 1 79 L S M) 69 80 M Q := T_at zk69 rfl
theorem zT69_80 : TT 69 80 L S M Q = TR (z_st (.fload 71) 3 80 L S M) 69 83 M Q := T_at zk69 rfl
theorem zT69_83 : TT 69 83 L S M Q = TR (z_st (.iconst 58) 2 83 L S M) 69 85 M Q := T_at zk69 rfl
theorem zT69_85 : TT 69 85 L S M Q = TR (z_st (.iaload) 1 85 L S M) 69 86 M Q := T_at zk69 rfl
theorem zT69_86 : TT 69 86 L S M Q = TR (z_st (.iadd) 1 86 L S M) 69 87 M Q := T_at zk69 rfl
theorem zT69_87 : TT 69 87 L S M Q = TR (z_st (.iload 1) 1 87 L S M) 69 88 M Q := T_at zk69 rfl
theorem zT69_88 : TT 69 88 L S M Q = TR (z_st (.iastore) 1 88 L S M) 69 89 M Q := T_at zk69 rfl
theorem zT69_89 : TT 69 89 L S M Q = TR (z_st (.aload 0) 1 89 L S M) 69 90 M Q := T_at zk69 rfl
theorem zT69_90 : TT 69 90 L S M Q = TR (z_st (.fload 71) 3 90 L S M) 69 93 M Q := T_at zk69 rfl
theorem zT69_93 : TT 69 93 L S M Q = TR (z_st (.iconst 58) 2 93 L S M) 69 95 M Q := T_at zk69 rfl
theorem zT69_95 : TT 69 95 L S M Q = TR (z_st (.dup2) 1 95 L S M) 69 96 M Q := T_at zk69 rfl
theorem zT69_96 : TT 69 96 L S M Q = TR (z_st (.iaload) 1 96 L S M) 69 97 M Q := T_at zk69 rfl
theorem zT69_97 : TT 69 97 L S M Q = TR (z_st (.iconst 1) 1 97 L S M) 69 98 M Q := T_at zk69 rfl
theorem zT69_98 : TT 69 98 L S M Q = TR (z_st (.iadd) 1 98 L S M) 69 99 M Q := T_at zk69 rfl
theorem zT69_99 : TT 69 99 L S M Q = TR (z_st (.iastore) 1 99 L S M) 69 100 M Q := T_at zk69 rfl
theorem zT69_100 : TT 69 100 L S M Q = TR (z_st (.iconst 0) 1 100 L S M) 69 101 M Q := T_at zk69 rfl
theorem zT69_101 : TT 69 101 L S M Q = TR (z_st (.istore 2) 1 101 L S M) 69 102 M Q := T_at zk69 rfl
theorem zT69_102 : TT 69 102 L S M Q = TR (z_st (.iconst 0) 1 102 L S M) 69 103 M Q := T_at zk69 rfl
theorem zT69_103 : TT 69 103 L S M Q = TR (z_st (.istore 3) 1 103 L S M) 69 104 M Q := T_at zk69 rfl
theorem zT69_104 : TT 69 104 L S M Q = TR (z_st (.iload 3) 1 104 L S M) 69 105 M Q := T_at zk69 rfl
theorem zT69_105 : TT 69 105 L S M Q = TR (z_st (.aload 0) 1 105 L S M) 69 106 M Q := T_at zk69 rfl
theorem zT69_106 : TT 69 106 L S M Q = TR (z_st (.fload 71) 3 106 L S M) 69 109 M Q := T_at zk69 rfl
theorem zT69_109 : TT 69 109 L S M Q = TR (z_st (.iconst 13) 2 109 L S M) 69 111 M Q := T_at zk69 rfl
theorem zT69_111 : TT 69 111 L S M Q = TR (z_st (.iaload) 1 111 L S M) 69 112 M Q := T_at zk69 rfl
theorem zT69_112 : TT 69 112 L S M Q = TR (z_st (.if_icmp .ge 172) 3 112 L S M) 69 115 M Q := T_at zk69 rfl
theorem zT69_115 : TT 69 115 L S M Q = TR (z_st (.aload 0) 1 115 L S M) 69 116 M Q := T_at zk69 rfl
theorem zT69_116 : TT 69 116 L S M Q = TR (z_st (.fload 71) 3 116 L S M) 69 119 M Q := T_at zk69 rfl
theorem zT69_119 : TT 69 119 L S M Q = TR (z_st (.iconst 55) 2 119 L S M) 69 121 M Q := T_at zk69 rfl
theorem zT69_121 : TT 69 121 L S M Q = TR (z_st (.iload 3) 1 121 L S M) 69 122 M Q := T_at zk69 rfl
theorem zT69_122 : TT 69 122 L S M Q = TR (z_st (.iadd) 1 122 L S M) 69 123 M Q := T_at zk69 rfl
theorem zT69_123 : TT 69 123 L S M Q = TR (z_st (.dup2) 1 123 L S M) 69 124 M Q := T_at zk69 rfl
theorem zT69_124 : TT 69 124 L S M Q = TR (z_st (.iaload) 1 124 L S M) 69 125 M Q := T_at zk69 rfl
theorem zT69_125 : TT 69 125 L S M Q = TR (z_st (.iload 1) 1 125 L S M) 69 126 M Q := T_at zk69 rfl
theorem zT69_126 : TT 69 126 L S M Q = TR (z_st (.iload 3) 1 126 L S M) 69 127 M Q := T_at zk69 rfl
theorem zT69_127 : TT 69 127 L S M Q = TR (z_st (.invokestatic 5) 3 127 L S M) 69 130 M Q := T_at zk69 rfl
theorem zT69_130 : TT 69 130 L S M Q = TR (z_st (.ifCond .eq 137) 3 130 L S M) 69 133 M Q := T_at zk69 rfl
theorem zT69_133 : TT 69 133 L S M Q = TR (z_st (.iconst 1) 1 133 L S M) 69 134 M Q := T_at zk69 rfl
theorem zT69_134 : TT 69 134 L S M Q = TR (z_st (.goto 138) 3 134 L S M) 69 137 M Q := T_at zk69 rfl
theorem zT69_137 : TT 69 137 L S M Q = TR (z_st (.iconst 0) 1 137 L S M) 69 138 M Q := T_at zk69 rfl
theorem zT69_138 : TT 69 138 L S M Q = TR (z_st (.iadd) 1 138 L S M) 69 139 M Q := T_at zk69 rfl
theorem zT69_139 : TT 69 139 L S M Q = TR (z_st (.iastore) 1 139 L S M) 69 140 M Q := T_at zk69 rfl
theorem zT69_140 : TT 69 140 L S M Q = TR (z_st (.iload 2) 1 140 L S M) 69 141 M Q := T_at zk69 rfl
theorem zT69_141 : TT 69 141 L S M Q = TR (z_st (.aload 0) 1 141 L S M) 69 142 M Q := T_at zk69 rfl
theorem zT69_142 : TT 69 142 L S M Q = TR (z_st (.fload 71) 3 142 L S M) 69 145 M Q := T_at zk69 rfl
theorem zT69_145 : TT 69 145 L S M Q = TR (z_st (.iconst 55) 2 145 L S M) 69 147 M Q := T_at zk69 rfl
theorem zT69_147 : TT 69 147 L S M Q = TR (z_st (.iload 3) 1 147 L S M) 69 148 M Q := T_at zk69 rfl
theorem zT69_148 : TT 69 148 L S M Q = TR (z_st (.iadd) 1 148 L S M) 69 149 M Q := T_at zk69 rfl
theorem zT69_149 : TT 69 149 L S M Q = TR (z_st (.iaload) 1 149 L S M) 69 150 M Q := T_at zk69 rfl
set_option maxRecDepth 100000 in
theorem zT69_150 : TT 69 150 L S M Q = TR (z_st (.aload 0) 1 150 L S M) 69 151 M Q := T_at zk69 rfl
set_option maxRecDepth 100000 in
theorem zT69_151 : TT 69 151 L S M Q = TR (z_st (.fload 88) 3 151 L S M) 69 154 M Q := T_at zk69 rfl
set_option maxRecDepth 100000 in
theorem zT69_154 : TT 69 154 L S M Q = TR (z_st (.iload 3) 1 154 L S M) 69 155 M Q := T_at zk69 rfl
set_option maxRecDepth 100000 in
theorem zT69_155 : TT 69 155 L S M Q = TR (z_st (.iaload) 1 155 L S M) 69 156 M Q := T_at zk69 rfl
set_option maxRecDepth 100000 in
theorem zT69_156 : TT 69 156 L S M Q = TR (z_st (.if_icmp .ne 163) 3 156 L S M) 69 159 M Q := T_at zk69 rfl
set_option maxRecDepth 100000 in
theorem zT69_159 : TT 69 159 L S M Q = TR (z_st (.iconst 1) 1 159 L S M) 69 160 M Q := T_at zk69 rfl
set_option maxRecDepth 100000 in
theorem zT69_160 : TT 69 160 L S M Q = TR (z_st (.goto 164) 3 160 L S M) 69 163 M Q := T_at zk69 rfl
set_option maxRecDepth 100000 in
theorem zT69_163 : TT 69 163 L S M Q = TR (z_st (.iconst 0) 1 163 L S M) 69 164 M Q := T_at zk69 rfl
set_option maxRecDepth 100000 in
theorem zT69_164 : TT 69 164 L S M Q = TR (z_st (.iadd) 1 164 L S M) 69 165 M Q := T_at zk69 rfl
set_option maxRecDepth 100000 in
theorem zT69_165 : TT 69 165 L S M Q = TR (z_st (.istore 2) 1 165 L S M) 69 166 M Q := T_at zk69 rfl
set_option maxRecDepth 100000 in
theorem zT69_166 : TT 69 166 L S M Q = TR (z_st (.iinc 3 1) 3 166 L S M) 69 169 M Q := T_at zk69 rfl
set_option maxRecDepth 100000 in
theorem zT69_169 : TT 69 169 L S M Q = TR (z_st (.goto 104) 3 169 L S M) 69 172 M Q := T_at zk69 rfl
set_option maxRecDepth 100000 in
theorem zT69_172 : TT 69 172 L S M Q = TR (z_st (.iload 2) 1 172 L S M) 69 173 M Q := T_at zk69 rfl
set_option maxRecDepth 100000 in
theorem zT69_173 : TT 69 173 L S M Q = TR (z_st (.ret 0) 1 173 L S M) 69 174 M Q := T_at zk69 rfl
theorem zk70 : z_coL.getD 70 [] = zc70 := rfl
theorem zT70_0 : TT 70 0 L S M Q = TR (z_st (.aload 0) 1 0 L S M) 70 1 M Q := T_at zk70 rfl
theorem zT70_1 : TT 70 1 L S M Q = TR (z_st (.fload 71) 3 1 L S M) 70 4 M Q := T_at zk70 rfl
theorem zT70_4 : TT 70 4 L S M Q = TR (z_st (.iconst 58) 2 4 L S M) 70 6 M Q := T_at zk70 rfl
theorem zT70_6 : TT 70 6 L S M Q = TR (z_st (.iaload) 1 6 L S M) 70 7 M Q := T_at zk70 rfl
theorem zT70_7 : TT 70 7 L S M Q = TR (z_st (.ifCond .ne 17) 3 7 L S M) 70 10 M Q := T_at zk70 rfl
theorem zT70_10 : TT 70 10 L S M Q = TR (z_st (.aload 0) 1 10 L S M) 70 11 M Q := T_at zk70 rfl
theorem zT70_11 : TT 70 11 L S M Q = TR (z_st (.iconst (-3)) 2 11 L S M) 70 13 M Q := T_at zk70 rfl
theorem zT70_13 : TT 70 13 L S M Q = TR (z_st (.invokevirtual 3) 3 13 L S M) 70 16 M Q := T_at zk70 rfl
theorem zT70_16 : TT 70 16 L S M Q = TR (z_st (.ret 0) 1 16 L S M) 70 17 M Q := T_at zk70 rfl
theorem zT70_17 : TT 70 17 L S M Q = TR (z_st (.aload 0) 1 17 L S M) 70 18 M Q := T_at zk70 rfl
theorem zT70_18 : TT 70 18 L S M Q = TR (z_st (.fload 71) 3 18 L S M) 70 21 M Q := T_at zk70 rfl
theorem zT70_21 : TT 70 21 L S M Q = TR (z_st (.iconst 58) 2 21 L S M) 70 23 M Q := T_at zk70 rfl
theorem zT70_23 : TT 70 23 L S M Q = TR (z_st (.dup2) 1 23 L S M) 70 24 M Q := T_at zk70 rfl
theorem zT70_24 : TT 70 24 L S M Q = TR (z_st (.iaload) 1 24 L S M) 70 25 M Q := T_at zk70 rfl
theorem zT70_25 : TT 70 25 L S M Q = TR (z_st (.iconst 1) 1 25 L S M) 70 26 M Q := T_at zk70 rfl
theorem zT70_26 : TT 70 26 L S M Q = TR (z_st (.isub) 1 26 L S M) 70 27 M Q := T_at zk70 rfl
theorem zT70_27 : TT 70 27 L S M Q = TR (z_st (.iastore) 1 27 L S M) 70 28 M Q := T_at zk70 rfl
theorem zT70_28 : TT 70 28 L S M Q = TR (z_st (.iconst 0) 1 28 L S M) 70 29 M Q := T_at zk70 rfl
theorem zT70_29 : TT 70 29 L S M Q = TR (z_st (.istore 1) 1 29 L S M) 70 30 M Q := T_at zk70 rfl
theorem zT70_30 : TT 70 30 L S M Q = TR (z_st (.iload 1) 1 30 L S M) 70 31 M Q := T_at zk70 rfl
theorem zT70_31 : TT 70 31 L S M Q = TR (z_st (.aload 0) 1 31 L S M) 70 32 M Q := T_at zk70 rfl
theorem zT70_32 : TT 70 32 L S M Q = TR (z_st (.fload 71) 3 32 L S M) 70 35 M Q := T_at zk70 rfl
theorem zT70_35 : TT 70 35 L S M Q = TR (z_st (.iconst 13) 2 35 L S M) 70 37 M Q := T_at zk70 rfl
theorem zT70_37 : TT 70 37 L S M Q = TR (z_st (.iaload) 1 37 L S M) 70 38 M Q := T_at zk70 rfl
theorem zT70_38 : TT 70 38 L S M Q = TR (z_st (.if_icmp .ge 86) 3 38 L S M) 70 41 M Q := T_at zk70 rfl
theorem zT70_41 : TT 70 41 L S M Q = TR (z_st (.aload 0) 1 41 L S M) 70 42 M Q := T_at zk70 rfl
theorem zT70_42 : TT 70 42 L S M Q = TR (z_st (.fload 71) 3 42 L S M) 70 45 M Q := T_at zk70 rfl
theorem zT70_45 : TT 70 45 L S M Q = TR (z_st (.iconst 55) 2 45 L S M) 70 47 M Q := T_at zk70 rfl
theorem zT70_47 : TT 70 47 L S M Q = TR (z_st (.iload 1) 1 47 L S M) 70 48 M Q := T_at zk70 rfl
theorem zT70_48 : TT 70 48 L S M Q = TR (z_st (.iadd) 1 48 L S M) 70 49 M Q := T_at zk70 rfl
theorem zT70_49 : TT 70 49 L S M Q = TR (z_st (.dup2) 1 49 L S M) 70 50 M Q := T_at zk70 rfl
theorem zT70_50 : TT 70 50 L S M Q = TR (z_st (.iaload) 1 50 L S M) 70 51 M Q := T_at zk70 rfl
theorem zT70_51 : TT 70 51 L S M Q = TR (z_st (.aload 0) 1 51 L S M) 70 52 M Q := T_at zk70 rfl
theorem zT70_52 : TT 70 52 L S M Q = TR (z_st (.fload 71) 3 52 L S M) 70 55 M Q := T_at zk70 rfl
theorem zT70_55 : TT 70 55 L S M Q = TR (z_st (.iconst 59) 2 55 L S M) 70 57 M Q := T_at zk70 rfl
theorem zT70_57 : TT 70 57 L S M Q = TR (z_st (.aload 0) 1 57 L S M) 70 58 M Q := T_at zk70 rfl
theorem zT70_58 : TT 70 58 L S M Q = TR (z_st (.fload 71) 3 58 L S M) 70 61 M Q := T_at zk70 rfl
theorem zT70_61 : TT 70 61 L S M Q = TR (z_st (.iconst 58) 2 61 L S M) 70 63 M Q := T_at zk70 rfl
theorem zT70_63 : TT 70 63 L S M Q = TR (z_st (.iaload) 1 63 L S M) 70 64 M Q := T_at zk70 rfl
theorem zT70_64 : TT 70 64 L S M Q = TR (z_st (.iadd) 1 64 L S M) 70 65 M Q := T_at zk70 rfl
theorem zT70_65 : TT 70 65 L S M Q = TR (z_st (.iaload) 1 65 L S M) 70 66 M Q := T_at zk70 rfl
theorem zT70_66 : TT 70 66 L S M Q = TR (z_st (.iload 1) 1 66 L S M) 70 67 M Q := T_at zk70 rfl
theorem zT70_67 : TT 70 67 L S M Q = TR (z_st (.invokestatic 5) 3 67 L S M) 70 70 M Q := T_at zk70 rfl
theorem zT70_70 : TT 70 70 L S M Q = TR (z_st (.ifCond .eq 77) 3 70 L S M) 70 73 M Q := T_at zk70 rfl
theorem zT70_73 : TT 70 73 L S M Q = TR (z_st (.iconst 1) 1 73 L S M) 70 74 M Q := T_at zk70 rfl
theorem zT70_74 : TT 70 74 L S M Q = TR (z_st (.goto 78) 3 74 L S M) 70 77 M Q := T_at zk70 rfl
theorem zT70_77 : TT 70 77 L S M Q = TR (z_st (.iconst 0) 1 77 L S M) 70 78 M Q := T_at zk70 rfl
theorem zT70_78 : TT 70 78 L S M Q = TR (z_st (.isub) 1 78 L S M) 70 79 M Q := T_at zk70 rfl
theorem zT70_79 : TT 70 79 L S M Q = TR (z_st (.iastore) 1 79 L S M) 70 80 M Q := T_at zk70 rfl
theorem zT70_80 : TT 70 80 L S M Q = TR (z_st (.iinc 1 1) 3 80 L S M) 70 83 M Q := T_at zk70 rfl
theorem zT70_83 : TT 70 83 L S M Q = TR (z_st (.goto 30) 3 83 L S M) 70 86 M Q := T_at zk70 rfl
theorem zT70_86 : TT 70 86 L S M Q = TR (z_st (.iconst 1) 1 86 L S M) 70 87 M Q := T_at zk70 rfl
theorem zT70_87 : TT 70 87 L S M Q = TR (z_st (.ret 0) 1 87 L S M) 70 88 M Q := T_at zk70 rfl
theorem zk71 : z_coL.getD 71 [] = zc71 := rfl
theorem zT71_0 : TT 71 0 L S M Q = TR (z_st (.aload 0) 1 0 L S M) 71 1 M Q := T_at zk71 rfl
theorem zT71_1 : TT 71 1 L S M Q = TR (z_st (.iload 1) 1 1 L S M) 71 2 M Q := T_at zk71 rfl
theorem zT71_2 : TT 71 2 L S M Q = TR (z_st (.aload 0) 1 2 L S M) 71 3 M Q := T_at zk71 rfl
theorem zT71_3 : TT 71 3 L S M Q = TR (z_st (.fload 71) 3 3 L S M) 71 6 M Q := T_at zk71 rfl
theorem zT71_6 : TT 71 6 L S M Q = TR (z_st (.iconst 55) 2 6 L S M) 71 8 M Q := T_at zk71 rfl
theorem zT71_8 : TT 71 8 L S M Q = TR (z_st (.iload 1) 1 8 L S M) 71 9 M Q := T_at zk71 rfl
theorem zT71_9 : TT 71 9 L S M Q = TR (z_st (.iadd) 1 9 L S M) 71 10 M Q := T_at zk71 rfl
theorem zT71_10 : TT 71 10 L S M Q = TR (z_st (.iaload) 1 10 L S M) 71 11 M Q := T_at zk71 rfl
theorem zT71_11 : TT 71 11 L S M Q = TR (z_st (.invokevirtual 40) 3 11 L S M) 71 14 M Q := T_at zk71 rfl
theorem zT71_14 : TT 71 14 L S M Q = TR (z_st (.istore 3) 1 14 L S M) 71 15 M Q := T_at zk71 rfl
theorem zT71_15 : TT 71 15 L S M Q = TR (z_st (.iload 2) 1 15 L S M) 71 16 M Q := T_at zk71 rfl
theorem zT71_16 : TT 71 16 L S M Q = TR (z_st (.ifCond .ne 26) 3 16 L S M) 71 19 M Q := T_at zk71 rfl
theorem zT71_19 : TT 71 19 L S M Q = TR (z_st (.iload 3) 1 19 L S M) 71 20 M Q := T_at zk71 rfl
theorem zT71_20 : TT 71 20 L S M Q = TR (z_st (.iconst 8) 2 20 L S M) 71 22 M Q := T_at zk71 rfl
theorem zT71_22 : TT 71 22 L S M Q = TR (z_st (.idiv) 1 22 L S M) 71 23 M Q := T_at zk71 rfl
theorem zT71_23 : TT 71 23 L S M Q = TR (z_st (.goto 30) 3 23 L S M) 71 26 M Q := T_at zk71 rfl
theorem zT71_26 : TT 71 26 L S M Q = TR (z_st (.iload 3) 1 26 L S M) 71 27 M Q := T_at zk71 rfl
theorem zT71_27 : TT 71 27 L S M Q = TR (z_st (.iconst 8) 2 27 L S M) 71 29 M Q := T_at zk71 rfl
theorem zT71_29 : TT 71 29 L S M Q = TR (z_st (.irem) 1 29 L S M) 71 30 M Q := T_at zk71 rfl
theorem zT71_30 : TT 71 30 L S M Q = TR (z_st (.ret 0) 1 30 L S M) 71 31 M Q := T_at zk71 rfl
theorem zk72 : z_coL.getD 72 [] = zc72 := rfl
theorem zT72_0 : TT 72 0 L S M Q = TR (z_st (.aload 0) 1 0 L S M) 72 1 M Q := T_at zk72 rfl
theorem zT72_1 : TT 72 1 L S M Q = TR (z_st (.iload 1) 1 1 L S M) 72 2 M Q := T_at zk72 rfl
theorem zT72_2 : TT 72 2 L S M Q = TR (z_st (.invokevirtual 22) 3 2 L S M) 72 5 M Q := T_at zk72 rfl
theorem zT72_5 : TT 72 5 L S M Q = TR (z_st (.ifCond .eq 27) 3 5 L S M) 72 8 M Q := T_at zk72 rfl
theorem zT72_8 : TT 72 8 L S M Q = TR (z_st (.iload 2) 1 8 L S M) 72 9 M Q := T_at zk72 rfl
theorem zT72_9 : TT 72 9 L S M Q = TR (z_st (.i2l) 1 9 L S M) 72 10 M Q := T_at zk72 rfl
theorem zT72_10 : TT 72 10 L S M Q = TR (z_st (.ldc2_w 0) 1 10 L S M) 72 11 M Q := T_at zk72 rfl
theorem zT72_11 : TT 72 11 L S M Q = TR (z_st (.ldc2_w 1) 1 11 L S M) 72 12 M Q := T_at zk72 rfl
theorem zT72_12 : TT 72 12 L S M Q = TR (z_st (.invokestatic 2) 3 12 L S M) 72 15 M Q := T_at zk72 rfl
theorem zT72_15 : TT 72 15 L S M Q = TR (z_st (.ifCond .eq 27) 3 15 L S M) 72 18 M Q := T_at zk72 rfl
theorem zT72_18 : TT 72 18 L S M Q = TR (z_st (.aload 0) 1 18 L S M) 72 19 M Q := T_at zk72 rfl
theorem zT72_19 : TT 72 19 L S M Q = TR (z_st (.iload 1) 1 19 L S M) 72 20 M Q := T_at zk72 rfl
theorem zT72_20 : TT 72 20 L S M Q = TR (z_st (.iload 2) 1 20 L S M) 72 21 M Q := T_at zk72 rfl
theorem zT72_21 : TT 72 21 L S M Q = TR (z_st (.invokevirtual 71) 3 21 L S M) 72 24 M Q := T_at zk72 rfl
theorem zT72_24 : TT 72 24 L S M Q = TR (z_st (.goto 33) 3 24 L S M) 72 27 M Q := T_at zk72 rfl
theorem zT72_27 : TT 72 27 L S M Q = TR (z_st (.aload 0) 1 27 L S M) 72 28 M Q := T_at zk72 rfl
theorem zT72_28 : TT 72 28 L S M Q = TR (z_st (.iconst (-2)) 2 28 L S M) 72 30 M Q := T_at zk72 rfl
theorem zT72_30 : TT 72 30 L S M Q = TR (z_st (.invokevirtual 3) 3 30 L S M) 72 33 M Q := T_at zk72 rfl
theorem zT72_33 : TT 72 33 L S M Q = TR (z_st (.ret 0) 1 33 L S M) 72 34 M Q := T_at zk72 rfl
theorem zk73 : z_coL.getD 73 [] = zc73 := rfl
theorem zT73_0 : TT 73 0 L S M Q = TR (z_st (.iload 1) 1 0 L S M) 73 1 M Q := T_at zk73 rfl
theorem zT73_1 : TT 73 1 L S M Q = TR (z_st (.ifCond .ne 19) 3 1 L S M) 73 4 M Q := T_at zk73 rfl
theorem zT73_4 : TT 73 4 L S M Q = TR (z_st (.aload 0) 1 4 L S M) 73 5 M Q := T_at zk73 rfl
theorem zT73_5 : TT 73 5 L S M Q = TR (z_st (.getfield 97) 3 5 L S M) 73 8 M Q := T_at zk73 rfl
theorem zT73_8 : TT 73 8 L S M Q = TR (z_st (.ifCond .le 15) 3 8 L S M) 73 11 M Q := T_at zk73 rfl
theorem zT73_11 : TT 73 11 L S M Q = TR (z_st (.iconst 1) 1 11 L S M) 73 12 M Q := T_at zk73 rfl
theorem zT73_12 : TT 73 12 L S M Q = TR (z_st (.goto 35) 3 12 L S M) 73 15 M Q := T_at zk73 rfl
theorem zT73_15 : TT 73 15 L S M Q = TR (z_st (.iconst 0) 1 15 L S M) 73 16 M Q := T_at zk73 rfl
theorem zT73_16 : TT 73 16 L S M Q = TR (z_st (.goto 35) 3 16 L S M) 73 19 M Q := T_at zk73 rfl
theorem zT73_19 : TT 73 19 L S M Q = TR (z_st (.iload 1) 1 19 L S M) 73 20 M Q := T_at zk73 rfl
theorem zT73_20 : TT 73 20 L S M Q = TR (z_st (.iconst 1) 1 20 L S M) 73 21 M Q := T_at zk73 rfl
theorem zT73_21 : TT 73 21 L S M Q = TR (z_st (.if_icmp .ne 31) 3 21 L S M) 73 24 M Q := T_at zk73 rfl
theorem zT73_24 : TT 73 24 L S M Q = TR (z_st (.aload 0) 1 24 L S M) 73 25 M Q := T_at zk73 rfl
theorem zT73_25 : TT 73 25 L S M Q = TR (z_st (.getfield 97) 3 25 L S M) 73 28 M Q := T_at zk73 rfl
theorem zT73_28 : TT 73 28 L S M Q = TR (z_st (.goto 35) 3 28 L S M) 73 31 M Q := T_at zk73 rfl
theorem zT73_31 : TT 73 31 L S M Q = TR (z_st (.aload 0) 1 31 L S M) 73 32 M Q := T_at zk73 rfl
theorem zT73_32 : TT 73 32 L S M Q = TR (z_st (.getfield 99) 3 32 L S M) 73 35 M Q := T_at zk73 rfl
theorem zT73_35 : TT 73 35 L S M Q = TR (z_st (.ret 0) 1 35 L S M) 73 36 M Q := T_at zk73 rfl
theorem zk74 : z_coL.getD 74 [] = zc74 := rfl
theorem zT74_0 : TT 74 0 L S M Q = TR (z_st (.iload 1) 1 0 L S M) 74 1 M Q := T_at zk74 rfl
theorem zT74_1 : TT 74 1 L S M Q = TR (z_st (.i2l) 1 1 L S M) 74 2 M Q := T_at zk74 rfl
theorem zT74_2 : TT 74 2 L S M Q = TR (z_st (.ldc2_w 0) 1 2 L S M) 74 3 M Q := T_at zk74 rfl
theorem zT74_3 : TT 74 3 L S M Q = TR (z_st (.ldc2_w 2) 3 3 L S M) 74 6 M Q := T_at zk74 rfl
theorem zT74_6 : TT 74 6 L S M Q = TR (z_st (.invokestatic 2) 3 6 L S M) 74 9 M Q := T_at zk74 rfl
theorem zT74_9 : TT 74 9 L S M Q = TR (z_st (.ifCond .eq 20) 3 9 L S M) 74 12 M Q := T_at zk74 rfl
theorem zT74_12 : TT 74 12 L S M Q = TR (z_st (.aload 0) 1 12 L S M) 74 13 M Q := T_at zk74 rfl
theorem zT74_13 : TT 74 13 L S M Q = TR (z_st (.iload 1) 1 13 L S M) 74 14 M Q := T_at zk74 rfl
theorem zT74_14 : TT 74 14 L S M Q = TR (z_st (.invokevirtual 73) 3 14 L S M) 74 17 M Q := T_at zk74 rfl
theorem zT74_17 : TT 74 17 L S M Q = TR (z_st (.goto 26) 3 17 L S M) 74 20 M Q := T_at zk74 rfl
theorem zT74_20 : TT 74 20 L S M Q = TR (z_st (.aload 0) 1 20 L S M) 74 21 M Q := T_at zk74 rfl
theorem zT74_21 : TT 74 21 L S M Q = TR (z_st (.iconst (-2)) 2 21 L S M) 74 23 M Q := T_at zk74 rfl
theorem zT74_23 : TT 74 23 L S M Q = TR (z_st (.invokevirtual 3) 3 23 L S M) 74 26 M Q := T_at zk74 rfl
theorem zT74_26 : TT 74 26 L S M Q = TR (z_st (.ret 0) 1 26 L S M) 74 27 M Q := T_at zk74 rfl
theorem zk75 : z_coL.getD 75 [] = zc75 := rfl
theorem zT75_0 : TT 75 0 L S M Q = TR (z_st (.iload 1) 1 0 L S M) 75 1 M Q := T_at zk75 rfl
theorem zT75_1 : TT 75 1 L S M Q = TR (z_st (.i2l) 1 1 L S M) 75 2 M Q := T_at zk75 rfl
theorem zT75_2 : TT 75 2 L S M Q = TR (z_st (.ldc2_w 0) 1 2 L S M) 75 3 M Q := T_at zk75 rfl
theorem zT75_3 : TT 75 3 L S M Q = TR (z_st (.ldc2_w 1) 1 3 L S M) 75 4 M Q := T_at zk75 rfl
theorem zT75_4 : TT 75 4 L S M Q = TR (z_st (.invokestatic 2) 3 4 L S M) 75 7 M Q := T_at zk75 rfl
theorem zT75_7 : TT 75 7 L S M Q = TR (z_st (.ifCond .eq 14) 3 7 L S M) 75 10 M Q := T_at zk75 rfl
theorem zT75_10 : TT 75 10 L S M Q = TR (z_st (.iload 2) 1 10 L S M) 75 11 M Q := T_at zk75 rfl
theorem zT75_11 : TT 75 11 L S M Q = TR (z_st (.ifCond .ge 21) 3 11 L S M) 75 14 M Q := T_at zk75 rfl
theorem zT75_14 : TT 75 14 L S M Q = TR (z_st (.aload 0) 1 14 L S M) 75 15 M Q := T_at zk75 rfl
theorem zT75_15 : TT 75 15 L S M Q = TR (z_st (.iconst (-2)) 2 15 L S M) 75 17 M Q := T_at zk75 rfl
theorem zT75_17 : TT 75 17 L S M Q = TR (z_st (.invokevirtual 3) 3 17 L S M) 75 20 M Q := T_at zk75 rfl
theorem zT75_20 : TT 75 20 L S M Q = TR (z_st (.ret 0) 1 20 L S M) 75 21 M Q := T_at zk75 rfl
theorem zT75_21 : TT 75 21 L S M Q = TR (z_st (.iload 2) 1 21 L S M) 75 22 M Q := T_at zk75 rfl
theorem zT75_22 : TT 75 22 L S M Q = TR (z_st (.iload 1) 1 22 L S M) 75 23 M Q := T_at zk75 rfl
theorem zT75_23 : TT 75 23 L S M Q = TR (z_st (.ifCond .ne 33) 3 23 L S M) 75 26 M Q := T_at zk75 rfl
theorem zT75_26 : TT 75 26 L S M Q = TR (z_st (.aload 0) 1 26 L S M) 75 27 M Q := T_at zk75 rfl
theorem zT75_27 : TT 75 27 L S M Q = TR (z_st (.getfield 97) 3 27 L S M) 75 30 M Q := T_at zk75 rfl
theorem zT75_30 : TT 75 30 L S M Q = TR (z_st (.goto 37) 3 30 L S M) 75 33 M Q := T_at zk75 rfl
theorem zT75_33 : TT 75 33 L S M Q = TR (z_st (.aload 0) 1 33 L S M) 75 34 M Q := T_at zk75 rfl
theorem zT75_34 : TT 75 34 L S M Q = TR (z_st (.getfield 99) 3 34 L S M) 75 37 M Q := T_at zk75 rfl
theorem zT75_37 : TT 75 37 L S M Q = TR (z_st (.if_icmp .lt 44) 3 37 L S M) 75 40 M Q := T_at zk75 rfl
theorem zT75_40 : TT 75 40 L S M Q = TR (z_st (.iconst (-1)) 1 40 L S M) 75 41 M Q := T_at zk75 rfl
theorem zT75_41 : TT 75 41 L S M Q = TR (z_st (.goto 64) 3 41 L S M) 75 44 M Q := T_at zk75 rfl
theorem zT75_44 : TT 75 44 L S M Q = TR (z_st (.iload 1) 1 44 L S M) 75 45 M Q := T_at zk75 rfl
theorem zT75_45 : TT 75 45 L S M Q = TR (z_st (.ifCond .ne 57) 3 45 L S M) 75 48 M Q := T_at zk75 rfl
theorem zT75_48 : TT 75 48 L S M Q = TR (z_st (.aload 0) 1 48 L S M) 75 49 M Q := T_at zk75 rfl
theorem zT75_49 : TT 75 49 L S M Q = TR (z_st (.fload 96) 3 49 L S M) 75 52 M Q := T_at zk75 rfl
theorem zT75_52 : TT 75 52 L S M Q = TR (z_st (.iload 2) 1 52 L S M) 75 53 M Q := T_at zk75 rfl
theorem zT75_53 : TT 75 53 L S M Q = TR (z_st (.laload) 1 53 L S M) 75 54 M Q := T_at zk75 rfl
theorem zT75_54 : TT 75 54 L S M Q = TR (z_st (.goto 63) 3 54 L S M) 75 57 M Q := T_at zk75 rfl
theorem zT75_57 : TT 75 57 L S M Q = TR (z_st (.aload 0) 1 57 L S M) 75 58 M Q := T_at zk75 rfl
theorem zT75_58 : TT 75 58 L S M Q = TR (z_st (.fload 98) 3 58 L S M) 75 61 M Q := T_at zk75 rfl
theorem zT75_61 : TT 75 61 L S M Q = TR (z_st (.iload 2) 1 61 L S M) 75 62 M Q := T_at zk75 rfl
theorem zT75_62 : TT 75 62 L S M Q = TR (z_st (.laload) 1 62 L S M) 75 63 M Q := T_at zk75 rfl
theorem zT75_63 : TT 75 63 L S M Q = TR (z_st (.l2i) 1 63 L S M) 75 64 M Q := T_at zk75 rfl
theorem zT75_64 : TT 75 64 L S M Q = TR (z_st (.ret 0) 1 64 L S M) 75 65 M Q := T_at zk75 rfl
theorem zk76 : z_coL.getD 76 [] = zc76 := rfl
theorem zT76_0 : TT 76 0 L S M Q = TR (z_st (.iload 1) 1 0 L S M) 76 1 M Q := T_at zk76 rfl
theorem zT76_1 : TT 76 1 L S M Q = TR (z_st (.i2l) 1 1 L S M) 76 2 M Q := T_at zk76 rfl
theorem zT76_2 : TT 76 2 L S M Q = TR (z_st (.ldc2_w 0) 1 2 L S M) 76 3 M Q := T_at zk76 rfl
theorem zT76_3 : TT 76 3 L S M Q = TR (z_st (.ldc2_w 1) 1 3 L S M) 76 4 M Q := T_at zk76 rfl
theorem zT76_4 : TT 76 4 L S M Q = TR (z_st (.invokestatic 2) 3 4 L S M) 76 7 M Q := T_at zk76 rfl
theorem zT76_7 : TT 76 7 L S M Q = TR (z_st (.ifCond .ne 17) 3 7 L S M) 76 10 M Q := T_at zk76 rfl
theorem zT76_10 : TT 76 10 L S M Q = TR (z_st (.aload 0) 1 10 L S M) 76 11 M Q := T_at zk76 rfl
theorem zT76_11 : TT 76 11 L S M Q = TR (z_st (.iconst (-2)) 2 11 L S M) 76 13 M Q := T_at zk76 rfl
theorem zT76_13 : TT 76 13 L S M Q = TR (z_st (.invokevirtual 3) 3 13 L S M) 76 16 M Q := T_at zk76 rfl
theorem zT76_16 : TT 76 16 L S M Q = TR (z_st (.ret 0) 1 16 L S M) 76 17 M Q := T_at zk76 rfl
theorem zT76_17 : TT 76 17 L S M Q = TR (z_st (.aload 0) 1 17 L S M) 76 18 M Q := T_at zk76 rfl
theorem zT76_18 : TT 76 18 L S M Q = TR (z_st (.iconst 0) 1 18 L S M) 76 19 M Q := T_at zk76 rfl
theorem zT76_19 : TT 76 19 L S M Q = TR (z_st (.iconst 110) 2 19 L S M) 76 21 M Q := T_at zk76 rfl
theorem zT76_21 : TT 76 21 L S M Q = TR (z_st (.iconst 1) 1 21 L S M) 76 22 M Q := T_at zk76 rfl
theorem zT76_22 : TT 76 22 L S M Q = TR (z_st (.iload 1) 1 22 L S M) 76 23 M Q := T_at zk76 rfl
theorem zT76_23 : TT 76 23 L S M Q = TR (z_st (.iadd) 1 23 L S M) 76 24 M Q := T_at zk76 rfl
theorem zT76_24 : TT 76 24 L S M Q = TR (z_st (.imul) 1 24 L S M) 76 25 M Q := T_at zk76 rfl
theorem zT76_25 : TT 76 25 L S M Q = TR (z_st (.invokevirtual 9) 3 25 L S M) 76 28 M Q := T_at zk76 rfl
theorem zT76_28 : TT 76 28 L S M Q = TR (z_st (.aload 0) 1 28 L S M) 76 29 M Q := T_at zk76 rfl
theorem zT76_29 : TT 76 29 L S M Q = TR (z_st (.fload 72) 3 29 L S M) 76 32 M Q := T_at zk76 rfl
theorem zT76_32 : TT 76 32 L S M Q = TR (z_st (.iload 1) 1 32 L S M) 76 33 M Q := T_at zk76 rfl
theorem zT76_33 : TT 76 33 L S M Q = TR (z_st (.iconst 1) 1 33 L S M) 76 34 M Q := T_at zk76 rfl
theorem zT76_34 : TT 76 34 L S M Q = TR (z_st (.bastore) 1 34 L S M) 76 35 M Q := T_at zk76 rfl
theorem zT76_35 : TT 76 35 L S M Q = TR (z_st (.iconst 1) 1 35 L S M) 76 36 M Q := T_at zk76 rfl
theorem zT76_36 : TT 76 36 L S M Q = TR (z_st (.ret 0) 1 36 L S M) 76 37 M Q := T_at zk76 rfl
theorem zk77 : z_coL.getD 77 [] = zc77 := rfl
theorem zT77_0 : TT 77 0 L S M Q = TR (z_st (.iload 1) 1 0 L S M) 77 1 M Q := T_at zk77 rfl
theorem zT77_1 : TT 77 1 L S M Q = TR (z_st (.i2l) 1 1 L S M) 77 2 M Q := T_at zk77 rfl
theorem zT77_2 : TT 77 2 L S M Q = TR (z_st (.ldc2_w 0) 1 2 L S M) 77 3 M Q := T_at zk77 rfl
theorem zT77_3 : TT 77 3 L S M Q = TR (z_st (.ldc2_w 1) 1 3 L S M) 77 4 M Q := T_at zk77 rfl
theorem zT77_4 : TT 77 4 L S M Q = TR (z_st (.invokestatic 2) 3 4 L S M) 77 7 M Q := T_at zk77 rfl
theorem zT77_7 : TT 77 7 L S M Q = TR (z_st (.ifCond .ne 17) 3 7 L S M) 77 10 M Q := T_at zk77 rfl
theorem zT77_10 : TT 77 10 L S M Q = TR (z_st (.aload 0) 1 10 L S M) 77 11 M Q := T_at zk77 rfl
theorem zT77_11 : TT 77 11 L S M Q = TR (z_st (.iconst (-2)) 2 11 L S M) 77 13 M Q := T_at zk77 rfl
theorem zT77_13 : TT 77 13 L S M Q = TR (z_st (.invokevirtual 3) 3 13 L S M) 77 16 M Q := T_at zk77 rfl
theorem zT77_16 : TT 77 16 L S M Q = TR (z_st (.ret 0) 1 16 L S M) 77 17 M Q := T_at zk77 rfl
theorem zT77_17 : TT 77 17 L S M Q = TR (z_st (.aload 0) 1 17 L S M) 77 18 M Q := T_at zk77 rfl
theorem zT77_18 : TT 77 18 L S M Q = TR (z_st (.fload 72) 3 18 L S M) 77 21 M Q := T_at zk77 rfl
theorem zT77_21 : TT 77 21 L S M Q = TR (z_st (.iload 1) 1 21 L S M) 77 22 M Q := T_at zk77 rfl
theorem zT77_22 : TT 77 22 L S M Q = TR (z_st (.baload) 1 22 L S M) 77 23 M Q := T_at zk77 rfl
theorem zT77_23 : TT 77 23 L S M Q = TR (z_st (.ifCond .ne 33) 3 23 L S M) 77 26 M Q := T_at zk77 rfl
theorem zT77_26 : TT 77 26 L S M Q = TR (z_st (.aload 0) 1 26 L S M) 77 27 M Q := T_at zk77 rfl
theorem zT77_27 : TT 77 27 L S M Q = TR (z_st (.iconst (-3)) 2 27 L S M) 77 29 M Q := T_at zk77 rfl
theorem zT77_29 : TT 77 29 L S M Q = TR (z_st (.invokevirtual 3) 3 29 L S M) 77 32 M Q := T_at zk77 rfl
theorem zT77_32 : TT 77 32 L S M Q = TR (z_st (.ret 0) 1 32 L S M) 77 33 M Q := T_at zk77 rfl
theorem zT77_33 : TT 77 33 L S M Q = TR (z_st (.aload 0) 1 33 L S M) 77 34 M Q := T_at zk77 rfl
theorem zT77_34 : TT 77 34 L S M Q = TR (z_st (.iconst 110) 2 34 L S M) 77 36 M Q := T_at zk77 rfl
theorem zT77_36 : TT 77 36 L S M Q = TR (z_st (.iconst 1) 1 36 L S M) 77 37 M Q := T_at zk77 rfl
theorem zT77_37 : TT 77 37 L S M Q = TR (z_st (.iload 1) 1 37 L S M) 77 38 M Q := T_at zk77 rfl
theorem zT77_38 : TT 77 38 L S M Q = TR (z_st (.iadd) 1 38 L S M) 77 39 M Q := T_at zk77 rfl
theorem zT77_39 : TT 77 39 L S M Q = TR (z_st (.imul) 1 39 L S M) 77 40 M Q := T_at zk77 rfl
theorem zT77_40 : TT 77 40 L S M Q = TR (z_st (.iconst 0) 1 40 L S M) 77 41 M Q := T_at zk77 rfl
theorem zT77_41 : TT 77 41 L S M Q = TR (z_st (.invokevirtual 9) 3 41 L S M) 77 44 M Q := T_at zk77 rfl
theorem zT77_44 : TT 77 44 L S M Q = TR (z_st (.iconst 1) 1 44 L S M) 77 45 M Q := T_at zk77 rfl
theorem zT77_45 : TT 77 45 L S M Q = TR (z_st (.ret 0) 1 45 L S M) 77 46 M Q := T_at zk77 rfl
theorem zk78 : z_coL.getD 78 [] = zc78 := rfl
theorem zT78_0 : TT 78 0 L S M Q = TR (z_st (.iload 1) 1 0 L S M) 78 1 M Q := T_at zk78 rfl
theorem zT78_1 : TT 78 1 L S M Q = TR (z_st (.i2l) 1 1 L S M) 78 2 M Q := T_at zk78 rfl
theorem zT78_2 : TT 78 2 L S M Q = TR (z_st (.ldc2_w 0) 1 2 L S M) 78 3 M Q := T_at zk78 rfl
theorem zT78_3 : TT 78 3 L S M Q = TR (z_st (.ldc2_w 2) 3 3 L S M) 78 6 M Q := T_at zk78 rfl
theorem zT78_6 : TT 78 6 L S M Q = TR (z_st (.invokestatic 2) 3 6 L S M) 78 9 M Q := T_at zk78 rfl
theorem zT78_9 : TT 78 9 L S M Q = TR (z_st (.ifCond .ne 24) 3 9 L S M) 78 12 M Q := T_at zk78 rfl
theorem zT78_12 : TT 78 12 L S M Q = TR (z_st (.aload 0) 1 12 L S M) 78 13 M Q := T_at zk78 rfl
theorem zT78_13 : TT 78 13 L S M Q = TR (z_st (.fload 75) 3 13 L S M) 78 16 M Q := T_at zk78 rfl
theorem zT78_16 : TT 78 16 L S M Q = TR (z_st (.iconst 0) 1 16 L S M) 78 17 M Q := T_at zk78 rfl
theorem zT78_17 : TT 78 17 L S M Q = TR (z_st (.dup2) 1 17 L S M) 78 18 M Q := T_at zk78 rfl
theorem zT78_18 : TT 78 18 L S M Q = TR (z_st (.iaload) 1 18 L S M) 78 19 M Q := T_at zk78 rfl
theorem zT78_19 : TT 78 19 L S M Q = TR (z_st (.iconst 1) 1 19 L S M) 78 20 M Q := T_at zk78 rfl
theorem zT78_20 : TT 78 20 L S M Q = TR (z_st (.iadd) 1 20 L S M) 78 21 M Q := T_at zk78 rfl
theorem zT78_21 : TT 78 21 L S M Q = TR (z_st (.iastore) 1 21 L S M) 78 22 M Q := T_at zk78 rfl
theorem zT78_22 : TT 78 22 L S M Q = TR (z_st (.iconst (-1)) 1 22 L S M) 78 23 M Q := T_at zk78 rfl
theorem zT78_23 : TT 78 23 L S M Q = TR (z_st (.ret 0) 1 23 L S M) 78 24 M Q := T_at zk78 rfl
theorem zT78_24 : TT 78 24 L S M Q = TR (z_st (.aload 0) 1 24 L S M) 78 25 M Q := T_at zk78 rfl
theorem zT78_25 : TT 78 25 L S M Q = TR (z_st (.fload 75) 3 25 L S M) 78 28 M Q := T_at zk78 rfl
theorem zT78_28 : TT 78 28 L S M Q = TR (z_st (.iload 1) 1 28 L S M) 78 29 M Q := T_at zk78 rfl
theorem zT78_29 : TT 78 29 L S M Q = TR (z_st (.iaload) 1 29 L S M) 78 30 M Q := T_at zk78 rfl
theorem zT78_30 : TT 78 30 L S M Q = TR (z_st (.ret 0) 1 30 L S M) 78 31 M Q := T_at zk78 rfl
theorem zk79 : z_coL.getD 79 [] = zc79 := rfl
theorem zT79_0 : TT 79 0 L S M Q = TR (z_st (.iload 1) 1 0 L S M) 79 1 M Q := T_at zk79 rfl
theorem zT79_1 : TT 79 1 L S M Q = TR (z_st (.ifCond .ne 13) 3 1 L S M) 79 4 M Q := T_at zk79 rfl
theorem zT79_4 : TT 79 4 L S M Q = TR (z_st (.aload 0) 1 4 L S M) 79 5 M Q := T_at zk79 rfl
theorem zT79_5 : TT 79 5 L S M Q = TR (z_st (.fload 71) 3 5 L S M) 79 8 M Q := T_at zk79 rfl
theorem zT79_8 : TT 79 8 L S M Q = TR (z_st (.iconst 0) 1 8 L S M) 79 9 M Q := T_at zk79 rfl
theorem zT79_9 : TT 79 9 L S M Q = TR (z_st (.iaload) 1 9 L S M) 79 10 M Q := T_at zk79 rfl
theorem zT79_10 : TT 79 10 L S M Q = TR (z_st (.goto 62) 3 10 L S M) 79 13 M Q := T_at zk79 rfl
theorem zT79_13 : TT 79 13 L S M Q = TR (z_st (.iload 1) 1 13 L S M) 79 14 M Q := T_at zk79 rfl
theorem zT79_14 : TT 79 14 L S M Q = TR (z_st (.iconst 1) 1 14 L S M) 79 15 M Q := T_at zk79 rfl
theorem zT79_15 : TT 79 15 L S M Q = TR (z_st (.if_icmp .ne 28) 3 15 L S M) 79 18 M Q := T_at zk79 rfl
theorem zT79_18 : TT 79 18 L S M Q = TR (z_st (.aload 0) 1 18 L S M) 79 19 M Q := T_at zk79 rfl
theorem zT79_19 : TT 79 19 L S M Q = TR (z_st (.fload 71) 3 19 L S M) 79 22 M Q := T_at zk79 rfl
theorem zT79_22 : TT 79 22 L S M Q = TR (z_st (.iconst 13) 2 22 L S M) 79 24 M Q := T_at zk79 rfl
theorem zT79_24 : TT 79 24 L S M Q = TR (z_st (.iaload) 1 24 L S M) 79 25 M Q := T_at zk79 rfl
theorem zT79_25 : TT 79 25 L S M Q = TR (z_st (.goto 62) 3 25 L S M) 79 28 M Q := T_at zk79 rfl
theorem zT79_28 : TT 79 28 L S M Q = TR (z_st (.iload 1) 1 28 L S M) 79 29 M Q := T_at zk79 rfl
theorem zT79_29 : TT 79 29 L S M Q = TR (z_st (.iconst 2) 1 29 L S M) 79 30 M Q := T_at zk79 rfl
theorem zT79_30 : TT 79 30 L S M Q = TR (z_st (.if_icmp .ne 43) 3 30 L S M) 79 33 M Q := T_at zk79 rfl
theorem zT79_33 : TT 79 33 L S M Q = TR (z_st (.aload 0) 1 33 L S M) 79 34 M Q := T_at zk79 rfl
theorem zT79_34 : TT 79 34 L S M Q = TR (z_st (.fload 71) 3 34 L S M) 79 37 M Q := T_at zk79 rfl
theorem zT79_37 : TT 79 37 L S M Q = TR (z_st (.iconst 53) 2 37 L S M) 79 39 M Q := T_at zk79 rfl
theorem zT79_39 : TT 79 39 L S M Q = TR (z_st (.iaload) 1 39 L S M) 79 40 M Q := T_at zk79 rfl
theorem zT79_40 : TT 79 40 L S M Q = TR (z_st (.goto 62) 3 40 L S M) 79 43 M Q := T_at zk79 rfl
theorem zT79_43 : TT 79 43 L S M Q = TR (z_st (.iload 1) 1 43 L S M) 79 44 M Q := T_at zk79 rfl
theorem zT79_44 : TT 79 44 L S M Q = TR (z_st (.iconst 3) 1 44 L S M) 79 45 M Q := T_at zk79 rfl
theorem zT79_45 : TT 79 45 L S M Q = TR (z_st (.if_icmp .ne 58) 3 45 L S M) 79 48 M Q := T_at zk79 rfl
theorem zT79_48 : TT 79 48 L S M Q = TR (z_st (.aload 0) 1 48 L S M) 79 49 M Q := T_at zk79 rfl
theorem zT79_49 : TT 79 49 L S M Q = TR (z_st (.fload 71) 3 49 L S M) 79 52 M Q := T_at zk79 rfl
theorem zT79_52 : TT 79 52 L S M Q = TR (z_st (.iconst 58) 2 52 L S M) 79 54 M Q := T_at zk79 rfl
theorem zT79_54 : TT 79 54 L S M Q = TR (z_st (.iaload) 1 54 L S M) 79 55 M Q := T_at zk79 rfl
theorem zT79_55 : TT 79 55 L S M Q = TR (z_st (.goto 62) 3 55 L S M) 79 58 M Q := T_at zk79 rfl
theorem zT79_58 : TT 79 58 L S M Q = TR (z_st (.aload 0) 1 58 L S M) 79 59 M Q := T_at zk79 rfl
theorem zT79_59 : TT 79 59 L S M Q = TR (z_st (.getfield 74) 3 59 L S M) 79 62 M Q := T_at zk79 rfl
theorem zT79_62 : TT 79 62 L S M Q = TR (z_st (.ret 0) 1 62 L S M) 79 63 M Q := T_at zk79 rfl
theorem zk80 : z_coL.getD 80 [] = zc80 := rfl
theorem zT80_0 : TT 80 0 L S M Q = TR (z_st (.iload 1) 1 0 L S M) 80 1 M Q := T_at zk80 rfl
theorem zT80_1 : TT 80 1 L S M Q = TR (z_st (.i2l) 1 1 L S M) 80 2 M Q := T_at zk80 rfl
theorem zT80_2 : TT 80 2 L S M Q = TR (z_st (.ldc2_w 0) 1 2 L S M) 80 3 M Q := T_at zk80 rfl
theorem zT80_3 : TT 80 3 L S M Q = TR (z_st (.ldc2_w 4) 3 3 L S M) 80 6 M Q := T_at zk80 rfl
theorem zT80_6 : TT 80 6 L S M Q = TR (z_st (.invokestatic 2) 3 6 L S M) 80 9 M Q := T_at zk80 rfl
theorem zT80_9 : TT 80 9 L S M Q = TR (z_st (.ifCond .eq 20) 3 9 L S M) 80 12 M Q := T_at zk80 rfl
theorem zT80_12 : TT 80 12 L S M Q = TR (z_st (.aload 0) 1 12 L S M) 80 13 M Q := T_at zk80 rfl
theorem zT80_13 : TT 80 13 L S M Q = TR (z_st (.iload 1) 1 13 L S M) 80 14 M Q := T_at zk80 rfl
theorem zT80_14 : TT 80 14 L S M Q = TR (z_st (.invokevirtual 79) 3 14 L S M) 80 17 M Q := T_at zk80 rfl
theorem zT80_17 : TT 80 17 L S M Q = TR (z_st (.goto 26) 3 17 L S M) 80 20 M Q := T_at zk80 rfl
theorem zT80_20 : TT 80 20 L S M Q = TR (z_st (.aload 0) 1 20 L S M) 80 21 M Q := T_at zk80 rfl
theorem zT80_21 : TT 80 21 L S M Q = TR (z_st (.iconst (-2)) 2 21 L S M) 80 23 M Q := T_at zk80 rfl
theorem zT80_23 : TT 80 23 L S M Q = TR (z_st (.invokevirtual 3) 3 23 L S M) 80 26 M Q := T_at zk80 rfl
theorem zT80_26 : TT 80 26 L S M Q = TR (z_st (.ret 0) 1 26 L S M) 80 27 M Q := T_at zk80 rfl
theorem zk81 : z_coL.getD 81 [] = zc81 := rfl
theorem zT81_0 : TT 81 0 L S M Q = TR (z_st (.aload 0) 1 0 L S M) 81 1 M Q := T_at zk81 rfl
theorem zT81_1 : TT 81 1 L S M Q = TR (z_st (.ldc2_w 31) 3 1 L S M) 81 4 M Q := T_at zk81 rfl
theorem zT81_4 : TT 81 4 L S M Q = TR (z_st (.aload 0) 1 4 L S M) 81 5 M Q := T_at zk81 rfl
theorem zT81_5 : TT 81 5 L S M Q = TR (z_st (.dload 104) 3 5 L S M) 81 8 M Q := T_at zk81 rfl
theorem zT81_8 : TT 81 8 L S M Q = TR (z_st (.lmul) 1 8 L S M) 81 9 M Q := T_at zk81 rfl
theorem zT81_9 : TT 81 9 L S M Q = TR (z_st (.lload 1) 1 9 L S M) 81 10 M Q := T_at zk81 rfl
theorem zT81_10 : TT 81 10 L S M Q = TR (z_st (.ladd) 1 10 L S M) 81 11 M Q := T_at zk81 rfl
theorem zT81_11 : TT 81 11 L S M Q = TR (z_st (.dstore 104) 3 11 L S M) 81 14 M Q := T_at zk81 rfl
theorem zT81_14 : TT 81 14 L S M Q = TR (z_st (.return_) 1 14 L S M) 81 15 M Q := T_at zk81 rfl
theorem zk82 : z_coL.getD 82 [] = zc82 := rfl
theorem zT82_0 : TT 82 0 L S M Q = TR (z_st (.aload 0) 1 0 L S M) 82 1 M Q := T_at zk82 rfl
theorem zT82_1 : TT 82 1 L S M Q = TR (z_st (.ldc2_w 709) 3 1 L S M) 82 4 M Q := T_at zk82 rfl
theorem zT82_4 : TT 82 4 L S M Q = TR (z_st (.dstore 104) 3 4 L S M) 82 7 M Q := T_at zk82 rfl
theorem zT82_7 : TT 82 7 L S M Q = TR (z_st (.iconst 0) 1 7 L S M) 82 8 M Q := T_at zk82 rfl
theorem zT82_8 : TT 82 8 L S M Q = TR (z_st (.istore 1) 1 8 L S M) 82 9 M Q := T_at zk82 rfl
theorem zT82_9 : TT 82 9 L S M Q = TR (z_st (.iload 1) 1 9 L S M) 82 10 M Q := T_at zk82 rfl
theorem zT82_10 : TT 82 10 L S M Q = TR (z_st (.iconst 5) 1 10 L S M) 82 11 M Q := T_at zk82 rfl
theorem zT82_11 : TT 82 11 L S M Q = TR (z_st (.if_icmp .ge 30) 3 11 L S M) 82 14 M Q := T_at zk82 rfl
theorem zT82_14 : TT 82 14 L S M Q = TR (z_st (.aload 0) 1 14 L S M) 82 15 M Q := T_at zk82 rfl
theorem zT82_15 : TT 82 15 L S M Q = TR (z_st (.aload 0) 1 15 L S M) 82 16 M Q := T_at zk82 rfl
theorem zT82_16 : TT 82 16 L S M Q = TR (z_st (.iload 1) 1 16 L S M) 82 17 M Q := T_at zk82 rfl
theorem zT82_17 : TT 82 17 L S M Q = TR (z_st (.invokevirtual 79) 3 17 L S M) 82 20 M Q := T_at zk82 rfl
theorem zT82_20 : TT 82 20 L S M Q = TR (z_st (.i2l) 1 20 L S M) 82 21 M Q := T_at zk82 rfl
theorem zT82_21 : TT 82 21 L S M Q = TR (z_st (.invokevirtual 81) 3 21 L S M) 82 24 M Q := T_at zk82 rfl
theorem zT82_24 : TT 82 24 L S M Q = TR (z_st (.iinc 1 1) 3 24 L S M) 82 27 M Q := T_at zk82 rfl
theorem zT82_27 : TT 82 27 L S M Q = TR (z_st (.goto 9) 3 27 L S M) 82 30 M Q := T_at zk82 rfl
theorem zT82_30 : TT 82 30 L S M Q = TR (z_st (.aload 0) 1 30 L S M) 82 31 M Q := T_at zk82 rfl
theorem zT82_31 : TT 82 31 L S M Q = TR (z_st (.aload 0) 1 31 L S M) 82 32 M Q := T_at zk82 rfl
theorem zT82_32 : TT 82 32 L S M Q = TR (z_st (.fload 71) 3 32 L S M) 82 35 M Q := T_at zk82 rfl
theorem zT82_35 : TT 82 35 L S M Q = TR (z_st (.iconst 54) 2 35 L S M) 82 37 M Q := T_at zk82 rfl
theorem zT82_37 : TT 82 37 L S M Q = TR (z_st (.iaload) 1 37 L S M) 82 38 M Q := T_at zk82 rfl
theorem zT82_38 : TT 82 38 L S M Q = TR (z_st (.i2l) 1 38 L S M) 82 39 M Q := T_at zk82 rfl
theorem zT82_39 : TT 82 39 L S M Q = TR (z_st (.invokevirtual 81) 3 39 L S M) 82 42 M Q := T_at zk82 rfl
theorem zT82_42 : TT 82 42 L S M Q = TR (z_st (.iconst 0) 1 42 L S M) 82 43 M Q := T_at zk82 rfl
theorem zT82_43 : TT 82 43 L S M Q = TR (z_st (.istore 1) 1 43 L S M) 82 44 M Q := T_at zk82 rfl
theorem zT82_44 : TT 82 44 L S M Q = TR (z_st (.iload 1) 1 44 L S M) 82 45 M Q := T_at zk82 rfl
theorem zT82_45 : TT 82 45 L S M Q = TR (z_st (.aload 0) 1 45 L S M) 82 46 M Q := T_at zk82 rfl
theorem zT82_46 : TT 82 46 L S M Q = TR (z_st (.fload 71) 3 46 L S M) 82 49 M Q := T_at zk82 rfl
theorem zT82_49 : TT 82 49 L S M Q = TR (z_st (.iconst 0) 1 49 L S M) 82 50 M Q := T_at zk82 rfl
theorem zT82_50 : TT 82 50 L S M Q = TR (z_st (.iaload) 1 50 L S M) 82 51 M Q := T_at zk82 rfl
theorem zT82_51 : TT 82 51 L S M Q = TR (z_st (.if_icmp .ge 87) 3 51 L S M) 82 54 M Q := T_at zk82 rfl
theorem zT82_54 : TT 82 54 L S M Q = TR (z_st (.aload 0) 1 54 L S M) 82 55 M Q := T_at zk82 rfl
theorem zT82_55 : TT 82 55 L S M Q = TR (z_st (.aload 0) 1 55 L S M) 82 56 M Q := T_at zk82 rfl
theorem zT82_56 : TT 82 56 L S M Q = TR (z_st (.fload 71) 3 56 L S M) 82 59 M Q := T_at zk82 rfl
theorem zT82_59 : TT 82 59 L S M Q = TR (z_st (.iconst 1) 1 59 L S M) 82 60 M Q := T_at zk82 rfl
theorem zT82_60 : TT 82 60 L S M Q = TR (z_st (.iload 1) 1 60 L S M) 82 61 M Q := T_at zk82 rfl
theorem zT82_61 : TT 82 61 L S M Q = TR (z_st (.iadd) 1 61 L S M) 82 62 M Q := T_at zk82 rfl
theorem zT82_62 : TT 82 62 L S M Q = TR (z_st (.iaload) 1 62 L S M) 82 63 M Q := T_at zk82 rfl
theorem zT82_63 : TT 82 63 L S M Q = TR (z_st (.i2l) 1 63 L S M) 82 64 M Q := T_at zk82 rfl
theorem zT82_64 : TT 82 64 L S M Q = TR (z_st (.invokevirtual 81) 3 64 L S M) 82 67 M Q := T_at zk82 rfl
theorem zT82_67 : TT 82 67 L S M Q = TR (z_st (.aload 0) 1 67 L S M) 82 68 M Q := T_at zk82 rfl
theorem zT82_68 : TT 82 68 L S M Q = TR (z_st (.aload 0) 1 68 L S M) 82 69 M Q := T_at zk82 rfl
theorem zT82_69 : TT 82 69 L S M Q = TR (z_st (.fload 71) 3 69 L S M) 82 72 M Q := T_at zk82 rfl
theorem zT82_72 : TT 82 72 L S M Q = TR (z_st (.iconst 7) 2 72 L S M) 82 74 M Q := T_at zk82 rfl
theorem zT82_74 : TT 82 74 L S M Q = TR (z_st (.iload 1) 1 74 L S M) 82 75 M Q := T_at zk82 rfl
theorem zT82_75 : TT 82 75 L S M Q = TR (z_st (.iadd) 1 75 L S M) 82 76 M Q := T_at zk82 rfl
theorem zT82_76 : TT 82 76 L S M Q = TR (z_st (.iaload) 1 76 L S M) 82 77 M Q := T_at zk82 rfl
theorem zT82_77 : TT 82 77 L S M Q = TR (z_st (.i2l) 1 77 L S M) 82 78 M Q := T_at zk82 rfl
theorem zT82_78 : TT 82 78 L S M Q = TR (z_st (.invokevirtual 81) 3 78 L S M) 82 81 M Q := T_at zk82 rfl
theorem zT82_81 : TT 82 81 L S M Q = TR (z_st (.iinc 1 1) 3 81 L S M) 82 84 M Q := T_at zk82 rfl
theorem zT82_84 : TT 82 84 L S M Q = TR (z_st (.goto 44) 3 84 L S M) 82 87 M Q := T_at zk82 rfl
theorem zT82_87 : TT 82 87 L S M Q = TR (z_st (.iconst 0) 1 87 L S M) 82 88 M Q := T_at zk82 rfl
theorem zT82_88 : TT 82 88 L S M Q = TR (z_st (.istore 1) 1 88 L S M) 82 89 M Q := T_at zk82 rfl
theorem zT82_89 : TT 82 89 L S M Q = TR (z_st (.iload 1) 1 89 L S M) 82 90 M Q := T_at zk82 rfl
theorem zT82_90 : TT 82 90 L S M Q = TR (z_st (.aload 0) 1 90 L S M) 82 91 M Q := T_at zk82 rfl
theorem zT82_91 : TT 82 91 L S M Q = TR (z_st (.fload 71) 3 91 L S M) 82 94 M Q := T_at zk82 rfl
theorem zT82_94 : TT 82 94 L S M Q = TR (z_st (.iconst 13) 2 94 L S M) 82 96 M Q := T_at zk82 rfl
theorem zT82_96 : TT 82 96 L S M Q = TR (z_st (.iaload) 1 96 L S M) 82 97 M Q := T_at zk82 rfl
theorem zT82_97 : TT 82 97 L S M Q = TR (z_st (.if_icmp .ge 162) 3 97 L S M) 82 100 M Q := T_at zk82 rfl
theorem zT82_100 : TT 82 100 L S M Q = TR (z_st (.aload 0) 1 100 L S M) 82 101 M Q := T_at zk82 rfl
theorem zT82_101 : TT 82 101 L S M Q = TR (z_st (.aload 0) 1 101 L S M) 82 102 M Q := T_at zk82 rfl
theorem zT82_102 : TT 82 102 L S M Q = TR (z_st (.fload 71) 3 102 L S M) 82 105 M Q := T_at zk82 rfl
theorem zT82_105 : TT 82 105 L S M Q = TR (z_st (.iconst 14) 2 105 L S M) 82 107 M Q := T_at zk82 rfl
theorem zT82_107 : TT 82 107 L S M Q = TR (z_st (.iload 1) 1 107 L S M) 82 108 M Q := T_at zk82 rfl
theorem zT82_108 : TT 82 108 L S M Q = TR (z_st (.iadd) 1 108 L S M) 82 109 M Q := T_at zk82 rfl
theorem zT82_109 : TT 82 109 L S M Q = TR (z_st (.iaload) 1 109 L S M) 82 110 M Q := T_at zk82 rfl
theorem zT82_110 : TT 82 110 L S M Q = TR (z_st (.i2l) 1 110 L S M) 82 111 M Q := T_at zk82 rfl
theorem zT82_111 : TT 82 111 L S M Q = TR (z_st (.invokevirtual 81) 3 111 L S M) 82 114 M Q := T_at zk82 rfl
theorem zT82_114 : TT 82 114 L S M Q = TR (z_st (.iconst 0) 1 114 L S M) 82 115 M Q := T_at zk82 rfl
theorem zT82_115 : TT 82 115 L S M Q = TR (z_st (.istore 2) 1 115 L S M) 82 116 M Q := T_at zk82 rfl
theorem zT82_116 : TT 82 116 L S M Q = TR (z_st (.iload 2) 1 116 L S M) 82 117 M Q := T_at zk82 rfl
theorem zT82_117 : TT 82 117 L S M Q = TR (z_st (.iconst 4) 1 117 L S M) 82 118 M Q := T_at zk82 rfl
theorem zT82_118 : TT 82 118 L S M Q = TR (z_st (.aload 0) 1 118 L S M) 82 119 M Q := T_at zk82 rfl
theorem zT82_119 : TT 82 119 L S M Q = TR (z_st (.fload 71) 3 119 L S M) 82 122 M Q := T_at zk82 rfl
theorem zT82_122 : TT 82 122 L S M Q = TR (z_st (.iconst 14) 2 122 L S M) 82 124 M Q := T_at zk82 rfl
theorem zT82_124 : TT 82 124 L S M Q = TR (z_st (.iload 1) 1 124 L S M) 82 125 M Q := T_at zk82 rfl
theorem zT82_125 : TT 82 125 L S M Q = TR (z_st (.iadd) 1 125 L S M) 82 126 M Q := T_at zk82 rfl
theorem zT82_126 : TT 82 126 L S M Q = TR (z_st (.iaload) 1 126 L S M) 82 127 M Q := T_at zk82 rfl
theorem zT82_127 : TT 82 127 L S M Q = TR (z_st (.imul) 1 127 L S M) 82 128 M Q := T_at zk82 rfl
theorem zT82_128 : TT 82 128 L S M Q = TR (z_st (.if_icmp .ge 156) 3 128 L S M) 82 131 M Q := T_at zk82 rfl
theorem zT82_131 : TT 82 131 L S M Q = TR (z_st (.aload 0) 1 131 L S M) 82 132 M Q := T_at zk82 rfl
theorem zT82_132 : TT 82 132 L S M Q = TR (z_st (.aload 0) 1 132 L S M) 82 133 M Q := T_at zk82 rfl
theorem zT82_133 : TT 82 133 L S M Q = TR (z_st (.fload 71) 3 133 L S M) 82 136 M Q := T_at zk82 rfl
theorem zT82_136 : TT 82 136 L S M Q = TR (z_st (.iconst 17) 2 136 L S M) 82 138 M Q := T_at zk82 rfl
theorem zT82_138 : TT 82 138 L S M Q = TR (z_st (.iconst 12) 2 138 L S M) 82 140 M Q := T_at zk82 rfl
theorem zT82_140 : TT 82 140 L S M Q = TR (z_st (.iload 1) 1 140 L S M) 82 141 M Q := T_at zk82 rfl
theorem zT82_141 : TT 82 141 L S M Q = TR (z_st (.imul) 1 141 L S M) 82 142 M Q := T_at zk82 rfl
theorem zT82_142 : TT 82 142 L S M Q = TR (z_st (.iadd) 1 142 L S M) 82 143 M Q := T_at zk82 rfl
theorem zT82_143 : TT 82 143 L S M Q = TR (z_st (.iload 2) 1 143 L S M) 82 144 M Q := T_at zk82 rfl
theorem zT82_144 : TT 82 144 L S M Q = TR (z_st (.iadd) 1 144 L S M) 82 145 M Q := T_at zk82 rfl
theorem zT82_145 : TT 82 145 L S M Q = TR (z_st (.iaload) 1 145 L S M) 82 146 M Q := T_at zk82 rfl
set_option maxRecDepth 100000 in
theorem zT82_146 : TT 82 146 L S M Q = TR (z_st (.i2l) 1 146 L S M) 82 147 M Q := T_at zk82 rfl
set_option maxRecDepth 100000 in
theorem zT82_147 : TT 82 147 L S M Q = TR (z_st (.invokevirtual 81) 3 147 L S M) 82 150 M Q := T_at zk82 rfl
set_option maxRecDepth 100000 in
theorem zT82_150 : TT 82 150 L S M Q = TR (z_st (.iinc 2 1) 3 150 L S M) 82 153 M Q := T_at zk82 rfl
set_option maxRecDepth 100000 in
theorem zT82_153 : TT 82 153 L S M Q = TR (z_st (.goto 116) 3 153 L S M) 82 156 M Q := T_at zk82 rfl
set_option maxRecDepth 100000 in
theorem zT82_156 : TT 82 156 L S M Q = TR (z_st (.iinc 1 1) 3 156 L S M) 82 159 M Q := T_at zk82 rfl
set_option maxRecDepth 100000 in
theorem zT82_159 : TT 82 159 L S M Q = TR (z_st (.goto 89) 3 159 L S M) 82 162 M Q := T_at zk82 rfl
set_option maxRecDepth 100000 in
theorem zT82_162 : TT 82 162 L S M Q = TR (z_st (.iconst 0) 1 162 L S M) 82 163 M Q := T_at zk82 rfl
set_option maxRecDepth 100000 in
theorem zT82_163 : TT 82 163 L S M Q = TR (z_st (.istore 1) 1 163 L S M) 82 164 M Q := T_at zk82 rfl
set_option maxRecDepth 100000 in
theorem zT82_164 : TT 82 164 L S M Q = TR (z_st (.iload 1) 1 164 L S M) 82 165 M Q := T_at zk82 rfl
set_option maxRecDepth 100000 in
theorem zT82_165 : TT 82 165 L S M Q = TR (z_st (.aload 0) 1 165 L S M) 82 166 M Q := T_at zk82 rfl
set_option maxRecDepth 100000 in
theorem zT82_166 : TT 82 166 L S M Q = TR (z_st (.fload 71) 3 166 L S M) 82 169 M Q := T_at zk82 rfl
set_option maxRecDepth 100000 in
theorem zT82_169 : TT 82 169 L S M Q = TR (z_st (.iconst 13) 2 169 L S M) 82 171 M Q := T_at zk82 rfl
set_option maxRecDepth 100000 in
theorem zT82_171 : TT 82 171 L S M Q = TR (z_st (.iaload) 1 171 L S M) 82 172 M Q := T_at zk82 rfl
set_option maxRecDepth 100000 in
theorem zT82_172 : TT 82 172 L S M Q = TR (z_st (.if_icmp .ge 203) 3 172 L S M) 82 175 M Q := T_at zk82 rfl
set_option maxRecDepth 100000 in
theorem zT82_175 : TT 82 175 L S M Q = TR (z_st (.aload 0) 1 175 L S M) 82 176 M Q := T_at zk82 rfl
set_option maxRecDepth 100000 in
theorem zT82_176 : TT 82 176 L S M Q = TR (z_st (.aload 0) 1 176 L S M) 82 177 M Q := T_at zk82 rfl
set_option maxRecDepth 100000 in
theorem zT82_177 : TT 82 177 L S M Q = TR (z_st (.iload 1) 1 177 L S M) 82 178 M Q := T_at zk82 rfl
set_option maxRecDepth 100000 in
theorem zT82_178 : TT 82 178 L S M Q = TR (z_st (.iconst 0) 1 178 L S M) 82 179 M Q := T_at zk82 rfl
set_option maxRecDepth 100000 in
theorem zT82_179 : TT 82 179 L S M Q = TR (z_st (.invokevirtual 71) 3 179 L S M) 82 182 M Q := T_at zk82 rfl
set_option maxRecDepth 100000 in
theorem zT82_182 : TT 82 182 L S M Q = TR (z_st (.i2l) 1 182 L S M) 82 183 M Q := T_at zk82 rfl
set_option maxRecDepth 100000 in
theorem zT82_183 : TT 82 183 L S M Q = TR (z_st (.invokevirtual 81) 3 183 L S M) 82 186 M Q := T_at zk82 rfl
set_option maxRecDepth 100000 in
theorem zT82_186 : TT 82 186 L S M Q = TR (z_st (.aload 0) 1 186 L S M) 82 187 M Q := T_at zk82 rfl
set_option maxRecDepth 100000 in
theorem zT82_187 : TT 82 187 L S M Q = TR (z_st (.aload 0) 1 187 L S M) 82 188 M Q := T_at zk82 rfl
set_option maxRecDepth 100000 in
theorem zT82_188 : TT 82 188 L S M Q = TR (z_st (.iload 1) 1 188 L S M) 82 189 M Q := T_at zk82 rfl
set_option maxRecDepth 100000 in
theorem zT82_189 : TT 82 189 L S M Q = TR (z_st (.iconst 1) 1 189 L S M) 82 190 M Q := T_at zk82 rfl
set_option maxRecDepth 100000 in
theorem zT82_190 : TT 82 190 L S M Q = TR (z_st (.invokevirtual 71) 3 190 L S M) 82 193 M Q := T_at zk82 rfl
set_option maxRecDepth 100000 in
theorem zT82_193 : TT 82 193 L S M Q = TR (z_st (.i2l) 1 193 L S M) 82 194 M Q := T_at zk82 rfl
set_option maxRecDepth 100000 in
theorem zT82_194 : TT 82 194 L S M Q = TR (z_st (.invokevirtual 81) 3 194 L S M) 82 197 M Q := T_at zk82 rfl
set_option maxRecDepth 100000 in
theorem zT82_197 : TT 82 197 L S M Q = TR (z_st (.iinc 1 1) 3 197 L S M) 82 200 M Q := T_at zk82 rfl
set_option maxRecDepth 100000 in
theorem zT82_200 : TT 82 200 L S M Q = TR (z_st (.goto 164) 3 200 L S M) 82 203 M Q := T_at zk82 rfl
set_option maxRecDepth 100000 in
theorem zT82_203 : TT 82 203 L S M Q = TR (z_st (.iconst 0) 1 203 L S M) 82 204 M Q := T_at zk82 rfl
set_option maxRecDepth 100000 in
theorem zT82_204 : TT 82 204 L S M Q = TR (z_st (.istore 1) 1 204 L S M) 82 205 M Q := T_at zk82 rfl
set_option maxRecDepth 100000 in
theorem zT82_205 : TT 82 205 L S M Q = TR (z_st (.iload 1) 1 205 L S M) 82 206 M Q := T_at zk82 rfl
set_option maxRecDepth 100000 in
theorem zT82_206 : TT 82 206 L S M Q = TR (z_st (.iconst 3) 1 206 L S M) 82 207 M Q := T_at zk82 rfl
set_option maxRecDepth 100000 in
theorem zT82_207 : TT 82 207 L S M Q = TR (z_st (.if_icmp .ge 226) 3 207 L S M) 82 210 M Q := T_at zk82 rfl
set_option maxRecDepth 100000 in
theorem zT82_210 : TT 82 210 L S M Q = TR (z_st (.aload 0) 1 210 L S M) 82 211 M Q := T_at zk82 rfl
set_option maxRecDepth 100000 in
theorem zT82_211 : TT 82 211 L S M Q = TR (z_st (.aload 0) 1 211 L S M) 82 212 M Q := T_at zk82 rfl
set_option maxRecDepth 100000 in
theorem zT82_212 : TT 82 212 L S M Q = TR (z_st (.iload 1) 1 212 L S M) 82 213 M Q := T_at zk82 rfl
set_option maxRecDepth 100000 in
theorem zT82_213 : TT 82 213 L S M Q = TR (z_st (.invokevirtual 73) 3 213 L S M) 82 216 M Q := T_at zk82 rfl
set_option maxRecDepth 100000 in
theorem zT82_216 : TT 82 216 L S M Q = TR (z_st (.i2l) 1 216 L S M) 82 217 M Q := T_at zk82 rfl
set_option maxRecDepth 100000 in
theorem zT82_217 : TT 82 217 L S M Q = TR (z_st (.invokevirtual 81) 3 217 L S M) 82 220 M Q := T_at zk82 rfl
set_option maxRecDepth 100000 in
theorem zT82_220 : TT 82 220 L S M Q = TR (z_st (.iinc 1 1) 3 220 L S M) 82 223 M Q := T_at zk82 rfl
set_option maxRecDepth 100000 in
theorem zT82_223 : TT 82 223 L S M Q = TR (z_st (.goto 205) 3 223 L S M) 82 226 M Q := T_at zk82 rfl
set_option maxRecDepth 100000 in
theorem zT82_226 : TT 82 226 L S M Q = TR (z_st (.iconst 0) 1 226 L S M) 82 227 M Q := T_at zk82 rfl
set_option maxRecDepth 100000 in
theorem zT82_227 : TT 82 227 L S M Q = TR (z_st (.istore 1) 1 227 L S M) 82 228 M Q := T_at zk82 rfl
set_option maxRecDepth 100000 in
theorem zT82_228 : TT 82 228 L S M Q = TR (z_st (.iload 1) 1 228 L S M) 82 229 M Q := T_at zk82 rfl
set_option maxRecDepth 100000 in
theorem zT82_229 : TT 82 229 L S M Q = TR (z_st (.aload 0) 1 229 L S M) 82 230 M Q := T_at zk82 rfl
set_option maxRecDepth 100000 in
theorem zT82_230 : TT 82 230 L S M Q = TR (z_st (.getfield 97) 3 230 L S M) 82 233 M Q := T_at zk82 rfl
set_option maxRecDepth 100000 in
theorem zT82_233 : TT 82 233 L S M Q = TR (z_st (.if_icmp .ge 252) 3 233 L S M) 82 236 M Q := T_at zk82 rfl
set_option maxRecDepth 100000 in
theorem zT82_236 : TT 82 236 L S M Q = TR (z_st (.aload 0) 1 236 L S M) 82 237 M Q := T_at zk82 rfl
set_option maxRecDepth 100000 in
theorem zT82_237 : TT 82 237 L S M Q = TR (z_st (.aload 0) 1 237 L S M) 82 238 M Q := T_at zk82 rfl
set_option maxRecDepth 100000 in
theorem zT82_238 : TT 82 238 L S M Q = TR (z_st (.fload 96) 3 238 L S M) 82 241 M Q := T_at zk82 rfl
set_option maxRecDepth 100000 in
theorem zT82_241 : TT 82 241 L S M Q = TR (z_st (.iload 1) 1 241 L S M) 82 242 M Q := T_at zk82 rfl
set_option maxRecDepth 100000 in
theorem zT82_242 : TT 82 242 L S M Q = TR (z_st (.laload) 1 242 L S M) 82 243 M Q := T_at zk82 rfl
set_option maxRecDepth 100000 in
theorem zT82_243 : TT 82 243 L S M Q = TR (z_st (.invokevirtual 81) 3 243 L S M) 82 246 M Q := T_at zk82 rfl
set_option maxRecDepth 100000 in
theorem zT82_246 : TT 82 246 L S M Q = TR (z_st (.iinc 1 1) 3 246 L S M) 82 249 M Q := T_at zk82 rfl
set_option maxRecDepth 100000 in
theorem zT82_249 : TT 82 249 L S M Q = TR (z_st (.goto 228) 3 249 L S M) 82 252 M Q := T_at zk82 rfl
set_option maxRecDepth 100000 in
theorem zT82_252 : TT 82 252 L S M Q = TR (z_st (.iconst 0) 1 252 L S M) 82 253 M Q := T_at zk82 rfl
set_option maxRecDepth 100000 in
theorem zT82_253 : TT 82 253 L S M Q = TR (z_st (.istore 1) 1 253 L S M) 82 254 M Q := T_at zk82 rfl
set_option maxRecDepth 100000 in
theorem zT82_254 : TT 82 254 L S M Q = TR (z_st (.iload 1) 1 254 L S M) 82 255 M Q := T_at zk82 rfl
set_option maxRecDepth 100000 in
theorem zT82_255 : TT 82 255 L S M Q = TR (z_st (.aload 0) 1 255 L S M) 82 256 M Q := T_at zk82 rfl
set_option maxRecDepth 100000 in
theorem zT82_256 : TT 82 256 L S M Q = TR (z_st (.getfield 99) 3 256 L S M) 82 259 M Q := T_at zk82 rfl
set_option maxRecDepth 100000 in
theorem zT82_259 : TT 82 259 L S M Q = TR (z_st (.if_icmp .ge 278) 3 259 L S M) 82 262 M Q := T_at zk82 rfl
set_option maxRecDepth 100000 in
theorem zT82_262 : TT 82 262 L S M Q = TR (z_st (.aload 0) 1 262 L S M) 82 263 M Q := T_at zk82 rfl
set_option maxRecDepth 100000 in
theorem zT82_263 : TT 82 263 L S M Q = TR (z_st (.aload 0) 1 263 L S M) 82 264 M Q := T_at zk82 rfl
set_option maxRecDepth 100000 in
theorem zT82_264 : TT 82 264 L S M Q = TR (z_st (.fload 98) 3 264 L S M) 82 267 M Q := T_at zk82 rfl
set_option maxRecDepth 100000 in
theorem zT82_267 : TT 82 267 L S M Q = TR (z_st (.iload 1) 1 267 L S M) 82 268 M Q := T_at zk82 rfl
set_option maxRecDepth 100000 in
theorem zT82_268 : TT 82 268 L S M Q = TR (z_st (.laload) 1 268 L S M) 82 269 M Q := T_at zk82 rfl
set_option maxRecDepth 100000 in
theorem zT82_269 : TT 82 269 L S M Q = TR (z_st (.invokevirtual 81) 3 269 L S M) 82 272 M Q := T_at zk82 rfl
set_option maxRecDepth 100000 in
theorem zT82_272 : TT 82 272 L S M Q = TR (z_st (.iinc 1 1) 3 272 L S M) 82 275 M Q := T_at zk82 rfl
set_option maxRecDepth 100000 in
theorem zT82_275 : TT 82 275 L S M Q = TR (z_st (.goto 254) 3 275 L S M) 82 278 M Q := T_at zk82 rfl
set_option maxRecDepth 100000 in
theorem zT82_278 : TT 82 278 L S M Q = TR (z_st (.aload 0) 1 278 L S M) 82 279 M Q := T_at zk82 rfl
set_option maxRecDepth 100000 in
theorem zT82_279 : TT 82 279 L S M Q = TR (z_st (.dload 104) 3 279 L S M) 82 282 M Q := T_at zk82 rfl
set_option maxRecDepth 100000 in
theorem zT82_282 : TT 82 282 L S M Q = TR (z_st (.lreturn) 1 282 L S M) 82 283 M Q := T_at zk82 rfl
theorem zk83 : z_coL.getD 83 [] = zc83 := rfl
theorem zT83_0 : TT 83 0 L S M Q = TR (z_st (.aload 0) 1 0 L S M) 83 1 M Q := T_at zk83 rfl
theorem zT83_1 : TT 83 1 L S M Q = TR (z_st (.athrow) 3 1 L S M) 83 4 M Q := T_at zk83 rfl
theorem zT83_4 : TT 83 4 L S M Q = TR (z_st (.aload 0) 1 4 L S M) 83 5 M Q := T_at zk83 rfl
theorem zT83_5 : TT 83 5 L S M Q = TR (z_st (.new 6) 3 5 L S M) 83 8 M Q := T_at zk83 rfl
theorem zT83_8 : TT 83 8 L S M Q = TR (z_st (.dup) 1 8 L S M) 83 9 M Q := T_at zk83 rfl
theorem zT83_9 : TT 83 9 L S M Q = TR (z_st (.invokespecial 175) 3 9 L S M) 83 12 M Q := T_at zk83 rfl
theorem zT83_12 : TT 83 12 L S M Q = TR (z_st (.fstore 0) 3 12 L S M) 83 15 M Q := T_at zk83 rfl
theorem zT83_15 : TT 83 15 L S M Q = TR (z_st (.aload 0) 1 15 L S M) 83 16 M Q := T_at zk83 rfl
theorem zT83_16 : TT 83 16 L S M Q = TR (z_st (.new 6) 3 16 L S M) 83 19 M Q := T_at zk83 rfl
theorem zT83_19 : TT 83 19 L S M Q = TR (z_st (.dup) 1 19 L S M) 83 20 M Q := T_at zk83 rfl
theorem zT83_20 : TT 83 20 L S M Q = TR (z_st (.invokespecial 175) 3 20 L S M) 83 23 M Q := T_at zk83 rfl
theorem zT83_23 : TT 83 23 L S M Q = TR (z_st (.fstore 1) 3 23 L S M) 83 26 M Q := T_at zk83 rfl
theorem zT83_26 : TT 83 26 L S M Q = TR (z_st (.aload 0) 1 26 L S M) 83 27 M Q := T_at zk83 rfl
theorem zT83_27 : TT 83 27 L S M Q = TR (z_st (.iconst 2) 1 27 L S M) 83 28 M Q := T_at zk83 rfl
theorem zT83_28 : TT 83 28 L S M Q = TR (z_st (.anewarray 5) 3 28 L S M) 83 31 M Q := T_at zk83 rfl
theorem zT83_31 : TT 83 31 L S M Q = TR (z_st (.fstore 2) 3 31 L S M) 83 34 M Q := T_at zk83 rfl
theorem zT83_34 : TT 83 34 L S M Q = TR (z_st (.aload 0) 1 34 L S M) 83 35 M Q := T_at zk83 rfl
theorem zT83_35 : TT 83 35 L S M Q = TR (z_st (.iconst 2) 1 35 L S M) 83 36 M Q := T_at zk83 rfl
theorem zT83_36 : TT 83 36 L S M Q = TR (z_st (.newarray .boolean) 2 36 L S M) 83 38 M Q := T_at zk83 rfl
theorem zT83_38 : TT 83 38 L S M Q = TR (z_st (.fstore 3) 3 38 L S M) 83 41 M Q := T_at zk83 rfl
theorem zT83_41 : TT 83 41 L S M Q = TR (z_st (.aload 0) 1 41 L S M) 83 42 M Q := T_at zk83 rfl
theorem zT83_42 : TT 83 42 L S M Q = TR (z_st (.new 2) 3 42 L S M) 83 45 M Q := T_at zk83 rfl
theorem zT83_45 : TT 83 45 L S M Q = TR (z_st (.dup) 1 45 L S M) 83 46 M Q := T_at zk83 rfl
theorem zT83_46 : TT 83 46 L S M Q = TR (z_st (.aload 0) 1 46 L S M) 83 47 M Q := T_at zk83 rfl
theorem zT83_47 : TT 83 47 L S M Q = TR (z_st (.fload 0) 3 47 L S M) 83 50 M Q := T_at zk83 rfl
theorem zT83_50 : TT 83 50 L S M Q = TR (z_st (.invokespecial 137) 3 50 L S M) 83 53 M Q := T_at zk83 rfl
theorem zT83_53 : TT 83 53 L S M Q = TR (z_st (.fstore 4) 3 53 L S M) 83 56 M Q := T_at zk83 rfl
theorem zT83_56 : TT 83 56 L S M Q = TR (z_st (.aload 0) 1 56 L S M) 83 57 M Q := T_at zk83 rfl
theorem zT83_57 : TT 83 57 L S M Q = TR (z_st (.new 8) 3 57 L S M) 83 60 M Q := T_at zk83 rfl
theorem zT83_60 : TT 83 60 L S M Q = TR (z_st (.dup) 1 60 L S M) 83 61 M Q := T_at zk83 rfl
theorem zT83_61 : TT 83 61 L S M Q = TR (z_st (.aload 0) 1 61 L S M) 83 62 M Q := T_at zk83 rfl
theorem zT83_62 : TT 83 62 L S M Q = TR (z_st (.fload 0) 3 62 L S M) 83 65 M Q := T_at zk83 rfl
theorem zT83_65 : TT 83 65 L S M Q = TR (z_st (.aload 0) 1 65 L S M) 83 66 M Q := T_at zk83 rfl
theorem zT83_66 : TT 83 66 L S M Q = TR (z_st (.fload 4) 3 66 L S M) 83 69 M Q := T_at zk83 rfl
theorem zT83_69 : TT 83 69 L S M Q = TR (z_st (.invokespecial 205) 3 69 L S M) 83 72 M Q := T_at zk83 rfl
theorem zT83_72 : TT 83 72 L S M Q = TR (z_st (.fstore 5) 3 72 L S M) 83 75 M Q := T_at zk83 rfl
theorem zT83_75 : TT 83 75 L S M Q = TR (z_st (.aload 0) 1 75 L S M) 83 76 M Q := T_at zk83 rfl
theorem zT83_76 : TT 83 76 L S M Q = TR (z_st (.new 1) 3 76 L S M) 83 79 M Q := T_at zk83 rfl
theorem zT83_79 : TT 83 79 L S M Q = TR (z_st (.dup) 1 79 L S M) 83 80 M Q := T_at zk83 rfl
theorem zT83_80 : TT 83 80 L S M Q = TR (z_st (.invokespecial 125) 3 80 L S M) 83 83 M Q := T_at zk83 rfl
theorem zT83_83 : TT 83 83 L S M Q = TR (z_st (.fstore 6) 3 83 L S M) 83 86 M Q := T_at zk83 rfl
theorem zT83_86 : TT 83 86 L S M Q = TR (z_st (.aload 0) 1 86 L S M) 83 87 M Q := T_at zk83 rfl
theorem zT83_87 : TT 83 87 L S M Q = TR (z_st (.new 4) 3 87 L S M) 83 90 M Q := T_at zk83 rfl
theorem zT83_90 : TT 83 90 L S M Q = TR (z_st (.dup) 1 90 L S M) 83 91 M Q := T_at zk83 rfl
theorem zT83_91 : TT 83 91 L S M Q = TR (z_st (.invokespecial 161) 3 91 L S M) 83 94 M Q := T_at zk83 rfl
theorem zT83_94 : TT 83 94 L S M Q = TR (z_st (.fstore 7) 3 94 L S M) 83 97 M Q := T_at zk83 rfl
theorem zT83_97 : TT 83 97 L S M Q = TR (z_st (.iconst 0) 1 97 L S M) 83 98 M Q := T_at zk83 rfl
theorem zT83_98 : TT 83 98 L S M Q = TR (z_st (.istore 1) 1 98 L S M) 83 99 M Q := T_at zk83 rfl
theorem zT83_99 : TT 83 99 L S M Q = TR (z_st (.iload 1) 1 99 L S M) 83 100 M Q := T_at zk83 rfl
theorem zT83_100 : TT 83 100 L S M Q = TR (z_st (.iconst 2) 1 100 L S M) 83 101 M Q := T_at zk83 rfl
theorem zT83_101 : TT 83 101 L S M Q = TR (z_st (.if_icmp .ge 123) 3 101 L S M) 83 104 M Q := T_at zk83 rfl
theorem zT83_104 : TT 83 104 L S M Q = TR (z_st (.aload 0) 1 104 L S M) 83 105 M Q := T_at zk83 rfl
theorem zT83_105 : TT 83 105 L S M Q = TR (z_st (.fload 2) 3 105 L S M) 83 108 M Q := T_at zk83 rfl
theorem zT83_108 : TT 83 108 L S M Q = TR (z_st (.iload 1) 1 108 L S M) 83 109 M Q := T_at zk83 rfl
theorem zT83_109 : TT 83 109 L S M Q = TR (z_st (.new 6) 3 109 L S M) 83 112 M Q := T_at zk83 rfl
theorem zT83_112 : TT 83 112 L S M Q = TR (z_st (.dup) 1 112 L S M) 83 113 M Q := T_at zk83 rfl
theorem zT83_113 : TT 83 113 L S M Q = TR (z_st (.invokespecial 175) 3 113 L S M) 83 116 M Q := T_at zk83 rfl
theorem zT83_116 : TT 83 116 L S M Q = TR (z_st (.aastore) 1 116 L S M) 83 117 M Q := T_at zk83 rfl
theorem zT83_117 : TT 83 117 L S M Q = TR (z_st (.iinc 1 1) 3 117 L S M) 83 120 M Q := T_at zk83 rfl
theorem zT83_120 : TT 83 120 L S M Q = TR (z_st (.goto 99) 3 120 L S M) 83 123 M Q := T_at zk83 rfl
theorem zT83_123 : TT 83 123 L S M Q = TR (z_st (.return_) 1 123 L S M) 83 124 M Q := T_at zk83 rfl
theorem zk84 : z_coL.getD 84 [] = zc84 := rfl
theorem zT84_0 : TT 84 0 L S M Q = TR (z_st (.aload 0) 1 0 L S M) 84 1 M Q := T_at zk84 rfl
theorem zT84_1 : TT 84 1 L S M Q = TR (z_st (.fload 5) 3 1 L S M) 84 4 M Q := T_at zk84 rfl
theorem zT84_4 : TT 84 4 L S M Q = TR (z_st (.invokevirtual 206) 3 4 L S M) 84 7 M Q := T_at zk84 rfl
theorem zT84_7 : TT 84 7 L S M Q = TR (z_st (.aload 0) 1 7 L S M) 84 8 M Q := T_at zk84 rfl
theorem zT84_8 : TT 84 8 L S M Q = TR (z_st (.aload 0) 1 8 L S M) 84 9 M Q := T_at zk84 rfl
theorem zT84_9 : TT 84 9 L S M Q = TR (z_st (.fload 0) 3 9 L S M) 84 12 M Q := T_at zk84 rfl
theorem zT84_12 : TT 84 12 L S M Q = TR (z_st (.iload 1) 1 12 L S M) 84 13 M Q := T_at zk84 rfl
theorem zT84_13 : TT 84 13 L S M Q = TR (z_st (.iload 2) 1 13 L S M) 84 14 M Q := T_at zk84 rfl
theorem zT84_14 : TT 84 14 L S M Q = TR (z_st (.invokevirtual 178) 3 14 L S M) 84 17 M Q := T_at zk84 rfl
theorem zT84_17 : TT 84 17 L S M Q = TR (z_st (.invokevirtual 116) 3 17 L S M) 84 20 M Q := T_at zk84 rfl
theorem zT84_20 : TT 84 20 L S M Q = TR (z_st (.ret 0) 1 20 L S M) 84 21 M Q := T_at zk84 rfl
theorem zk85 : z_coL.getD 85 [] = zc85 := rfl
theorem zT85_0 : TT 85 0 L S M Q = TR (z_st (.aload 0) 1 0 L S M) 85 1 M Q := T_at zk85 rfl
theorem zT85_1 : TT 85 1 L S M Q = TR (z_st (.fload 5) 3 1 L S M) 85 4 M Q := T_at zk85 rfl
theorem zT85_4 : TT 85 4 L S M Q = TR (z_st (.invokevirtual 206) 3 4 L S M) 85 7 M Q := T_at zk85 rfl
theorem zT85_7 : TT 85 7 L S M Q = TR (z_st (.aload 0) 1 7 L S M) 85 8 M Q := T_at zk85 rfl
theorem zT85_8 : TT 85 8 L S M Q = TR (z_st (.aload 0) 1 8 L S M) 85 9 M Q := T_at zk85 rfl
theorem zT85_9 : TT 85 9 L S M Q = TR (z_st (.fload 0) 3 9 L S M) 85 12 M Q := T_at zk85 rfl
theorem zT85_12 : TT 85 12 L S M Q = TR (z_st (.invokevirtual 179) 3 12 L S M) 85 15 M Q := T_at zk85 rfl
theorem zT85_15 : TT 85 15 L S M Q = TR (z_st (.invokevirtual 116) 3 15 L S M) 85 18 M Q := T_at zk85 rfl
theorem zT85_18 : TT 85 18 L S M Q = TR (z_st (.ret 0) 1 18 L S M) 85 19 M Q := T_at zk85 rfl
theorem zk86 : z_coL.getD 86 [] = zc86 := rfl
theorem zT86_0 : TT 86 0 L S M Q = TR (z_st (.aload 0) 1 0 L S M) 86 1 M Q := T_at zk86 rfl
theorem zT86_1 : TT 86 1 L S M Q = TR (z_st (.fload 5) 3 1 L S M) 86 4 M Q := T_at zk86 rfl
theorem zT86_4 : TT 86 4 L S M Q = TR (z_st (.invokevirtual 206) 3 4 L S M) 86 7 M Q := T_at zk86 rfl
theorem zT86_7 : TT 86 7 L S M Q = TR (z_st (.aload 0) 1 7 L S M) 86 8 M Q := T_at zk86 rfl
theorem zT86_8 : TT 86 8 L S M Q = TR (z_st (.aload 0) 1 8 L S M) 86 9 M Q := T_at zk86 rfl
theorem zT86_9 : TT 86 9 L S M Q = TR (z_st (.fload 0) 3 9 L S M) 86 12 M Q := T_at zk86 rfl
theorem zT86_12 : TT 86 12 L S M Q = TR (z_st (.iload 1) 1 12 L S M) 86 13 M Q := T_at zk86 rfl
theorem zT86_13 : TT 86 13 L S M Q = TR (z_st (.iload 2) 1 13 L S M) 86 14 M Q := T_at zk86 rfl
theorem zT86_14 : TT 86 14 L S M Q = TR (z_st (.iload 3) 1 14 L S M) 86 15 M Q := T_at zk86 rfl
theorem zT86_15 : TT 86 15 L S M Q = TR (z_st (.iload 4) 2 15 L S M) 86 17 M Q := T_at zk86 rfl
theorem zT86_17 : TT 86 17 L S M Q = TR (z_st (.iload 5) 2 17 L S M) 86 19 M Q := T_at zk86 rfl
theorem zT86_19 : TT 86 19 L S M Q = TR (z_st (.invokevirtual 180) 3 19 L S M) 86 22 M Q := T_at zk86 rfl
theorem zT86_22 : TT 86 22 L S M Q = TR (z_st (.invokevirtual 116) 3 22 L S M) 86 25 M Q := T_at zk86 rfl
theorem zT86_25 : TT 86 25 L S M Q = TR (z_st (.ret 0) 1 25 L S M) 86 26 M Q := T_at zk86 rfl
theorem zk87 : z_coL.getD 87 [] = zc87 := rfl
theorem zT87_0 : TT 87 0 L S M Q = TR (z_st (.aload 0) 1 0 L S M) 87 1 M Q := T_at zk87 rfl
theorem zT87_1 : TT 87 1 L S M Q = TR (z_st (.fload 5) 3 1 L S M) 87 4 M Q := T_at zk87 rfl
theorem zT87_4 : TT 87 4 L S M Q = TR (z_st (.invokevirtual 206) 3 4 L S M) 87 7 M Q := T_at zk87 rfl
theorem zT87_7 : TT 87 7 L S M Q = TR (z_st (.aload 0) 1 7 L S M) 87 8 M Q := T_at zk87 rfl
theorem zT87_8 : TT 87 8 L S M Q = TR (z_st (.aload 0) 1 8 L S M) 87 9 M Q := T_at zk87 rfl
theorem zT87_9 : TT 87 9 L S M Q = TR (z_st (.fload 0) 3 9 L S M) 87 12 M Q := T_at zk87 rfl
theorem zT87_12 : TT 87 12 L S M Q = TR (z_st (.iload 1) 1 12 L S M) 87 13 M Q := T_at zk87 rfl
theorem zT87_13 : TT 87 13 L S M Q = TR (z_st (.invokevirtual 181) 3 13 L S M) 87 16 M Q := T_at zk87 rfl
theorem zT87_16 : TT 87 16 L S M Q = TR (z_st (.invokevirtual 116) 3 16 L S M) 87 19 M Q := T_at zk87 rfl
theorem zT87_19 : TT 87 19 L S M Q = TR (z_st (.ret 0) 1 19 L S M) 87 20 M Q := T_at zk87 rfl
theorem zk88 : z_coL.getD 88 [] = zc88 := rfl
theorem zT88_0 : TT 88 0 L S M Q = TR (z_st (.aload 0) 1 0 L S M) 88 1 M Q := T_at zk88 rfl
theorem zT88_1 : TT 88 1 L S M Q = TR (z_st (.fload 5) 3 1 L S M) 88 4 M Q := T_at zk88 rfl
theorem zT88_4 : TT 88 4 L S M Q = TR (z_st (.invokevirtual 206) 3 4 L S M) 88 7 M Q := T_at zk88 rfl
theorem zT88_7 : TT 88 7 L S M Q = TR (z_st (.aload 0) 1 7 L S M) 88 8 M Q := T_at zk88 rfl
theorem zT88_8 : TT 88 8 L S M Q = TR (z_st (.aload 0) 1 8 L S M) 88 9 M Q := T_at zk88 rfl
theorem zT88_9 : TT 88 9 L S M Q = TR (z_st (.fload 0) 3 9 L S M) 88 12 M Q := T_at zk88 rfl
theorem zT88_12 : TT 88 12 L S M Q = TR (z_st (.iload 1) 1 12 L S M) 88 13 M Q := T_at zk88 rfl
theorem zT88_13 : TT 88 13 L S M Q = TR (z_st (.invokevirtual 182) 3 13 L S M) 88 16 M Q := T_at zk88 rfl
theorem zT88_16 : TT 88 16 L S M Q = TR (z_st (.invokevirtual 116) 3 16 L S M) 88 19 M Q := T_at zk88 rfl
theorem zT88_19 : TT 88 19 L S M Q = TR (z_st (.ret 0) 1 19 L S M) 88 20 M Q := T_at zk88 rfl
theorem zk89 : z_coL.getD 89 [] = zc89 := rfl
theorem zT89_0 : TT 89 0 L S M Q = TR (z_st (.aload 0) 1 0 L S M) 89 1 M Q := T_at zk89 rfl
theorem zT89_1 : TT 89 1 L S M Q = TR (z_st (.fload 0) 3 1 L S M) 89 4 M Q := T_at zk89 rfl
theorem zT89_4 : TT 89 4 L S M Q = TR (z_st (.iload 1) 1 4 L S M) 89 5 M Q := T_at zk89 rfl
theorem zT89_5 : TT 89 5 L S M Q = TR (z_st (.invokevirtual 184) 3 5 L S M) 89 8 M Q := T_at zk89 rfl
theorem zT89_8 : TT 89 8 L S M Q = TR (z_st (.ifCond .eq 20) 3 8 L S M) 89 11 M Q := T_at zk89 rfl
theorem zT89_11 : TT 89 11 L S M Q = TR (z_st (.iload 2) 1 11 L S M) 89 12 M Q := T_at zk89 rfl
theorem zT89_12 : TT 89 12 L S M Q = TR (z_st (.ifCond .lt 20) 3 12 L S M) 89 15 M Q := T_at zk89 rfl
theorem zT89_15 : TT 89 15 L S M Q = TR (z_st (.iload 2) 1 15 L S M) 89 16 M Q := T_at zk89 rfl
theorem zT89_16 : TT 89 16 L S M Q = TR (z_st (.iconst 1) 1 16 L S M) 89 17 M Q := T_at zk89 rfl
theorem zT89_17 : TT 89 17 L S M Q = TR (z_st (.if_icmp .le 29) 3 17 L S M) 89 20 M Q := T_at zk89 rfl
theorem zT89_20 : TT 89 20 L S M Q = TR (z_st (.aload 0) 1 20 L S M) 89 21 M Q := T_at zk89 rfl
theorem zT89_21 : TT 89 21 L S M Q = TR (z_st (.iconst (-2)) 2 21 L S M) 89 23 M Q := T_at zk89 rfl
theorem zT89_23 : TT 89 23 L S M Q = TR (z_st (.iconst (-2)) 2 23 L S M) 89 25 M Q := T_at zk89 rfl
theorem zT89_25 : TT 89 25 L S M Q = TR (z_st (.invokevirtual 117) 3 25 L S M) 89 28 M Q := T_at zk89 rfl
theorem zT89_28 : TT 89 28 L S M Q = TR (z_st (.ret 0) 1 28 L S M) 89 29 M Q := T_at zk89 rfl
theorem zT89_29 : TT 89 29 L S M Q = TR (z_st (.aload 0) 1 29 L S M) 89 30 M Q := T_at zk89 rfl
theorem zT89_30 : TT 89 30 L S M Q = TR (z_st (.fload 0) 3 30 L S M) 89 33 M Q := T_at zk89 rfl
theorem zT89_33 : TT 89 33 L S M Q = TR (z_st (.iload 1) 1 33 L S M) 89 34 M Q := T_at zk89 rfl
theorem zT89_34 : TT 89 34 L S M Q = TR (z_st (.invokevirtual 185) 3 34 L S M) 89 37 M Q := T_at zk89 rfl
theorem zT89_37 : TT 89 37 L S M Q = TR (z_st (.istore 3) 1 37 L S M) 89 38 M Q := T_at zk89 rfl
theorem zT89_38 : TT 89 38 L S M Q = TR (z_st (.iload 2) 1 38 L S M) 89 39 M Q := T_at zk89 rfl
theorem zT89_39 : TT 89 39 L S M Q = TR (z_st (.ifCond .ne 56) 3 39 L S M) 89 42 M Q := T_at zk89 rfl
theorem zT89_42 : TT 89 42 L S M Q = TR (z_st (.iload 3) 1 42 L S M) 89 43 M Q := T_at zk89 rfl
theorem zT89_43 : TT 89 43 L S M Q = TR (z_st (.aload 0) 1 43 L S M) 89 44 M Q := T_at zk89 rfl
theorem zT89_44 : TT 89 44 L S M Q = TR (z_st (.fload 0) 3 44 L S M) 89 47 M Q := T_at zk89 rfl
theorem zT89_47 : TT 89 47 L S M Q = TR (z_st (.getfield 47) 3 47 L S M) 89 50 M Q := T_at zk89 rfl
theorem zT89_50 : TT 89 50 L S M Q = TR (z_st (.invokestatic 171) 3 50 L S M) 89 53 M Q := T_at zk89 rfl
theorem zT89_53 : TT 89 53 L S M Q = TR (z_st (.goto 67) 3 53 L S M) 89 56 M Q := T_at zk89 rfl
theorem zT89_56 : TT 89 56 L S M Q = TR (z_st (.iload 3) 1 56 L S M) 89 57 M Q := T_at zk89 rfl
theorem zT89_57 : TT 89 57 L S M Q = TR (z_st (.aload 0) 1 57 L S M) 89 58 M Q := T_at zk89 rfl
theorem zT89_58 : TT 89 58 L S M Q = TR (z_st (.fload 0) 3 58 L S M) 89 61 M Q := T_at zk89 rfl
theorem zT89_61 : TT 89 61 L S M Q = TR (z_st (.getfield 47) 3 61 L S M) 89 64 M Q := T_at zk89 rfl
theorem zT89_64 : TT 89 64 L S M Q = TR (z_st (.invokestatic 172) 3 64 L S M) 89 67 M Q := T_at zk89 rfl
theorem zT89_67 : TT 89 67 L S M Q = TR (z_st (.ret 0) 1 67 L S M) 89 68 M Q := T_at zk89 rfl
theorem zk90 : z_coL.getD 90 [] = zc90 := rfl
theorem zT90_0 : TT 90 0 L S M Q = TR (z_st (.iload 3) 1 0 L S M) 90 1 M Q := T_at zk90 rfl
theorem zT90_1 : TT 90 1 L S M Q = TR (z_st (.iconst 1) 1 1 L S M) 90 2 M Q := T_at zk90 rfl
theorem zT90_2 : TT 90 2 L S M Q = TR (z_st (.if_icmp .lt 11) 3 2 L S M) 90 5 M Q := T_at zk90 rfl
theorem zT90_5 : TT 90 5 L S M Q = TR (z_st (.iload 3) 1 5 L S M) 90 6 M Q := T_at zk90 rfl
theorem zT90_6 : TT 90 6 L S M Q = TR (z_st (.iconst 8) 2 6 L S M) 90 8 M Q := T_at zk90 rfl
theorem zT90_8 : TT 90 8 L S M Q = TR (z_st (.if_icmp .le 20) 3 8 L S M) 90 11 M Q := T_at zk90 rfl
theorem zT90_11 : TT 90 11 L S M Q = TR (z_st (.aload 0) 1 11 L S M) 90 12 M Q := T_at zk90 rfl
theorem zT90_12 : TT 90 12 L S M Q = TR (z_st (.iconst (-2)) 2 12 L S M) 90 14 M Q := T_at zk90 rfl
theorem zT90_14 : TT 90 14 L S M Q = TR (z_st (.iconst (-2)) 2 14 L S M) 90 16 M Q := T_at zk90 rfl
theorem zT90_16 : TT 90 16 L S M Q = TR (z_st (.invokevirtual 117) 3 16 L S M) 90 19 M Q := T_at zk90 rfl
theorem zT90_19 : TT 90 19 L S M Q = TR (z_st (.ret 0) 1 19 L S M) 90 20 M Q := T_at zk90 rfl
theorem zT90_20 : TT 90 20 L S M Q = TR (z_st (.aload 0) 1 20 L S M) 90 21 M Q := T_at zk90 rfl
theorem zT90_21 : TT 90 21 L S M Q = TR (z_st (.fload 6) 3 21 L S M) 90 24 M Q := T_at zk90 rfl
theorem zT90_24 : TT 90 24 L S M Q = TR (z_st (.getfield 12) 3 24 L S M) 90 27 M Q := T_at zk90 rfl
theorem zT90_27 : TT 90 27 L S M Q = TR (z_st (.iload 3) 1 27 L S M) 90 28 M Q := T_at zk90 rfl
theorem zT90_28 : TT 90 28 L S M Q = TR (z_st (.iadd) 1 28 L S M) 90 29 M Q := T_at zk90 rfl
theorem zT90_29 : TT 90 29 L S M Q = TR (z_st (.iconst 200) 3 29 L S M) 90 32 M Q := T_at zk90 rfl
theorem zT90_32 : TT 90 32 L S M Q = TR (z_st (.if_icmp .le 44) 3 32 L S M) 90 35 M Q := T_at zk90 rfl
theorem zT90_35 : TT 90 35 L S M Q = TR (z_st (.aload 0) 1 35 L S M) 90 36 M Q := T_at zk90 rfl
theorem zT90_36 : TT 90 36 L S M Q = TR (z_st (.iconst (-4)) 2 36 L S M) 90 38 M Q := T_at zk90 rfl
theorem zT90_38 : TT 90 38 L S M Q = TR (z_st (.iconst (-4)) 2 38 L S M) 90 40 M Q := T_at zk90 rfl
theorem zT90_40 : TT 90 40 L S M Q = TR (z_st (.invokevirtual 117) 3 40 L S M) 90 43 M Q := T_at zk90 rfl
theorem zT90_43 : TT 90 43 L S M Q = TR (z_st (.ret 0) 1 43 L S M) 90 44 M Q := T_at zk90 rfl
theorem zT90_44 : TT 90 44 L S M Q = TR (z_st (.aload 0) 1 44 L S M) 90 45 M Q := T_at zk90 rfl
theorem zT90_45 : TT 90 45 L S M Q = TR (z_st (.fload 6) 3 45 L S M) 90 48 M Q := T_at zk90 rfl
theorem zT90_48 : TT 90 48 L S M Q = TR (z_st (.lload 1) 1 48 L S M) 90 49 M Q := T_at zk90 rfl
theorem zT90_49 : TT 90 49 L S M Q = TR (z_st (.iload 3) 1 49 L S M) 90 50 M Q := T_at zk90 rfl
theorem zT90_50 : TT 90 50 L S M Q = TR (z_st (.invokevirtual 126) 3 50 L S M) 90 53 M Q := T_at zk90 rfl
theorem zT90_53 : TT 90 53 L S M Q = TR (z_st (.aload 0) 1 53 L S M) 90 54 M Q := T_at zk90 rfl
theorem zT90_54 : TT 90 54 L S M Q = TR (z_st (.fload 6) 3 54 L S M) 90 57 M Q := T_at zk90 rfl
theorem zT90_57 : TT 90 57 L S M Q = TR (z_st (.getfield 12) 3 57 L S M) 90 60 M Q := T_at zk90 rfl
theorem zT90_60 : TT 90 60 L S M Q = TR (z_st (.ret 0) 1 60 L S M) 90 61 M Q := T_at zk90 rfl
theorem zk91 : z_coL.getD 91 [] = zc91 := rfl
theorem zT91_0 : TT 91 0 L S M Q = TR (z_st (.aload 0) 1 0 L S M) 91 1 M Q := T_at zk91 rfl
theorem zT91_1 : TT 91 1 L S M Q = TR (z_st (.fload 6) 3 1 L S M) 91 4 M Q := T_at zk91 rfl
theorem zT91_4 : TT 91 4 L S M Q = TR (z_st (.getfield 12) 3 4 L S M) 91 7 M Q := T_at zk91 rfl
theorem zT91_7 : TT 91 7 L S M Q = TR (z_st (.istore 1) 1 7 L S M) 91 8 M Q := T_at zk91 rfl
theorem zT91_8 : TT 91 8 L S M Q = TR (z_st (.aload 0) 1 8 L S M) 91 9 M Q := T_at zk91 rfl
theorem zT91_9 : TT 91 9 L S M Q = TR (z_st (.fload 6) 3 9 L S M) 91 12 M Q := T_at zk91 rfl
theorem zT91_12 : TT 91 12 L S M Q = TR (z_st (.iconst 0) 1 12 L S M) 91 13 M Q := T_at zk91 rfl
theorem zT91_13 : TT 91 13 L S M Q = TR (z_st (.putfield 12) 3 13 L S M) 91 16 M Q := T_at zk91 rfl
theorem zT91_16 : TT 91 16 L S M Q = TR (z_st (.iload 1) 1 16 L S M) 91 17 M Q := T_at zk91 rfl
theorem zT91_17 : TT 91 17 L S M Q = TR (z_st (.ret 0) 1 17 L S M) 91 18 M Q := T_at zk91 rfl
theorem zk92 : z_coL.getD 92 [] = zc92 := rfl
theorem zT92_0 : TT 92 0 L S M Q = TR (z_st (.aload 0) 1 0 L S M) 92 1 M Q := T_at zk92 rfl
theorem zT92_1 : TT 92 1 L S M Q = TR (z_st (.fload 6) 3 1 L S M) 92 4 M Q := T_at zk92 rfl
theorem zT92_4 : TT 92 4 L S M Q = TR (z_st (.invokevirtual 127) 3 4 L S M) 92 7 M Q := T_at zk92 rfl
theorem zT92_7 : TT 92 7 L S M Q = TR (z_st (.istore 1) 1 7 L S M) 92 8 M Q := T_at zk92 rfl
theorem zT92_8 : TT 92 8 L S M Q = TR (z_st (.iload 1) 1 8 L S M) 92 9 M Q := T_at zk92 rfl
theorem zT92_9 : TT 92 9 L S M Q = TR (z_st (.iconst (-1)) 1 9 L S M) 92 10 M Q := T_at zk92 rfl
theorem zT92_10 : TT 92 10 L S M Q = TR (z_st (.if_icmp .eq 18) 3 10 L S M) 92 13 M Q := T_at zk92 rfl
theorem zT92_13 : TT 92 13 L S M Q = TR (z_st (.iconst (-10)) 2 13 L S M) 92 15 M Q := T_at zk92 rfl
theorem zT92_15 : TT 92 15 L S M Q = TR (z_st (.iload 1) 1 15 L S M) 92 16 M Q := T_at zk92 rfl
theorem zT92_16 : TT 92 16 L S M Q = TR (z_st (.isub) 1 16 L S M) 92 17 M Q := T_at zk92 rfl
theorem zT92_17 : TT 92 17 L S M Q = TR (z_st (.ret 0) 1 17 L S M) 92 18 M Q := T_at zk92 rfl
theorem zT92_18 : TT 92 18 L S M Q = TR (z_st (.aload 0) 1 18 L S M) 92 19 M Q := T_at zk92 rfl
theorem zT92_19 : TT 92 19 L S M Q = TR (z_st (.fload 1) 3 19 L S M) 92 22 M Q := T_at zk92 rfl
theorem zT92_22 : TT 92 22 L S M Q = TR (z_st (.invokevirtual 176) 3 22 L S M) 92 25 M Q := T_at zk92 rfl
theorem zT92_25 : TT 92 25 L S M Q = TR (z_st (.iconst 0) 1 25 L S M) 92 26 M Q := T_at zk92 rfl
theorem zT92_26 : TT 92 26 L S M Q = TR (z_st (.istore 2) 1 26 L S M) 92 27 M Q := T_at zk92 rfl
theorem zT92_27 : TT 92 27 L S M Q = TR (z_st (.iload 2) 1 27 L S M) 92 28 M Q := T_at zk92 rfl
theorem zT92_28 : TT 92 28 L S M Q = TR (z_st (.aload 0) 1 28 L S M) 92 29 M Q := T_at zk92 rfl
theorem zT92_29 : TT 92 29 L S M Q = TR (z_st (.fload 6) 3 29 L S M) 92 32 M Q := T_at zk92 rfl
theorem zT92_32 : TT 92 32 L S M Q = TR (z_st (.getfield 16) 3 32 L S M) 92 35 M Q := T_at zk92 rfl
theorem zT92_35 : TT 92 35 L S M Q = TR (z_st (.if_icmp .ge 68) 3 35 L S M) 92 38 M Q := T_at zk92 rfl
theorem zT92_38 : TT 92 38 L S M Q = TR (z_st (.aload 0) 1 38 L S M) 92 39 M Q := T_at zk92 rfl
theorem zT92_39 : TT 92 39 L S M Q = TR (z_st (.fload 6) 3 39 L S M) 92 42 M Q := T_at zk92 rfl
theorem zT92_42 : TT 92 42 L S M Q = TR (z_st (.iload 2) 1 42 L S M) 92 43 M Q := T_at zk92 rfl
theorem zT92_43 : TT 92 43 L S M Q = TR (z_st (.aload 0) 1 43 L S M) 92 44 M Q := T_at zk92 rfl
theorem zT92_44 : TT 92 44 L S M Q = TR (z_st (.fload 1) 3 44 L S M) 92 47 M Q := T_at zk92 rfl
theorem zT92_47 : TT 92 47 L S M Q = TR (z_st (.invokevirtual 136) 3 47 L S M) 92 50 M Q := T_at zk92 rfl
theorem zT92_50 : TT 92 50 L S M Q = TR (z_st (.invokestatic 115) 3 50 L S M) 92 53 M Q := T_at zk92 rfl
theorem zT92_53 : TT 92 53 L S M Q = TR (z_st (.ifCond .eq 62) 3 53 L S M) 92 56 M Q := T_at zk92 rfl
theorem zT92_56 : TT 92 56 L S M Q = TR (z_st (.iconst (-1000)) 3 56 L S M) 92 59 M Q := T_at zk92 rfl
theorem zT92_59 : TT 92 59 L S M Q = TR (z_st (.iload 2) 1 59 L S M) 92 60 M Q := T_at zk92 rfl
theorem zT92_60 : TT 92 60 L S M Q = TR (z_st (.isub) 1 60 L S M) 92 61 M Q := T_at zk92 rfl
theorem zT92_61 : TT 92 61 L S M Q = TR (z_st (.ret 0) 1 61 L S M) 92 62 M Q := T_at zk92 rfl
theorem zT92_62 : TT 92 62 L S M Q = TR (z_st (.iinc 2 1) 3 62 L S M) 92 65 M Q := T_at zk92 rfl
theorem zT92_65 : TT 92 65 L S M Q = TR (z_st (.goto 27) 3 65 L S M) 92 68 M Q := T_at zk92 rfl
theorem zT92_68 : TT 92 68 L S M Q = TR (z_st (.aload 0) 1 68 L S M) 92 69 M Q := T_at zk92 rfl
theorem zT92_69 : TT 92 69 L S M Q = TR (z_st (.fload 5) 3 69 L S M) 92 72 M Q := T_at zk92 rfl
theorem zT92_72 : TT 92 72 L S M Q = TR (z_st (.invokevirtual 206) 3 72 L S M) 92 75 M Q := T_at zk92 rfl
theorem zT92_75 : TT 92 75 L S M Q = TR (z_st (.aload 0) 1 75 L S M) 92 76 M Q := T_at zk92 rfl
theorem zT92_76 : TT 92 76 L S M Q = TR (z_st (.fload 0) 3 76 L S M) 92 79 M Q := T_at zk92 rfl
theorem zT92_79 : TT 92 79 L S M Q = TR (z_st (.aload 0) 1 79 L S M) 92 80 M Q := T_at zk92 rfl
theorem zT92_80 : TT 92 80 L S M Q = TR (z_st (.fload 1) 3 80 L S M) 92 83 M Q := T_at zk92 rfl
theorem zT92_83 : TT 92 83 L S M Q = TR (z_st (.invokevirtual 177) 3 83 L S M) 92 86 M Q := T_at zk92 rfl
theorem zT92_86 : TT 92 86 L S M Q = TR (z_st (.aload 0) 1 86 L S M) 92 87 M Q := T_at zk92 rfl
theorem zT92_87 : TT 92 87 L S M Q = TR (z_st (.fload 6) 3 87 L S M) 92 90 M Q := T_at zk92 rfl
theorem zT92_90 : TT 92 90 L S M Q = TR (z_st (.getfield 16) 3 90 L S M) 92 93 M Q := T_at zk92 rfl
theorem zT92_93 : TT 92 93 L S M Q = TR (z_st (.ret 0) 1 93 L S M) 92 94 M Q := T_at zk92 rfl
theorem zk93 : z_coL.getD 93 [] = zc93 := rfl
theorem zT93_0 : TT 93 0 L S M Q = TR (z_st (.aload 0) 1 0 L S M) 93 1 M Q := T_at zk93 rfl
theorem zT93_1 : TT 93 1 L S M Q = TR (z_st (.fload 5) 3 1 L S M) 93 4 M Q := T_at zk93 rfl
theorem zT93_4 : TT 93 4 L S M Q = TR (z_st (.invokevirtual 207) 3 4 L S M) 93 7 M Q := T_at zk93 rfl
theorem zT93_7 : TT 93 7 L S M Q = TR (z_st (.ret 0) 1 7 L S M) 93 8 M Q := T_at zk93 rfl
theorem zk94 : z_coL.getD 94 [] = zc94 := rfl
theorem zT94_0 : TT 94 0 L S M Q = TR (z_st (.iload 1) 1 0 L S M) 94 1 M Q := T_at zk94 rfl
theorem zT94_1 : TT 94 1 L S M Q = TR (z_st (.ifCond .ge 13) 3 1 L S M) 94 4 M Q := T_at zk94 rfl
theorem zT94_4 : TT 94 4 L S M Q = TR (z_st (.aload 0) 1 4 L S M) 94 5 M Q := T_at zk94 rfl
theorem zT94_5 : TT 94 5 L S M Q = TR (z_st (.iconst (-2)) 2 5 L S M) 94 7 M Q := T_at zk94 rfl
theorem zT94_7 : TT 94 7 L S M Q = TR (z_st (.iconst (-10)) 2 7 L S M) 94 9 M Q := T_at zk94 rfl
theorem zT94_9 : TT 94 9 L S M Q = TR (z_st (.invokevirtual 117) 3 9 L S M) 94 12 M Q := T_at zk94 rfl
theorem zT94_12 : TT 94 12 L S M Q = TR (z_st (.ret 0) 1 12 L S M) 94 13 M Q := T_at zk94 rfl
theorem zT94_13 : TT 94 13 L S M Q = TR (z_st (.aload 0) 1 13 L S M) 94 14 M Q := T_at zk94 rfl
theorem zT94_14 : TT 94 14 L S M Q = TR (z_st (.fload 5) 3 14 L S M) 94 17 M Q := T_at zk94 rfl
theorem zT94_17 : TT 94 17 L S M Q = TR (z_st (.invokevirtual 207) 3 17 L S M) 94 20 M Q := T_at zk94 rfl
theorem zT94_20 : TT 94 20 L S M Q = TR (z_st (.pop) 1 20 L S M) 94 21 M Q := T_at zk94 rfl
theorem zT94_21 : TT 94 21 L S M Q = TR (z_st (.aload 0) 1 21 L S M) 94 22 M Q := T_at zk94 rfl
theorem zT94_22 : TT 94 22 L S M Q = TR (z_st (.fload 5) 3 22 L S M) 94 25 M Q := T_at zk94 rfl
theorem zT94_25 : TT 94 25 L S M Q = TR (z_st (.fload 54) 3 25 L S M) 94 28 M Q := T_at zk94 rfl
theorem zT94_28 : TT 94 28 L S M Q = TR (z_st (.iload 1) 1 28 L S M) 94 29 M Q := T_at zk94 rfl
theorem zT94_29 : TT 94 29 L S M Q = TR (z_st (.invokevirtual 231) 3 29 L S M) 94 32 M Q := T_at zk94 rfl
theorem zT94_32 : TT 94 32 L S M Q = TR (z_st (.ret 0) 1 32 L S M) 94 33 M Q := T_at zk94 rfl
theorem zk95 : z_coL.getD 95 [] = zc95 := rfl
theorem zT95_0 : TT 95 0 L S M Q = TR (z_st (.iload 2) 1 0 L S M) 95 1 M Q := T_at zk95 rfl
theorem zT95_1 : TT 95 1 L S M Q = TR (z_st (.ifCond .lt 26) 3 1 L S M) 95 4 M Q := T_at zk95 rfl
theorem zT95_4 : TT 95 4 L S M Q = TR (z_st (.aload 0) 1 4 L S M) 95 5 M Q := T_at zk95 rfl
theorem zT95_5 : TT 95 5 L S M Q = TR (z_st (.fload 0) 3 5 L S M) 95 8 M Q := T_at zk95 rfl
theorem zT95_8 : TT 95 8 L S M Q = TR (z_st (.iload 1) 1 8 L S M) 95 9 M Q := T_at zk95 rfl
theorem zT95_9 : TT 95 9 L S M Q = TR (z_st (.invokevirtual 190) 3 9 L S M) 95 12 M Q := T_at zk95 rfl
theorem zT95_12 : TT 95 12 L S M Q = TR (z_st (.ifCond .eq 26) 3 12 L S M) 95 15 M Q := T_at zk95 rfl
theorem zT95_15 : TT 95 15 L S M Q = TR (z_st (.aload 0) 1 15 L S M) 95 16 M Q := T_at zk95 rfl
theorem zT95_16 : TT 95 16 L S M Q = TR (z_st (.fload 0) 3 16 L S M) 95 19 M Q := T_at zk95 rfl
theorem zT95_19 : TT 95 19 L S M Q = TR (z_st (.iload 1) 1 19 L S M) 95 20 M Q := T_at zk95 rfl
theorem zT95_20 : TT 95 20 L S M Q = TR (z_st (.invokevirtual 191) 3 20 L S M) 95 23 M Q := T_at zk95 rfl
theorem zT95_23 : TT 95 23 L S M Q = TR (z_st (.ifCond .eq 35) 3 23 L S M) 95 26 M Q := T_at zk95 rfl
theorem zT95_26 : TT 95 26 L S M Q = TR (z_st (.aload 0) 1 26 L S M) 95 27 M Q := T_at zk95 rfl
theorem zT95_27 : TT 95 27 L S M Q = TR (z_st (.iconst (-2)) 2 27 L S M) 95 29 M Q := T_at zk95 rfl
theorem zT95_29 : TT 95 29 L S M Q = TR (z_st (.iconst (-10)) 2 29 L S M) 95 31 M Q := T_at zk95 rfl
theorem zT95_31 : TT 95 31 L S M Q = TR (z_st (.invokevirtual 117) 3 31 L S M) 95 34 M Q := T_at zk95 rfl
theorem zT95_34 : TT 95 34 L S M Q = TR (z_st (.ret 0) 1 34 L S M) 95 35 M Q := T_at zk95 rfl
theorem zT95_35 : TT 95 35 L S M Q = TR (z_st (.aload 0) 1 35 L S M) 95 36 M Q := T_at zk95 rfl
theorem zT95_36 : TT 95 36 L S M Q = TR (z_st (.iload 1) 1 36 L S M) 95 37 M Q := T_at zk95 rfl
theorem zT95_37 : TT 95 37 L S M Q = TR (z_st (.invokevirtual 118) 3 37 L S M) 95 40 M Q := T_at zk95 rfl
theorem zT95_40 : TT 95 40 L S M Q = TR (z_st (.ifCond .ne 45) 3 40 L S M) 95 43 M Q := T_at zk95 rfl
theorem zT95_43 : TT 95 43 L S M Q = TR (z_st (.iconst (-1)) 1 43 L S M) 95 44 M Q := T_at zk95 rfl
theorem zT95_44 : TT 95 44 L S M Q = TR (z_st (.ret 0) 1 44 L S M) 95 45 M Q := T_at zk95 rfl
theorem zT95_45 : TT 95 45 L S M Q = TR (z_st (.aload 0) 1 45 L S M) 95 46 M Q := T_at zk95 rfl
theorem zT95_46 : TT 95 46 L S M Q = TR (z_st (.fload 4) 3 46 L S M) 95 49 M Q := T_at zk95 rfl
theorem zT95_49 : TT 95 49 L S M Q = TR (z_st (.aload 0) 1 49 L S M) 95 50 M Q := T_at zk95 rfl
theorem zT95_50 : TT 95 50 L S M Q = TR (z_st (.fload 0) 3 50 L S M) 95 53 M Q := T_at zk95 rfl
theorem zT95_53 : TT 95 53 L S M Q = TR (z_st (.iload 1) 1 53 L S M) 95 54 M Q := T_at zk95 rfl
theorem zT95_54 : TT 95 54 L S M Q = TR (z_st (.invokevirtual 194) 3 54 L S M) 95 57 M Q := T_at zk95 rfl
theorem zT95_57 : TT 95 57 L S M Q = TR (z_st (.invokevirtual 144) 3 57 L S M) 95 60 M Q := T_at zk95 rfl
theorem zT95_60 : TT 95 60 L S M Q = TR (z_st (.aload 0) 1 60 L S M) 95 61 M Q := T_at zk95 rfl
theorem zT95_61 : TT 95 61 L S M Q = TR (z_st (.fload 4) 3 61 L S M) 95 64 M Q := T_at zk95 rfl
theorem zT95_64 : TT 95 64 L S M Q = TR (z_st (.iload 2) 1 64 L S M) 95 65 M Q := T_at zk95 rfl
theorem zT95_65 : TT 95 65 L S M Q = TR (z_st (.invokevirtual 147) 3 65 L S M) 95 68 M Q := T_at zk95 rfl
theorem zT95_68 : TT 95 68 L S M Q = TR (z_st (.ret 0) 1 68 L S M) 95 69 M Q := T_at zk95 rfl
theorem zk96 : z_coL.getD 96 [] = zc96 := rfl
theorem zT96_0 : TT 96 0 L S M Q = TR (z_st (.iload 1) 1 0 L S M) 96 1 M Q := T_at zk96 rfl
theorem zT96_1 : TT 96 1 L S M Q = TR (z_st (.ifCond .lt 10) 3 1 L S M) 96 4 M Q := T_at zk96 rfl
theorem zT96_4 : TT 96 4 L S M Q = TR (z_st (.iload 1) 1 4 L S M) 96 5 M Q := T_at zk96 rfl
theorem zT96_5 : TT 96 5 L S M Q = TR (z_st (.iconst 60) 2 5 L S M) 96 7 M Q := T_at zk96 rfl
theorem zT96_7 : TT 96 7 L S M Q = TR (z_st (.if_icmp .le 19) 3 7 L S M) 96 10 M Q := T_at zk96 rfl
theorem zT96_10 : TT 96 10 L S M Q = TR (z_st (.aload 0) 1 10 L S M) 96 11 M Q := T_at zk96 rfl
theorem zT96_11 : TT 96 11 L S M Q = TR (z_st (.iconst (-2)) 2 11 L S M) 96 13 M Q := T_at zk96 rfl
theorem zT96_13 : TT 96 13 L S M Q = TR (z_st (.iconst (-2)) 2 13 L S M) 96 15 M Q := T_at zk96 rfl
theorem zT96_15 : TT 96 15 L S M Q = TR (z_st (.invokevirtual 117) 3 15 L S M) 96 18 M Q := T_at zk96 rfl
theorem zT96_18 : TT 96 18 L S M Q = TR (z_st (.ret 0) 1 18 L S M) 96 19 M Q := T_at zk96 rfl
theorem zT96_19 : TT 96 19 L S M Q = TR (z_st (.aload 0) 1 19 L S M) 96 20 M Q := T_at zk96 rfl
theorem zT96_20 : TT 96 20 L S M Q = TR (z_st (.fload 5) 3 20 L S M) 96 23 M Q := T_at zk96 rfl
theorem zT96_23 : TT 96 23 L S M Q = TR (z_st (.invokevirtual 207) 3 23 L S M) 96 26 M Q := T_at zk96 rfl
theorem zT96_26 : TT 96 26 L S M Q = TR (z_st (.pop) 1 26 L S M) 96 27 M Q := T_at zk96 rfl
theorem zT96_27 : TT 96 27 L S M Q = TR (z_st (.aload 0) 1 27 L S M) 96 28 M Q := T_at zk96 rfl
theorem zT96_28 : TT 96 28 L S M Q = TR (z_st (.fload 5) 3 28 L S M) 96 31 M Q := T_at zk96 rfl
theorem zT96_31 : TT 96 31 L S M Q = TR (z_st (.iload 1) 1 31 L S M) 96 32 M Q := T_at zk96 rfl
theorem zT96_32 : TT 96 32 L S M Q = TR (z_st (.invokevirtual 226) 3 32 L S M) 96 35 M Q := T_at zk96 rfl
theorem zT96_35 : TT 96 35 L S M Q = TR (z_st (.ret 0) 1 35 L S M) 96 36 M Q := T_at zk96 rfl
theorem zk97 : z_coL.getD 97 [] = zc97 := rfl
theorem zT97_0 : TT 97 0 L S M Q = TR (z_st (.iload 1) 1 0 L S M) 97 1 M Q := T_at zk97 rfl
theorem zT97_1 : TT 97 1 L S M Q = TR (z_st (.ifCond .lt 9) 3 1 L S M) 97 4 M Q := T_at zk97 rfl
theorem zT97_4 : TT 97 4 L S M Q = TR (z_st (.iload 1) 1 4 L S M) 97 5 M Q := T_at zk97 rfl
theorem zT97_5 : TT 97 5 L S M Q = TR (z_st (.iconst 1) 1 5 L S M) 97 6 M Q := T_at zk97 rfl
theorem zT97_6 : TT 97 6 L S M Q = TR (z_st (.if_icmp .le 18) 3 6 L S M) 97 9 M Q := T_at zk97 rfl
theorem zT97_9 : TT 97 9 L S M Q = TR (z_st (.aload 0) 1 9 L S M) 97 10 M Q := T_at zk97 rfl
theorem zT97_10 : TT 97 10 L S M Q = TR (z_st (.iconst (-2)) 2 10 L S M) 97 12 M Q := T_at zk97 rfl
theorem zT97_12 : TT 97 12 L S M Q = TR (z_st (.iconst (-10)) 2 12 L S M) 97 14 M Q := T_at zk97 rfl
theorem zT97_14 : TT 97 14 L S M Q = TR (z_st (.invokevirtual 117) 3 14 L S M) 97 17 M Q := T_at zk97 rfl
theorem zT97_17 : TT 97 17 L S M Q = TR (z_st (.ret 0) 1 17 L S M) 97 18 M Q := T_at zk97 rfl
theorem zT97_18 : TT 97 18 L S M Q = TR (z_st (.aload 0) 1 18 L S M) 97 19 M Q := T_at zk97 rfl
theorem zT97_19 : TT 97 19 L S M Q = TR (z_st (.fload 5) 3 19 L S M) 97 22 M Q := T_at zk97 rfl
theorem zT97_22 : TT 97 22 L S M Q = TR (z_st (.invokevirtual 207) 3 22 L S M) 97 25 M Q := T_at zk97 rfl
theorem zT97_25 : TT 97 25 L S M Q = TR (z_st (.istore 2) 1 25 L S M) 97 26 M Q := T_at zk97 rfl
theorem zT97_26 : TT 97 26 L S M Q = TR (z_st (.aload 0) 1 26 L S M) 97 27 M Q := T_at zk97 rfl
theorem zT97_27 : TT 97 27 L S M Q = TR (z_st (.fload 4) 3 27 L S M) 97 30 M Q := T_at zk97 rfl
theorem zT97_30 : TT 97 30 L S M Q = TR (z_st (.aload 0) 1 30 L S M) 97 31 M Q := T_at zk97 rfl
theorem zT97_31 : TT 97 31 L S M Q = TR (z_st (.fload 0) 3 31 L S M) 97 34 M Q := T_at zk97 rfl
theorem zT97_34 : TT 97 34 L S M Q = TR (z_st (.getfield 47) 3 34 L S M) 97 37 M Q := T_at zk97 rfl
theorem zT97_37 : TT 97 37 L S M Q = TR (z_st (.invokevirtual 138) 3 37 L S M) 97 40 M Q := T_at zk97 rfl
theorem zT97_40 : TT 97 40 L S M Q = TR (z_st (.aload 0) 1 40 L S M) 97 41 M Q := T_at zk97 rfl
theorem zT97_41 : TT 97 41 L S M Q = TR (z_st (.fload 4) 3 41 L S M) 97 44 M Q := T_at zk97 rfl
theorem zT97_44 : TT 97 44 L S M Q = TR (z_st (.iload 1) 1 44 L S M) 97 45 M Q := T_at zk97 rfl
theorem zT97_45 : TT 97 45 L S M Q = TR (z_st (.ifCond .ne 52) 3 45 L S M) 97 48 M Q := T_at zk97 rfl
theorem zT97_48 : TT 97 48 L S M Q = TR (z_st (.iconst 1) 1 48 L S M) 97 49 M Q := T_at zk97 rfl
theorem zT97_49 : TT 97 49 L S M Q = TR (z_st (.goto 53) 3 49 L S M) 97 52 M Q := T_at zk97 rfl
theorem zT97_52 : TT 97 52 L S M Q = TR (z_st (.iconst 0) 1 52 L S M) 97 53 M Q := T_at zk97 rfl
theorem zT97_53 : TT 97 53 L S M Q = TR (z_st (.invokevirtual 139) 3 53 L S M) 97 56 M Q := T_at zk97 rfl
theorem zT97_56 : TT 97 56 L S M Q = TR (z_st (.aload 0) 1 56 L S M) 97 57 M Q := T_at zk97 rfl
theorem zT97_57 : TT 97 57 L S M Q = TR (z_st (.fload 5) 3 57 L S M) 97 60 M Q := T_at zk97 rfl
theorem zT97_60 : TT 97 60 L S M Q = TR (z_st (.invokevirtual 208) 3 60 L S M) 97 63 M Q := T_at zk97 rfl
theorem zT97_63 : TT 97 63 L S M Q = TR (z_st (.istore 3) 1 63 L S M) 97 64 M Q := T_at zk97 rfl
theorem zT97_64 : TT 97 64 L S M Q = TR (z_st (.iload 3) 1 64 L S M) 97 65 M Q := T_at zk97 rfl
theorem zT97_65 : TT 97 65 L S M Q = TR (z_st (.iconst (-1)) 1 65 L S M) 97 66 M Q := T_at zk97 rfl
theorem zT97_66 : TT 97 66 L S M Q = TR (z_st (.if_icmp .ne 71) 3 66 L S M) 97 69 M Q := T_at zk97 rfl
theorem zT97_69 : TT 97 69 L S M Q = TR (z_st (.iconst (-1)) 1 69 L S M) 97 70 M Q := T_at zk97 rfl
theorem zT97_70 : TT 97 70 L S M Q = TR (z_st (.ret 0) 1 70 L S M) 97 71 M Q := T_at zk97 rfl
theorem zT97_71 : TT 97 71 L S M Q = TR (z_st (.iload 2) 1 71 L S M) 97 72 M Q := T_at zk97 rfl
theorem zT97_72 : TT 97 72 L S M Q = TR (z_st (.iconst (-1)) 1 72 L S M) 97 73 M Q := T_at zk97 rfl
theorem zT97_73 : TT 97 73 L S M Q = TR (z_st (.if_icmp .ne 82) 3 73 L S M) 97 76 M Q := T_at zk97 rfl
theorem zT97_76 : TT 97 76 L S M Q = TR (z_st (.iconst 1000) 3 76 L S M) 97 79 M Q := T_at zk97 rfl
theorem zT97_79 : TT 97 79 L S M Q = TR (z_st (.goto 83) 3 79 L S M) 97 82 M Q := T_at zk97 rfl
theorem zT97_82 : TT 97 82 L S M Q = TR (z_st (.iload 2) 1 82 L S M) 97 83 M Q := T_at zk97 rfl
theorem zT97_83 : TT 97 83 L S M Q = TR (z_st (.iload 3) 1 83 L S M) 97 84 M Q := T_at zk97 rfl
theorem zT97_84 : TT 97 84 L S M Q = TR (z_st (.isub) 1 84 L S M) 97 85 M Q := T_at zk97 rfl
theorem zT97_85 : TT 97 85 L S M Q = TR (z_st (.ret 0) 1 85 L S M) 97 86 M Q := T_at zk97 rfl
theorem zk98 : z_coL.getD 98 [] = zc98 := rfl
theorem zT98_0 : TT 98 0 L S M Q = TR (z_st (.aload 0) 1 0 L S M) 98 1 M Q := T_at zk98 rfl
theorem zT98_1 : TT 98 1 L S M Q = TR (z_st (.fload 5) 3 1 L S M) 98 4 M Q := T_at zk98 rfl
theorem zT98_4 : TT 98 4 L S M Q = TR (z_st (.invokevirtual 207) 3 4 L S M) 98 7 M Q := T_at zk98 rfl
theorem zT98_7 : TT 98 7 L S M Q = TR (z_st (.istore 1) 1 7 L S M) 98 8 M Q := T_at zk98 rfl
theorem zT98_8 : TT 98 8 L S M Q = TR (z_st (.iload 1) 1 8 L S M) 98 9 M Q := T_at zk98 rfl
theorem zT98_9 : TT 98 9 L S M Q = TR (z_st (.iconst (-1)) 1 9 L S M) 98 10 M Q := T_at zk98 rfl
theorem zT98_10 : TT 98 10 L S M Q = TR (z_st (.if_icmp .ne 15) 3 10 L S M) 98 13 M Q := T_at zk98 rfl
theorem zT98_13 : TT 98 13 L S M Q = TR (z_st (.iconst (-1)) 1 13 L S M) 98 14 M Q := T_at zk98 rfl
theorem zT98_14 : TT 98 14 L S M Q = TR (z_st (.ret 0) 1 14 L S M) 98 15 M Q := T_at zk98 rfl
theorem zT98_15 : TT 98 15 L S M Q = TR (z_st (.iconst 0) 1 15 L S M) 98 16 M Q := T_at zk98 rfl
theorem zT98_16 : TT 98 16 L S M Q = TR (z_st (.istore 2) 1 16 L S M) 98 17 M Q := T_at zk98 rfl
theorem zT98_17 : TT 98 17 L S M Q = TR (z_st (.iconst 0) 1 17 L S M) 98 18 M Q := T_at zk98 rfl
theorem zT98_18 : TT 98 18 L S M Q = TR (z_st (.istore 3) 1 18 L S M) 98 19 M Q := T_at zk98 rfl
theorem zT98_19 : TT 98 19 L S M Q = TR (z_st (.iload 3) 1 19 L S M) 98 20 M Q := T_at zk98 rfl
theorem zT98_20 : TT 98 20 L S M Q = TR (z_st (.aload 0) 1 20 L S M) 98 21 M Q := T_at zk98 rfl
theorem zT98_21 : TT 98 21 L S M Q = TR (z_st (.fload 0) 3 21 L S M) 98 24 M Q := T_at zk98 rfl
theorem zT98_24 : TT 98 24 L S M Q = TR (z_st (.getfield 43) 3 24 L S M) 98 27 M Q := T_at zk98 rfl
theorem zT98_27 : TT 98 27 L S M Q = TR (z_st (.if_icmp .ge 75) 3 27 L S M) 98 30 M Q := T_at zk98 rfl
theorem zT98_30 : TT 98 30 L S M Q = TR (z_st (.aload 0) 1 30 L S M) 98 31 M Q := T_at zk98 rfl
theorem zT98_31 : TT 98 31 L S M Q = TR (z_st (.fload 4) 3 31 L S M) 98 34 M Q := T_at zk98 rfl
theorem zT98_34 : TT 98 34 L S M Q = TR (z_st (.aload 0) 1 34 L S M) 98 35 M Q := T_at zk98 rfl
theorem zT98_35 : TT 98 35 L S M Q = TR (z_st (.fload 0) 3 35 L S M) 98 38 M Q := T_at zk98 rfl
theorem zT98_38 : TT 98 38 L S M Q = TR (z_st (.getfield 47) 3 38 L S M) 98 41 M Q := T_at zk98 rfl
theorem zT98_41 : TT 98 41 L S M Q = TR (z_st (.invokevirtual 138) 3 41 L S M) 98 44 M Q := T_at zk98 rfl
theorem zT98_44 : TT 98 44 L S M Q = TR (z_st (.aload 0) 1 44 L S M) 98 45 M Q := T_at zk98 rfl
theorem zT98_45 : TT 98 45 L S M Q = TR (z_st (.fload 4) 3 45 L S M) 98 48 M Q := T_at zk98 rfl
theorem zT98_48 : TT 98 48 L S M Q = TR (z_st (.iload 3) 1 48 L S M) 98 49 M Q := T_at zk98 rfl
theorem zT98_49 : TT 98 49 L S M Q = TR (z_st (.invokevirtual 140) 3 49 L S M) 98 52 M Q := T_at zk98 rfl
theorem zT98_52 : TT 98 52 L S M Q = TR (z_st (.aload 0) 1 52 L S M) 98 53 M Q := T_at zk98 rfl
theorem zT98_53 : TT 98 53 L S M Q = TR (z_st (.fload 5) 3 53 L S M) 98 56 M Q := T_at zk98 rfl
theorem zT98_56 : TT 98 56 L S M Q = TR (z_st (.invokevirtual 208) 3 56 L S M) 98 59 M Q := T_at zk98 rfl
theorem zT98_59 : TT 98 59 L S M Q = TR (z_st (.iload 1) 1 59 L S M) 98 60 M Q := T_at zk98 rfl
theorem zT98_60 : TT 98 60 L S M Q = TR (z_st (.if_icmp .ne 69) 3 60 L S M) 98 63 M Q := T_at zk98 rfl
theorem zT98_63 : TT 98 63 L S M Q = TR (z_st (.iload 2) 1 63 L S M) 98 64 M Q := T_at zk98 rfl
theorem zT98_64 : TT 98 64 L S M Q = TR (z_st (.iconst 1) 1 64 L S M) 98 65 M Q := T_at zk98 rfl
theorem zT98_65 : TT 98 65 L S M Q = TR (z_st (.iload 3) 1 65 L S M) 98 66 M Q := T_at zk98 rfl
theorem zT98_66 : TT 98 66 L S M Q = TR (z_st (.ishl) 1 66 L S M) 98 67 M Q := T_at zk98 rfl
theorem zT98_67 : TT 98 67 L S M Q = TR (z_st (.ior) 1 67 L S M) 98 68 M Q := T_at zk98 rfl
theorem zT98_68 : TT 98 68 L S M Q = TR (z_st (.istore 2) 1 68 L S M) 98 69 M Q := T_at zk98 rfl
theorem zT98_69 : TT 98 69 L S M Q = TR (z_st (.iinc 3 1) 3 69 L S M) 98 72 M Q := T_at zk98 rfl
theorem zT98_72 : TT 98 72 L S M Q = TR (z_st (.goto 19) 3 72 L S M) 98 75 M Q := T_at zk98 rfl
theorem zT98_75 : TT 98 75 L S M Q = TR (z_st (.iload 2) 1 75 L S M) 98 76 M Q := T_at zk98 rfl
theorem zT98_76 : TT 98 76 L S M Q = TR (z_st (.ret 0) 1 76 L S M) 98 77 M Q := T_at zk98 rfl
theorem zk99 : z_coL.getD 99 [] = zc99 := rfl
theorem zT99_0 : TT 99 0 L S M Q = TR (z_st (.aload 0) 1 0 L S M) 99 1 M Q := T_at zk99 rfl
theorem zT99_1 : TT 99 1 L S M Q = TR (z_st (.fload 4) 3 1 L S M) 99 4 M Q := T_at zk99 rfl
theorem zT99_4 : TT 99 4 L S M Q = TR (z_st (.iconst 1) 1 4 L S M) 99 5 M Q := T_at zk99 rfl
theorem zT99_5 : TT 99 5 L S M Q = TR (z_st (.invokevirtual 138) 3 5 L S M) 99 8 M Q := T_at zk99 rfl
theorem zT99_8 : TT 99 8 L S M Q = TR (z_st (.aload 0) 1 8 L S M) 99 9 M Q := T_at zk99 rfl
theorem zT99_9 : TT 99 9 L S M Q = TR (z_st (.fload 5) 3 9 L S M) 99 12 M Q := T_at zk99 rfl
theorem zT99_12 : TT 99 12 L S M Q = TR (z_st (.invokevirtual 208) 3 12 L S M) 99 15 M Q := T_at zk99 rfl
theorem zT99_15 : TT 99 15 L S M Q = TR (z_st (.istore 1) 1 15 L S M) 99 16 M Q := T_at zk99 rfl
theorem zT99_16 : TT 99 16 L S M Q = TR (z_st (.aload 0) 1 16 L S M) 99 17 M Q := T_at zk99 rfl
theorem zT99_17 : TT 99 17 L S M Q = TR (z_st (.fload 4) 3 17 L S M) 99 20 M Q := T_at zk99 rfl
theorem zT99_20 : TT 99 20 L S M Q = TR (z_st (.iconst 0) 1 20 L S M) 99 21 M Q := T_at zk99 rfl
theorem zT99_21 : TT 99 21 L S M Q = TR (z_st (.invokevirtual 138) 3 21 L S M) 99 24 M Q := T_at zk99 rfl
theorem zT99_24 : TT 99 24 L S M Q = TR (z_st (.aload 0) 1 24 L S M) 99 25 M Q := T_at zk99 rfl
theorem zT99_25 : TT 99 25 L S M Q = TR (z_st (.fload 5) 3 25 L S M) 99 28 M Q := T_at zk99 rfl
theorem zT99_28 : TT 99 28 L S M Q = TR (z_st (.invokevirtual 208) 3 28 L S M) 99 31 M Q := T_at zk99 rfl
theorem zT99_31 : TT 99 31 L S M Q = TR (z_st (.istore 2) 1 31 L S M) 99 32 M Q := T_at zk99 rfl
theorem zT99_32 : TT 99 32 L S M Q = TR (z_st (.iload 1) 1 32 L S M) 99 33 M Q := T_at zk99 rfl
theorem zT99_33 : TT 99 33 L S M Q = TR (z_st (.iconst (-1)) 1 33 L S M) 99 34 M Q := T_at zk99 rfl
theorem zT99_34 : TT 99 34 L S M Q = TR (z_st (.if_icmp .eq 42) 3 34 L S M) 99 37 M Q := T_at zk99 rfl
theorem zT99_37 : TT 99 37 L S M Q = TR (z_st (.iload 2) 1 37 L S M) 99 38 M Q := T_at zk99 rfl
theorem zT99_38 : TT 99 38 L S M Q = TR (z_st (.iconst (-1)) 1 38 L S M) 99 39 M Q := T_at zk99 rfl
theorem zT99_39 : TT 99 39 L S M Q = TR (z_st (.if_icmp .ne 46) 3 39 L S M) 99 42 M Q := T_at zk99 rfl
theorem zT99_42 : TT 99 42 L S M Q = TR (z_st (.iconst (-1)) 1 42 L S M) 99 43 M Q := T_at zk99 rfl
theorem zT99_43 : TT 99 43 L S M Q = TR (z_st (.goto 49) 3 43 L S M) 99 46 M Q := T_at zk99 rfl
theorem zT99_46 : TT 99 46 L S M Q = TR (z_st (.iload 1) 1 46 L S M) 99 47 M Q := T_at zk99 rfl
theorem zT99_47 : TT 99 47 L S M Q = TR (z_st (.iload 2) 1 47 L S M) 99 48 M Q := T_at zk99 rfl
theorem zT99_48 : TT 99 48 L S M Q = TR (z_st (.isub) 1 48 L S M) 99 49 M Q := T_at zk99 rfl
theorem zT99_49 : TT 99 49 L S M Q = TR (z_st (.ret 0) 1 49 L S M) 99 50 M Q := T_at zk99 rfl
theorem zk100 : z_coL.getD 100 [] = zc100 := rfl
theorem zT100_0 : TT 100 0 L S M Q = TR (z_st (.iload 1) 1 0 L S M) 100 1 M Q := T_at zk100 rfl
theorem zT100_1 : TT 100 1 L S M Q = TR (z_st (.ifCond .lt 10) 3 1 L S M) 100 4 M Q := T_at zk100 rfl
theorem zT100_4 : TT 100 4 L S M Q = TR (z_st (.iload 1) 1 4 L S M) 100 5 M Q := T_at zk100 rfl
theorem zT100_5 : TT 100 5 L S M Q = TR (z_st (.iconst 60) 2 5 L S M) 100 7 M Q := T_at zk100 rfl
theorem zT100_7 : TT 100 7 L S M Q = TR (z_st (.if_icmp .le 19) 3 7 L S M) 100 10 M Q := T_at zk100 rfl
theorem zT100_10 : TT 100 10 L S M Q = TR (z_st (.aload 0) 1 10 L S M) 100 11 M Q := T_at zk100 rfl
theorem zT100_11 : TT 100 11 L S M Q = TR (z_st (.iconst (-2)) 2 11 L S M) 100 13 M Q := T_at zk100 rfl
theorem zT100_13 : TT 100 13 L S M Q = TR (z_st (.iconst (-2)) 2 13 L S M) 100 15 M Q := T_at zk100 rfl
theorem zT100_15 : TT 100 15 L S M Q = TR (z_st (.invokevirtual 117) 3 15 L S M) 100 18 M Q := T_at zk100 rfl
theorem zT100_18 : TT 100 18 L S M Q = TR (z_st (.ret 0) 1 18 L S M) 100 19 M Q := T_at zk100 rfl
theorem zT100_19 : TT 100 19 L S M Q = TR (z_st (.aload 0) 1 19 L S M) 100 20 M Q := T_at zk100 rfl
theorem zT100_20 : TT 100 20 L S M Q = TR (z_st (.fload 5) 3 20 L S M) 100 23 M Q := T_at zk100 rfl
theorem zT100_23 : TT 100 23 L S M Q = TR (z_st (.invokevirtual 207) 3 23 L S M) 100 26 M Q := T_at zk100 rfl
theorem zT100_26 : TT 100 26 L S M Q = TR (z_st (.pop) 1 26 L S M) 100 27 M Q := T_at zk100 rfl
theorem zT100_27 : TT 100 27 L S M Q = TR (z_st (.iconst 0) 1 27 L S M) 100 28 M Q := T_at zk100 rfl
theorem zT100_28 : TT 100 28 L S M Q = TR (z_st (.istore 2) 1 28 L S M) 100 29 M Q := T_at zk100 rfl
theorem zT100_29 : TT 100 29 L S M Q = TR (z_st (.iconst 1) 1 29 L S M) 100 30 M Q := T_at zk100 rfl
theorem zT100_30 : TT 100 30 L S M Q = TR (z_st (.istore 3) 1 30 L S M) 100 31 M Q := T_at zk100 rfl
theorem zT100_31 : TT 100 31 L S M Q = TR (z_st (.iload 3) 1 31 L S M) 100 32 M Q := T_at zk100 rfl
theorem zT100_32 : TT 100 32 L S M Q = TR (z_st (.aload 0) 1 32 L S M) 100 33 M Q := T_at zk100 rfl
theorem zT100_33 : TT 100 33 L S M Q = TR (z_st (.fload 0) 3 33 L S M) 100 36 M Q := T_at zk100 rfl
theorem zT100_36 : TT 100 36 L S M Q = TR (z_st (.invokevirtual 189) 3 36 L S M) 100 39 M Q := T_at zk100 rfl
theorem zT100_39 : TT 100 39 L S M Q = TR (z_st (.if_icmp .gt 83) 3 39 L S M) 100 42 M Q := T_at zk100 rfl
theorem zT100_42 : TT 100 42 L S M Q = TR (z_st (.aload 0) 1 42 L S M) 100 43 M Q := T_at zk100 rfl
theorem zT100_43 : TT 100 43 L S M Q = TR (z_st (.fload 5) 3 43 L S M) 100 46 M Q := T_at zk100 rfl
theorem zT100_46 : TT 100 46 L S M Q = TR (z_st (.iload 3) 1 46 L S M) 100 47 M Q := T_at zk100 rfl
theorem zT100_47 : TT 100 47 L S M Q = TR (z_st (.invokevirtual 223) 3 47 L S M) 100 50 M Q := T_at zk100 rfl
theorem zT100_50 : TT 100 50 L S M Q = TR (z_st (.istore 4) 2 50 L S M) 100 52 M Q := T_at zk100 rfl
theorem zT100_52 : TT 100 52 L S M Q = TR (z_st (.iload 4) 2 52 L S M) 100 54 M Q := T_at zk100 rfl
theorem zT100_54 : TT 100 54 L S M Q = TR (z_st (.iconst (-1)) 1 54 L S M) 100 55 M Q := T_at zk100 rfl
theorem zT100_55 : TT 100 55 L S M Q = TR (z_st (.if_icmp .eq 77) 3 55 L S M) 100 58 M Q := T_at zk100 rfl
theorem zT100_58 : TT 100 58 L S M Q = TR (z_st (.iload 4) 2 58 L S M) 100 60 M Q := T_at zk100 rfl
theorem zT100_60 : TT 100 60 L S M Q = TR (z_st (.iload 1) 1 60 L S M) 100 61 M Q := T_at zk100 rfl
theorem zT100_61 : TT 100 61 L S M Q = TR (z_st (.if_icmp .gt 77) 3 61 L S M) 100 64 M Q := T_at zk100 rfl
theorem zT100_64 : TT 100 64 L S M Q = TR (z_st (.iload 3) 1 64 L S M) 100 65 M Q := T_at zk100 rfl
theorem zT100_65 : TT 100 65 L S M Q = TR (z_st (.invokestatic 238) 3 65 L S M) 100 68 M Q := T_at zk100 rfl
theorem zT100_68 : TT 100 68 L S M Q = TR (z_st (.iload 2) 1 68 L S M) 100 69 M Q := T_at zk100 rfl
theorem zT100_69 : TT 100 69 L S M Q = TR (z_st (.invokestatic 238) 3 69 L S M) 100 72 M Q := T_at zk100 rfl
theorem zT100_72 : TT 100 72 L S M Q = TR (z_st (.if_icmp .le 77) 3 72 L S M) 100 75 M Q := T_at zk100 rfl
theorem zT100_75 : TT 100 75 L S M Q = TR (z_st (.iload 3) 1 75 L S M) 100 76 M Q := T_at zk100 rfl
theorem zT100_76 : TT 100 76 L S M Q = TR (z_st (.istore 2) 1 76 L S M) 100 77 M Q := T_at zk100 rfl
theorem zT100_77 : TT 100 77 L S M Q = TR (z_st (.iinc 3 1) 3 77 L S M) 100 80 M Q := T_at zk100 rfl
theorem zT100_80 : TT 100 80 L S M Q = TR (z_st (.goto 31) 3 80 L S M) 100 83 M Q := T_at zk100 rfl
theorem zT100_83 : TT 100 83 L S M Q = TR (z_st (.iload 2) 1 83 L S M) 100 84 M Q := T_at zk100 rfl
theorem zT100_84 : TT 100 84 L S M Q = TR (z_st (.ret 0) 1 84 L S M) 100 85 M Q := T_at zk100 rfl
set_option maxRecDepth 100000 in
theorem zk101 : z_coL.getD 101 [] = zc101 := rfl
theorem zT101_0 : TT 101 0 L S M Q = TR (z_st (.iload 1) 1 0 L S M) 101 1 M Q := T_at zk101 rfl
theorem zT101_1 : TT 101 1 L S M Q = TR (z_st (.ifCond .lt 10) 3 1 L S M) 101 4 M Q := T_at zk101 rfl
theorem zT101_4 : TT 101 4 L S M Q = TR (z_st (.iload 1) 1 4 L S M) 101 5 M Q := T_at zk101 rfl
theorem zT101_5 : TT 101 5 L S M Q = TR (z_st (.iconst 20) 2 5 L S M) 101 7 M Q := T_at zk101 rfl
theorem zT101_7 : TT 101 7 L S M Q = TR (z_st (.if_icmp .le 19) 3 7 L S M) 101 10 M Q := T_at zk101 rfl
theorem zT101_10 : TT 101 10 L S M Q = TR (z_st (.aload 0) 1 10 L S M) 101 11 M Q := T_at zk101 rfl
theorem zT101_11 : TT 101 11 L S M Q = TR (z_st (.iconst (-2)) 2 11 L S M) 101 13 M Q := T_at zk101 rfl
theorem zT101_13 : TT 101 13 L S M Q = TR (z_st (.iconst (-2)) 2 13 L S M) 101 15 M Q := T_at zk101 rfl
theorem zT101_15 : TT 101 15 L S M Q = TR (z_st (.invokevirtual 117) 3 15 L S M) 101 18 M Q := T_at zk101 rfl
theorem zT101_18 : TT 101 18 L S M Q = TR (z_st (.ret 0) 1 18 L S M) 101 19 M Q := T_at zk101 rfl
theorem zT101_19 : TT 101 19 L S M Q = TR (z_st (.aload 0) 1 19 L S M) 101 20 M Q := T_at zk101 rfl
theorem zT101_20 : TT 101 20 L S M Q = TR (z_st (.fload 5) 3 20 L S M) 101 23 M Q := T_at zk101 rfl
theorem zT101_23 : TT 101 23 L S M Q = TR (z_st (.invokevirtual 207) 3 23 L S M) 101 26 M Q := T_at zk101 rfl
theorem zT101_26 : TT 101 26 L S M Q = TR (z_st (.iconst (-1)) 1 26 L S M) 101 27 M Q := T_at zk101 rfl
theorem zT101_27 : TT 101 27 L S M Q = TR (z_st (.if_icmp .ne 39) 3 27 L S M) 101 30 M Q := T_at zk101 rfl
theorem zT101_30 : TT 101 30 L S M Q = TR (z_st (.aload 0) 1 30 L S M) 101 31 M Q := T_at zk101 rfl
theorem zT101_31 : TT 101 31 L S M Q = TR (z_st (.iconst (-3)) 2 31 L S M) 101 33 M Q := T_at zk101 rfl
theorem zT101_33 : TT 101 33 L S M Q = TR (z_st (.iconst (-3)) 2 33 L S M) 101 35 M Q := T_at zk101 rfl
theorem zT101_35 : TT 101 35 L S M Q = TR (z_st (.invokevirtual 117) 3 35 L S M) 101 38 M Q := T_at zk101 rfl
theorem zT101_38 : TT 101 38 L S M Q = TR (z_st (.ret 0) 1 38 L S M) 101 39 M Q := T_at zk101 rfl
theorem zT101_39 : TT 101 39 L S M Q = TR (z_st (.aload 0) 1 39 L S M) 101 40 M Q := T_at zk101 rfl
theorem zT101_40 : TT 101 40 L S M Q = TR (z_st (.fload 7) 3 40 L S M) 101 43 M Q := T_at zk101 rfl
theorem zT101_43 : TT 101 43 L S M Q = TR (z_st (.iconst 20) 2 43 L S M) 101 45 M Q := T_at zk101 rfl
theorem zT101_45 : TT 101 45 L S M Q = TR (z_st (.iload 1) 1 45 L S M) 101 46 M Q := T_at zk101 rfl
theorem zT101_46 : TT 101 46 L S M Q = TR (z_st (.isub) 1 46 L S M) 101 47 M Q := T_at zk101 rfl
theorem zT101_47 : TT 101 47 L S M Q = TR (z_st (.iconst 20) 2 47 L S M) 101 49 M Q := T_at zk101 rfl
theorem zT101_49 : TT 101 49 L S M Q = TR (z_st (.aload 0) 1 49 L S M) 101 50 M Q := T_at zk101 rfl
theorem zT101_50 : TT 101 50 L S M Q = TR (z_st (.fload 5) 3 50 L S M) 101 53 M Q := T_at zk101 rfl
theorem zT101_53 : TT 101 53 L S M Q = TR (z_st (.fload 54) 3 53 L S M) 101 56 M Q := T_at zk101 rfl
theorem zT101_56 : TT 101 56 L S M Q = TR (z_st (.invokevirtual 234) 3 56 L S M) 101 59 M Q := T_at zk101 rfl
theorem zT101_59 : TT 101 59 L S M Q = TR (z_st (.invokevirtual 163) 3 59 L S M) 101 62 M Q := T_at zk101 rfl
theorem zT101_62 : TT 101 62 L S M Q = TR (z_st (.iconst 1) 1 62 L S M) 101 63 M Q := T_at zk101 rfl
theorem zT101_63 : TT 101 63 L S M Q = TR (z_st (.ret 0) 1 63 L S M) 101 64 M Q := T_at zk101 rfl
set_option maxRecDepth 100000 in
theorem zk102 : z_coL.getD 102 [] = zc102 := rfl
theorem zT102_0 : TT 102 0 L S M Q = TR (z_st (.iload 1) 1 0 L S M) 102 1 M Q := T_at zk102 rfl
theorem zT102_1 : TT 102 1 L S M Q = TR (z_st (.ifCond .lt 20) 3 1 L S M) 102 4 M Q := T_at zk102 rfl
theorem zT102_4 : TT 102 4 L S M Q = TR (z_st (.iload 1) 1 4 L S M) 102 5 M Q := T_at zk102 rfl
theorem zT102_5 : TT 102 5 L S M Q = TR (z_st (.iconst 20) 2 5 L S M) 102 7 M Q := T_at zk102 rfl
theorem zT102_7 : TT 102 7 L S M Q = TR (z_st (.if_icmp .gt 20) 3 7 L S M) 102 10 M Q := T_at zk102 rfl
theorem zT102_10 : TT 102 10 L S M Q = TR (z_st (.iload 2) 1 10 L S M) 102 11 M Q := T_at zk102 rfl
theorem zT102_11 : TT 102 11 L S M Q = TR (z_st (.ifCond .lt 20) 3 11 L S M) 102 14 M Q := T_at zk102 rfl
theorem zT102_14 : TT 102 14 L S M Q = TR (z_st (.iload 2) 1 14 L S M) 102 15 M Q := T_at zk102 rfl
theorem zT102_15 : TT 102 15 L S M Q = TR (z_st (.iconst 999999) 2 15 L S M) 102 17 M Q := T_at zk102 rfl
theorem zT102_17 : TT 102 17 L S M Q = TR (z_st (.if_icmp .le 29) 3 17 L S M) 102 20 M Q := T_at zk102 rfl
theorem zT102_20 : TT 102 20 L S M Q = TR (z_st (.aload 0) 1 20 L S M) 102 21 M Q := T_at zk102 rfl
theorem zT102_21 : TT 102 21 L S M Q = TR (z_st (.iconst (-2)) 2 21 L S M) 102 23 M Q := T_at zk102 rfl
theorem zT102_23 : TT 102 23 L S M Q = TR (z_st (.iconst (-10)) 2 23 L S M) 102 25 M Q := T_at zk102 rfl
theorem zT102_25 : TT 102 25 L S M Q = TR (z_st (.invokevirtual 117) 3 25 L S M) 102 28 M Q := T_at zk102 rfl
theorem zT102_28 : TT 102 28 L S M Q = TR (z_st (.ret 0) 1 28 L S M) 102 29 M Q := T_at zk102 rfl
theorem zT102_29 : TT 102 29 L S M Q = TR (z_st (.aload 0) 1 29 L S M) 102 30 M Q := T_at zk102 rfl
theorem zT102_30 : TT 102 30 L S M Q = TR (z_st (.fload 5) 3 30 L S M) 102 33 M Q := T_at zk102 rfl
theorem zT102_33 : TT 102 33 L S M Q = TR (z_st (.invokevirtual 207) 3 33 L S M) 102 36 M Q := T_at zk102 rfl
theorem zT102_36 : TT 102 36 L S M Q = TR (z_st (.iconst (-1)) 1 36 L S M) 102 37 M Q := T_at zk102 rfl
theorem zT102_37 : TT 102 37 L S M Q = TR (z_st (.if_icmp .ne 49) 3 37 L S M) 102 40 M Q := T_at zk102 rfl
theorem zT102_40 : TT 102 40 L S M Q = TR (z_st (.aload 0) 1 40 L S M) 102 41 M Q := T_at zk102 rfl
theorem zT102_41 : TT 102 41 L S M Q = TR (z_st (.iconst (-3)) 2 41 L S M) 102 43 M Q := T_at zk102 rfl
theorem zT102_43 : TT 102 43 L S M Q = TR (z_st (.iconst (-20)) 2 43 L S M) 102 45 M Q := T_at zk102 rfl
theorem zT102_45 : TT 102 45 L S M Q = TR (z_st (.invokevirtual 117) 3 45 L S M) 102 48 M Q := T_at zk102 rfl
theorem zT102_48 : TT 102 48 L S M Q = TR (z_st (.ret 0) 1 48 L S M) 102 49 M Q := T_at zk102 rfl
theorem zT102_49 : TT 102 49 L S M Q = TR (z_st (.aload 0) 1 49 L S M) 102 50 M Q := T_at zk102 rfl
theorem zT102_50 : TT 102 50 L S M Q = TR (z_st (.fload 5) 3 50 L S M) 102 53 M Q := T_at zk102 rfl
theorem zT102_53 : TT 102 53 L S M Q = TR (z_st (.fload 54) 3 53 L S M) 102 56 M Q := T_at zk102 rfl
theorem zT102_56 : TT 102 56 L S M Q = TR (z_st (.iload 1) 1 56 L S M) 102 57 M Q := T_at zk102 rfl
theorem zT102_57 : TT 102 57 L S M Q = TR (z_st (.iload 2) 1 57 L S M) 102 58 M Q := T_at zk102 rfl
theorem zT102_58 : TT 102 58 L S M Q = TR (z_st (.invokevirtual 236) 3 58 L S M) 102 61 M Q := T_at zk102 rfl
theorem zT102_61 : TT 102 61 L S M Q = TR (z_st (.ret 0) 1 61 L S M) 102 62 M Q := T_at zk102 rfl
set_option maxRecDepth 100000 in
theorem zk103 : z_coL.getD 103 [] = zc103 := rfl
theorem zT103_0 : TT 103 0 L S M Q = TR (z_st (.aload 0) 1 0 L S M) 103 1 M Q := T_at zk103 rfl
theorem zT103_1 : TT 103 1 L S M Q = TR (z_st (.fload 0) 3 1 L S M) 103 4 M Q := T_at zk103 rfl
theorem zT103_4 : TT 103 4 L S M Q = TR (z_st (.iload 1) 1 4 L S M) 103 5 M Q := T_at zk103 rfl
theorem zT103_5 : TT 103 5 L S M Q = TR (z_st (.invokevirtual 184) 3 5 L S M) 103 8 M Q := T_at zk103 rfl
theorem zT103_8 : TT 103 8 L S M Q = TR (z_st (.ifCond .ne 20) 3 8 L S M) 103 11 M Q := T_at zk103 rfl
theorem zT103_11 : TT 103 11 L S M Q = TR (z_st (.aload 0) 1 11 L S M) 103 12 M Q := T_at zk103 rfl
theorem zT103_12 : TT 103 12 L S M Q = TR (z_st (.iconst (-2)) 2 12 L S M) 103 14 M Q := T_at zk103 rfl
theorem zT103_14 : TT 103 14 L S M Q = TR (z_st (.iconst (-2)) 2 14 L S M) 103 16 M Q := T_at zk103 rfl
theorem zT103_16 : TT 103 16 L S M Q = TR (z_st (.invokevirtual 117) 3 16 L S M) 103 19 M Q := T_at zk103 rfl
theorem zT103_19 : TT 103 19 L S M Q = TR (z_st (.ret 0) 1 19 L S M) 103 20 M Q := T_at zk103 rfl
theorem zT103_20 : TT 103 20 L S M Q = TR (z_st (.aload 0) 1 20 L S M) 103 21 M Q := T_at zk103 rfl
theorem zT103_21 : TT 103 21 L S M Q = TR (z_st (.fload 5) 3 21 L S M) 103 24 M Q := T_at zk103 rfl
theorem zT103_24 : TT 103 24 L S M Q = TR (z_st (.invokevirtual 207) 3 24 L S M) 103 27 M Q := T_at zk103 rfl
theorem zT103_27 : TT 103 27 L S M Q = TR (z_st (.iconst (-1)) 1 27 L S M) 103 28 M Q := T_at zk103 rfl
theorem zT103_28 : TT 103 28 L S M Q = TR (z_st (.if_icmp .ne 40) 3 28 L S M) 103 31 M Q := T_at zk103 rfl
theorem zT103_31 : TT 103 31 L S M Q = TR (z_st (.aload 0) 1 31 L S M) 103 32 M Q := T_at zk103 rfl
theorem zT103_32 : TT 103 32 L S M Q = TR (z_st (.iconst (-3)) 2 32 L S M) 103 34 M Q := T_at zk103 rfl
theorem zT103_34 : TT 103 34 L S M Q = TR (z_st (.iconst (-3)) 2 34 L S M) 103 36 M Q := T_at zk103 rfl
theorem zT103_36 : TT 103 36 L S M Q = TR (z_st (.invokevirtual 117) 3 36 L S M) 103 39 M Q := T_at zk103 rfl
theorem zT103_39 : TT 103 39 L S M Q = TR (z_st (.ret 0) 1 39 L S M) 103 40 M Q := T_at zk103 rfl
theorem zT103_40 : TT 103 40 L S M Q = TR (z_st (.aload 0) 1 40 L S M) 103 41 M Q := T_at zk103 rfl
theorem zT103_41 : TT 103 41 L S M Q = TR (z_st (.fload 5) 3 41 L S M) 103 44 M Q := T_at zk103 rfl
theorem zT103_44 : TT 103 44 L S M Q = TR (z_st (.fload 54) 3 44 L S M) 103 47 M Q := T_at zk103 rfl
theorem zT103_47 : TT 103 47 L S M Q = TR (z_st (.invokevirtual 234) 3 47 L S M) 103 50 M Q := T_at zk103 rfl
theorem zT103_50 : TT 103 50 L S M Q = TR (z_st (.istore 2) 1 50 L S M) 103 51 M Q := T_at zk103 rfl
theorem zT103_51 : TT 103 51 L S M Q = TR (z_st (.iload 2) 1 51 L S M) 103 52 M Q := T_at zk103 rfl
theorem zT103_52 : TT 103 52 L S M Q = TR (z_st (.ifCond .ne 65) 3 52 L S M) 103 55 M Q := T_at zk103 rfl
theorem zT103_55 : TT 103 55 L S M Q = TR (z_st (.aload 0) 1 55 L S M) 103 56 M Q := T_at zk103 rfl
theorem zT103_56 : TT 103 56 L S M Q = TR (z_st (.fload 7) 3 56 L S M) 103 59 M Q := T_at zk103 rfl
theorem zT103_59 : TT 103 59 L S M Q = TR (z_st (.invokevirtual 162) 3 59 L S M) 103 62 M Q := T_at zk103 rfl
theorem zT103_62 : TT 103 62 L S M Q = TR (z_st (.goto 85) 3 62 L S M) 103 65 M Q := T_at zk103 rfl
theorem zT103_65 : TT 103 65 L S M Q = TR (z_st (.aload 0) 1 65 L S M) 103 66 M Q := T_at zk103 rfl
theorem zT103_66 : TT 103 66 L S M Q = TR (z_st (.fload 7) 3 66 L S M) 103 69 M Q := T_at zk103 rfl
theorem zT103_69 : TT 103 69 L S M Q = TR (z_st (.aload 0) 1 69 L S M) 103 70 M Q := T_at zk103 rfl
theorem zT103_70 : TT 103 70 L S M Q = TR (z_st (.fload 5) 3 70 L S M) 103 73 M Q := T_at zk103 rfl
theorem zT103_73 : TT 103 73 L S M Q = TR (z_st (.fload 54) 3 73 L S M) 103 76 M Q := T_at zk103 rfl
theorem zT103_76 : TT 103 76 L S M Q = TR (z_st (.iload 1) 1 76 L S M) 103 77 M Q := T_at zk103 rfl
theorem zT103_77 : TT 103 77 L S M Q = TR (z_st (.invokevirtual 235) 3 77 L S M) 103 80 M Q := T_at zk103 rfl
theorem zT103_80 : TT 103 80 L S M Q = TR (z_st (.iload 2) 1 80 L S M) 103 81 M Q := T_at zk103 rfl
theorem zT103_81 : TT 103 81 L S M Q = TR (z_st (.iconst 1) 1 81 L S M) 103 82 M Q := T_at zk103 rfl
theorem zT103_82 : TT 103 82 L S M Q = TR (z_st (.invokevirtual 163) 3 82 L S M) 103 85 M Q := T_at zk103 rfl
theorem zT103_85 : TT 103 85 L S M Q = TR (z_st (.iconst 1) 1 85 L S M) 103 86 M Q := T_at zk103 rfl
theorem zT103_86 : TT 103 86 L S M Q = TR (z_st (.ret 0) 1 86 L S M) 103 87 M Q := T_at zk103 rfl
set_option maxRecDepth 100000 in
theorem zk104 : z_coL.getD 104 [] = zc104 := rfl
theorem zT104_0 : TT 104 0 L S M Q = TR (z_st (.aload 0) 1 0 L S M) 104 1 M Q := T_at zk104 rfl
theorem zT104_1 : TT 104 1 L S M Q = TR (z_st (.fload 5) 3 1 L S M) 104 4 M Q := T_at zk104 rfl
theorem zT104_4 : TT 104 4 L S M Q = TR (z_st (.invokevirtual 207) 3 4 L S M) 104 7 M Q := T_at zk104 rfl
theorem zT104_7 : TT 104 7 L S M Q = TR (z_st (.iconst (-1)) 1 7 L S M) 104 8 M Q := T_at zk104 rfl
theorem zT104_8 : TT 104 8 L S M Q = TR (z_st (.if_icmp .ne 15) 3 8 L S M) 104 11 M Q := T_at zk104 rfl
theorem zT104_11 : TT 104 11 L S M Q = TR (z_st (.iconst (-1)) 1 11 L S M) 104 12 M Q := T_at zk104 rfl
theorem zT104_12 : TT 104 12 L S M Q = TR (z_st (.goto 29) 3 12 L S M) 104 15 M Q := T_at zk104 rfl
theorem zT104_15 : TT 104 15 L S M Q = TR (z_st (.aload 0) 1 15 L S M) 104 16 M Q := T_at zk104 rfl
theorem zT104_16 : TT 104 16 L S M Q = TR (z_st (.fload 5) 3 16 L S M) 104 19 M Q := T_at zk104 rfl
theorem zT104_19 : TT 104 19 L S M Q = TR (z_st (.fload 54) 3 19 L S M) 104 22 M Q := T_at zk104 rfl
theorem zT104_22 : TT 104 22 L S M Q = TR (z_st (.aload 0) 1 22 L S M) 104 23 M Q := T_at zk104 rfl
theorem zT104_23 : TT 104 23 L S M Q = TR (z_st (.fload 0) 3 23 L S M) 104 26 M Q := T_at zk104 rfl
theorem zT104_26 : TT 104 26 L S M Q = TR (z_st (.invokevirtual 237) 3 26 L S M) 104 29 M Q := T_at zk104 rfl
theorem zT104_29 : TT 104 29 L S M Q = TR (z_st (.ret 0) 1 29 L S M) 104 30 M Q := T_at zk104 rfl
set_option maxRecDepth 100000 in
theorem zk105 : z_coL.getD 105 [] = zc105 := rfl
theorem zT105_0 : TT 105 0 L S M Q = TR (z_st (.iload 1) 1 0 L S M) 105 1 M Q := T_at zk105 rfl
theorem zT105_1 : TT 105 1 L S M Q = TR (z_st (.ifCond .eq 15) 3 1 L S M) 105 4 M Q := T_at zk105 rfl
theorem zT105_4 : TT 105 4 L S M Q = TR (z_st (.aload 0) 1 4 L S M) 105 5 M Q := T_at zk105 rfl
theorem zT105_5 : TT 105 5 L S M Q = TR (z_st (.fload 0) 3 5 L S M) 105 8 M Q := T_at zk105 rfl
theorem zT105_8 : TT 105 8 L S M Q = TR (z_st (.iload 1) 1 8 L S M) 105 9 M Q := T_at zk105 rfl
theorem zT105_9 : TT 105 9 L S M Q = TR (z_st (.invokevirtual 190) 3 9 L S M) 105 12 M Q := T_at zk105 rfl
theorem zT105_12 : TT 105 12 L S M Q = TR (z_st (.ifCond .ne 24) 3 12 L S M) 105 15 M Q := T_at zk105 rfl
theorem zT105_15 : TT 105 15 L S M Q = TR (z_st (.aload 0) 1 15 L S M) 105 16 M Q := T_at zk105 rfl
theorem zT105_16 : TT 105 16 L S M Q = TR (z_st (.iconst (-2)) 2 16 L S M) 105 18 M Q := T_at zk105 rfl
theorem zT105_18 : TT 105 18 L S M Q = TR (z_st (.iconst (-2)) 2 18 L S M) 105 20 M Q := T_at zk105 rfl
theorem zT105_20 : TT 105 20 L S M Q = TR (z_st (.invokevirtual 117) 3 20 L S M) 105 23 M Q := T_at zk105 rfl
theorem zT105_23 : TT 105 23 L S M Q = TR (z_st (.ret 0) 1 23 L S M) 105 24 M Q := T_at zk105 rfl
theorem zT105_24 : TT 105 24 L S M Q = TR (z_st (.aload 0) 1 24 L S M) 105 25 M Q := T_at zk105 rfl
theorem zT105_25 : TT 105 25 L S M Q = TR (z_st (.fload 0) 3 25 L S M) 105 28 M Q := T_at zk105 rfl
theorem zT105_28 : TT 105 28 L S M Q = TR (z_st (.iload 1) 1 28 L S M) 105 29 M Q := T_at zk105 rfl
theorem zT105_29 : TT 105 29 L S M Q = TR (z_st (.invokevirtual 191) 3 29 L S M) 105 32 M Q := T_at zk105 rfl
theorem zT105_32 : TT 105 32 L S M Q = TR (z_st (.ifCond .ne 57) 3 32 L S M) 105 35 M Q := T_at zk105 rfl
theorem zT105_35 : TT 105 35 L S M Q = TR (z_st (.aload 0) 1 35 L S M) 105 36 M Q := T_at zk105 rfl
theorem zT105_36 : TT 105 36 L S M Q = TR (z_st (.fload 0) 3 36 L S M) 105 39 M Q := T_at zk105 rfl
theorem zT105_39 : TT 105 39 L S M Q = TR (z_st (.invokevirtual 193) 3 39 L S M) 105 42 M Q := T_at zk105 rfl
theorem zT105_42 : TT 105 42 L S M Q = TR (z_st (.iload 1) 1 42 L S M) 105 43 M Q := T_at zk105 rfl
theorem zT105_43 : TT 105 43 L S M Q = TR (z_st (.iconst (-1)) 1 43 L S M) 105 44 M Q := T_at zk105 rfl
theorem zT105_44 : TT 105 44 L S M Q = TR (z_st (.ixor) 1 44 L S M) 105 45 M Q := T_at zk105 rfl
theorem zT105_45 : TT 105 45 L S M Q = TR (z_st (.iand) 1 45 L S M) 105 46 M Q := T_at zk105 rfl
theorem zT105_46 : TT 105 46 L S M Q = TR (z_st (.ifCond .ne 57) 3 46 L S M) 105 49 M Q := T_at zk105 rfl
theorem zT105_49 : TT 105 49 L S M Q = TR (z_st (.aload 0) 1 49 L S M) 105 50 M Q := T_at zk105 rfl
theorem zT105_50 : TT 105 50 L S M Q = TR (z_st (.iload 1) 1 50 L S M) 105 51 M Q := T_at zk105 rfl
theorem zT105_51 : TT 105 51 L S M Q = TR (z_st (.invokevirtual 118) 3 51 L S M) 105 54 M Q := T_at zk105 rfl
theorem zT105_54 : TT 105 54 L S M Q = TR (z_st (.ifCond .ne 66) 3 54 L S M) 105 57 M Q := T_at zk105 rfl
theorem zT105_57 : TT 105 57 L S M Q = TR (z_st (.aload 0) 1 57 L S M) 105 58 M Q := T_at zk105 rfl
theorem zT105_58 : TT 105 58 L S M Q = TR (z_st (.iconst (-3)) 2 58 L S M) 105 60 M Q := T_at zk105 rfl
theorem zT105_60 : TT 105 60 L S M Q = TR (z_st (.iconst (-3)) 2 60 L S M) 105 62 M Q := T_at zk105 rfl
theorem zT105_62 : TT 105 62 L S M Q = TR (z_st (.invokevirtual 117) 3 62 L S M) 105 65 M Q := T_at zk105 rfl
theorem zT105_65 : TT 105 65 L S M Q = TR (z_st (.ret 0) 1 65 L S M) 105 66 M Q := T_at zk105 rfl
theorem zT105_66 : TT 105 66 L S M Q = TR (z_st (.aload 0) 1 66 L S M) 105 67 M Q := T_at zk105 rfl
theorem zT105_67 : TT 105 67 L S M Q = TR (z_st (.fload 5) 3 67 L S M) 105 70 M Q := T_at zk105 rfl
theorem zT105_70 : TT 105 70 L S M Q = TR (z_st (.invokevirtual 206) 3 70 L S M) 105 73 M Q := T_at zk105 rfl
theorem zT105_73 : TT 105 73 L S M Q = TR (z_st (.aload 0) 1 73 L S M) 105 74 M Q := T_at zk105 rfl
theorem zT105_74 : TT 105 74 L S M Q = TR (z_st (.fload 0) 3 74 L S M) 105 77 M Q := T_at zk105 rfl
theorem zT105_77 : TT 105 77 L S M Q = TR (z_st (.iload 1) 1 77 L S M) 105 78 M Q := T_at zk105 rfl
theorem zT105_78 : TT 105 78 L S M Q = TR (z_st (.invokevirtual 195) 3 78 L S M) 105 81 M Q := T_at zk105 rfl
theorem zT105_81 : TT 105 81 L S M Q = TR (z_st (.aload 0) 1 81 L S M) 105 82 M Q := T_at zk105 rfl
theorem zT105_82 : TT 105 82 L S M Q = TR (z_st (.fload 0) 3 82 L S M) 105 85 M Q := T_at zk105 rfl
theorem zT105_85 : TT 105 85 L S M Q = TR (z_st (.invokevirtual 192) 3 85 L S M) 105 88 M Q := T_at zk105 rfl
theorem zT105_88 : TT 105 88 L S M Q = TR (z_st (.ret 0) 1 88 L S M) 105 89 M Q := T_at zk105 rfl
set_option maxRecDepth 100000 in
theorem zk106 : z_coL.getD 106 [] = zc106 := rfl
theorem zT106_0 : TT 106 0 L S M Q = TR (z_st (.aload 0) 1 0 L S M) 106 1 M Q := T_at zk106 rfl
theorem zT106_1 : TT 106 1 L S M Q = TR (z_st (.fload 5) 3 1 L S M) 106 4 M Q := T_at zk106 rfl
theorem zT106_4 : TT 106 4 L S M Q = TR (z_st (.invokevirtual 206) 3 4 L S M) 106 7 M Q := T_at zk106 rfl
theorem zT106_7 : TT 106 7 L S M Q = TR (z_st (.aload 0) 1 7 L S M) 106 8 M Q := T_at zk106 rfl
theorem zT106_8 : TT 106 8 L S M Q = TR (z_st (.fload 0) 3 8 L S M) 106 11 M Q := T_at zk106 rfl
theorem zT106_11 : TT 106 11 L S M Q = TR (z_st (.invokevirtual 196) 3 11 L S M) 106 14 M Q := T_at zk106 rfl
theorem zT106_14 : TT 106 14 L S M Q = TR (z_st (.ifCond .eq 21) 3 14 L S M) 106 17 M Q := T_at zk106 rfl
theorem zT106_17 : TT 106 17 L S M Q = TR (z_st (.iconst 1) 1 17 L S M) 106 18 M Q := T_at zk106 rfl
theorem zT106_18 : TT 106 18 L S M Q = TR (z_st (.goto 29) 3 18 L S M) 106 21 M Q := T_at zk106 rfl
theorem zT106_21 : TT 106 21 L S M Q = TR (z_st (.aload 0) 1 21 L S M) 106 22 M Q := T_at zk106 rfl
theorem zT106_22 : TT 106 22 L S M Q = TR (z_st (.iconst (-3)) 2 22 L S M) 106 24 M Q := T_at zk106 rfl
theorem zT106_24 : TT 106 24 L S M Q = TR (z_st (.iconst (-3)) 2 24 L S M) 106 26 M Q := T_at zk106 rfl
theorem zT106_26 : TT 106 26 L S M Q = TR (z_st (.invokevirtual 117) 3 26 L S M) 106 29 M Q := T_at zk106 rfl
theorem zT106_29 : TT 106 29 L S M Q = TR (z_st (.ret 0) 1 29 L S M) 106 30 M Q := T_at zk106 rfl
set_option maxRecDepth 100000 in
theorem zk107 : z_coL.getD 107 [] = zc107 := rfl
theorem zT107_0 : TT 107 0 L S M Q = TR (z_st (.aload 0) 1 0 L S M) 107 1 M Q := T_at zk107 rfl
theorem zT107_1 : TT 107 1 L S M Q = TR (z_st (.fload 0) 3 1 L S M) 107 4 M Q := T_at zk107 rfl
theorem zT107_4 : TT 107 4 L S M Q = TR (z_st (.iload 1) 1 4 L S M) 107 5 M Q := T_at zk107 rfl
theorem zT107_5 : TT 107 5 L S M Q = TR (z_st (.invokevirtual 187) 3 5 L S M) 107 8 M Q := T_at zk107 rfl
theorem zT107_8 : TT 107 8 L S M Q = TR (z_st (.ifCond .eq 20) 3 8 L S M) 107 11 M Q := T_at zk107 rfl
theorem zT107_11 : TT 107 11 L S M Q = TR (z_st (.iload 2) 1 11 L S M) 107 12 M Q := T_at zk107 rfl
theorem zT107_12 : TT 107 12 L S M Q = TR (z_st (.ifCond .lt 20) 3 12 L S M) 107 15 M Q := T_at zk107 rfl
theorem zT107_15 : TT 107 15 L S M Q = TR (z_st (.iload 2) 1 15 L S M) 107 16 M Q := T_at zk107 rfl
theorem zT107_16 : TT 107 16 L S M Q = TR (z_st (.iconst 1) 1 16 L S M) 107 17 M Q := T_at zk107 rfl
theorem zT107_17 : TT 107 17 L S M Q = TR (z_st (.if_icmp .le 29) 3 17 L S M) 107 20 M Q := T_at zk107 rfl
theorem zT107_20 : TT 107 20 L S M Q = TR (z_st (.aload 0) 1 20 L S M) 107 21 M Q := T_at zk107 rfl
theorem zT107_21 : TT 107 21 L S M Q = TR (z_st (.iconst (-2)) 2 21 L S M) 107 23 M Q := T_at zk107 rfl
theorem zT107_23 : TT 107 23 L S M Q = TR (z_st (.iconst (-2)) 2 23 L S M) 107 25 M Q := T_at zk107 rfl
theorem zT107_25 : TT 107 25 L S M Q = TR (z_st (.invokevirtual 117) 3 25 L S M) 107 28 M Q := T_at zk107 rfl
theorem zT107_28 : TT 107 28 L S M Q = TR (z_st (.ret 0) 1 28 L S M) 107 29 M Q := T_at zk107 rfl
theorem zT107_29 : TT 107 29 L S M Q = TR (z_st (.aload 0) 1 29 L S M) 107 30 M Q := T_at zk107 rfl
theorem zT107_30 : TT 107 30 L S M Q = TR (z_st (.fload 0) 3 30 L S M) 107 33 M Q := T_at zk107 rfl
theorem zT107_33 : TT 107 33 L S M Q = TR (z_st (.iload 1) 1 33 L S M) 107 34 M Q := T_at zk107 rfl
theorem zT107_34 : TT 107 34 L S M Q = TR (z_st (.invokevirtual 188) 3 34 L S M) 107 37 M Q := T_at zk107 rfl
theorem zT107_37 : TT 107 37 L S M Q = TR (z_st (.iload 2) 1 37 L S M) 107 38 M Q := T_at zk107 rfl
theorem zT107_38 : TT 107 38 L S M Q = TR (z_st (.invokestatic 122) 3 38 L S M) 107 41 M Q := T_at zk107 rfl
theorem zT107_41 : TT 107 41 L S M Q = TR (z_st (.ret 0) 1 41 L S M) 107 42 M Q := T_at zk107 rfl
set_option maxRecDepth 100000 in
theorem zk108 : z_coL.getD 108 [] = zc108 := rfl
theorem zT108_0 : TT 108 0 L S M Q = TR (z_st (.iload 1) 1 0 L S M) 108 1 M Q := T_at zk108 rfl
theorem zT108_1 : TT 108 1 L S M Q = TR (z_st (.ifCond .lt 9) 3 1 L S M) 108 4 M Q := T_at zk108 rfl
theorem zT108_4 : TT 108 4 L S M Q = TR (z_st (.iload 1) 1 4 L S M) 108 5 M Q := T_at zk108 rfl
theorem zT108_5 : TT 108 5 L S M Q = TR (z_st (.iconst 2) 1 5 L S M) 108 6 M Q := T_at zk108 rfl
theorem zT108_6 : TT 108 6 L S M Q = TR (z_st (.if_icmp .le 18) 3 6 L S M) 108 9 M Q := T_at zk108 rfl
theorem zT108_9 : TT 108 9 L S M Q = TR (z_st (.aload 0) 1 9 L S M) 108 10 M Q := T_at zk108 rfl
theorem zT108_10 : TT 108 10 L S M Q = TR (z_st (.iconst (-2)) 2 10 L S M) 108 12 M Q := T_at zk108 rfl
theorem zT108_12 : TT 108 12 L S M Q = TR (z_st (.iconst (-2)) 2 12 L S M) 108 14 M Q := T_at zk108 rfl
theorem zT108_14 : TT 108 14 L S M Q = TR (z_st (.invokevirtual 117) 3 14 L S M) 108 17 M Q := T_at zk108 rfl
theorem zT108_17 : TT 108 17 L S M Q = TR (z_st (.ret 0) 1 17 L S M) 108 18 M Q := T_at zk108 rfl
theorem zT108_18 : TT 108 18 L S M Q = TR (z_st (.aload 0) 1 18 L S M) 108 19 M Q := T_at zk108 rfl
theorem zT108_19 : TT 108 19 L S M Q = TR (z_st (.iload 1) 1 19 L S M) 108 20 M Q := T_at zk108 rfl
theorem zT108_20 : TT 108 20 L S M Q = TR (z_st (.invokevirtual 123) 3 20 L S M) 108 23 M Q := T_at zk108 rfl
theorem zT108_23 : TT 108 23 L S M Q = TR (z_st (.ret 0) 1 23 L S M) 108 24 M Q := T_at zk108 rfl
set_option maxRecDepth 100000 in
theorem zk109 : z_coL.getD 109 [] = zc109 := rfl
theorem zT109_0 : TT 109 0 L S M Q = TR (z_st (.iload 1) 1 0 L S M) 109 1 M Q := T_at zk109 rfl
theorem zT109_1 : TT 109 1 L S M Q = TR (z_st (.ifCond .lt 13) 3 1 L S M) 109 4 M Q := T_at zk109 rfl
theorem zT109_4 : TT 109 4 L S M Q = TR (z_st (.iload 1) 1 4 L S M) 109 5 M Q := T_at zk109 rfl
theorem zT109_5 : TT 109 5 L S M Q = TR (z_st (.iconst 1) 1 5 L S M) 109 6 M Q := T_at zk109 rfl
theorem zT109_6 : TT 109 6 L S M Q = TR (z_st (.if_icmp .gt 13) 3 6 L S M) 109 9 M Q := T_at zk109 rfl
theorem zT109_9 : TT 109 9 L S M Q = TR (z_st (.iload 2) 1 9 L S M) 109 10 M Q := T_at zk109 rfl
theorem zT109_10 : TT 109 10 L S M Q = TR (z_st (.ifCond .ge 22) 3 10 L S M) 109 13 M Q := T_at zk109 rfl
theorem zT109_13 : TT 109 13 L S M Q = TR (z_st (.aload 0) 1 13 L S M) 109 14 M Q := T_at zk109 rfl
theorem zT109_14 : TT 109 14 L S M Q = TR (z_st (.iconst (-2)) 2 14 L S M) 109 16 M Q := T_at zk109 rfl
theorem zT109_16 : TT 109 16 L S M Q = TR (z_st (.iconst (-2)) 2 16 L S M) 109 18 M Q := T_at zk109 rfl
theorem zT109_18 : TT 109 18 L S M Q = TR (z_st (.invokevirtual 117) 3 18 L S M) 109 21 M Q := T_at zk109 rfl
theorem zT109_21 : TT 109 21 L S M Q = TR (z_st (.ret 0) 1 21 L S M) 109 22 M Q := T_at zk109 rfl
theorem zT109_22 : TT 109 22 L S M Q = TR (z_st (.iload 1) 1 22 L S M) 109 23 M Q := T_at zk109 rfl
theorem zT109_23 : TT 109 23 L S M Q = TR (z_st (.ifCond .ne 36) 3 23 L S M) 109 26 M Q := T_at zk109 rfl
theorem zT109_26 : TT 109 26 L S M Q = TR (z_st (.aload 0) 1 26 L S M) 109 27 M Q := T_at zk109 rfl
theorem zT109_27 : TT 109 27 L S M Q = TR (z_st (.fload 7) 3 27 L S M) 109 30 M Q := T_at zk109 rfl
theorem zT109_30 : TT 109 30 L S M Q = TR (z_st (.fload 34) 3 30 L S M) 109 33 M Q := T_at zk109 rfl
theorem zT109_33 : TT 109 33 L S M Q = TR (z_st (.goto 43) 3 33 L S M) 109 36 M Q := T_at zk109 rfl
theorem zT109_36 : TT 109 36 L S M Q = TR (z_st (.aload 0) 1 36 L S M) 109 37 M Q := T_at zk109 rfl
theorem zT109_37 : TT 109 37 L S M Q = TR (z_st (.fload 7) 3 37 L S M) 109 40 M Q := T_at zk109 rfl
theorem zT109_40 : TT 109 40 L S M Q = TR (z_st (.fload 35) 3 40 L S M) 109 43 M Q := T_at zk109 rfl
theorem zT109_43 : TT 109 43 L S M Q = TR (z_st (.iload 2) 1 43 L S M) 109 44 M Q := T_at zk109 rfl
theorem zT109_44 : TT 109 44 L S M Q = TR (z_st (.invokevirtual 203) 3 44 L S M) 109 47 M Q := T_at zk109 rfl
theorem zT109_47 : TT 109 47 L S M Q = TR (z_st (.ret 0) 1 47 L S M) 109 48 M Q := T_at zk109 rfl
set_option maxRecDepth 100000 in
theorem zk110 : z_coL.getD 110 [] = zc110 := rfl
theorem zT110_0 : TT 110 0 L S M Q = TR (z_st (.iload 1) 1 0 L S M) 110 1 M Q := T_at zk110 rfl
theorem zT110_1 : TT 110 1 L S M Q = TR (z_st (.ifCond .lt 9) 3 1 L S M) 110 4 M Q := T_at zk110 rfl
theorem zT110_4 : TT 110 4 L S M Q = TR (z_st (.iload 1) 1 4 L S M) 110 5 M Q := T_at zk110 rfl
theorem zT110_5 : TT 110 5 L S M Q = TR (z_st (.iconst 2) 1 5 L S M) 110 6 M Q := T_at zk110 rfl
theorem zT110_6 : TT 110 6 L S M Q = TR (z_st (.if_icmp .lt 18) 3 6 L S M) 110 9 M Q := T_at zk110 rfl
theorem zT110_9 : TT 110 9 L S M Q = TR (z_st (.aload 0) 1 9 L S M) 110 10 M Q := T_at zk110 rfl
theorem zT110_10 : TT 110 10 L S M Q = TR (z_st (.iconst (-2)) 2 10 L S M) 110 12 M Q := T_at zk110 rfl
theorem zT110_12 : TT 110 12 L S M Q = TR (z_st (.iconst (-2)) 2 12 L S M) 110 14 M Q := T_at zk110 rfl
theorem zT110_14 : TT 110 14 L S M Q = TR (z_st (.invokevirtual 117) 3 14 L S M) 110 17 M Q := T_at zk110 rfl
theorem zT110_17 : TT 110 17 L S M Q = TR (z_st (.ret 0) 1 17 L S M) 110 18 M Q := T_at zk110 rfl
theorem zT110_18 : TT 110 18 L S M Q = TR (z_st (.aload 0) 1 18 L S M) 110 19 M Q := T_at zk110 rfl
theorem zT110_19 : TT 110 19 L S M Q = TR (z_st (.fload 2) 3 19 L S M) 110 22 M Q := T_at zk110 rfl
theorem zT110_22 : TT 110 22 L S M Q = TR (z_st (.iload 1) 1 22 L S M) 110 23 M Q := T_at zk110 rfl
theorem zT110_23 : TT 110 23 L S M Q = TR (z_st (.aaload) 1 23 L S M) 110 24 M Q := T_at zk110 rfl
theorem zT110_24 : TT 110 24 L S M Q = TR (z_st (.aload 0) 1 24 L S M) 110 25 M Q := T_at zk110 rfl
theorem zT110_25 : TT 110 25 L S M Q = TR (z_st (.fload 0) 3 25 L S M) 110 28 M Q := T_at zk110 rfl
theorem zT110_28 : TT 110 28 L S M Q = TR (z_st (.invokevirtual 177) 3 28 L S M) 110 31 M Q := T_at zk110 rfl
theorem zT110_31 : TT 110 31 L S M Q = TR (z_st (.aload 0) 1 31 L S M) 110 32 M Q := T_at zk110 rfl
theorem zT110_32 : TT 110 32 L S M Q = TR (z_st (.fload 3) 3 32 L S M) 110 35 M Q := T_at zk110 rfl
theorem zT110_35 : TT 110 35 L S M Q = TR (z_st (.iload 1) 1 35 L S M) 110 36 M Q := T_at zk110 rfl
theorem zT110_36 : TT 110 36 L S M Q = TR (z_st (.iconst 1) 1 36 L S M) 110 37 M Q := T_at zk110 rfl
theorem zT110_37 : TT 110 37 L S M Q = TR (z_st (.bastore) 1 37 L S M) 110 38 M Q := T_at zk110 rfl
theorem zT110_38 : TT 110 38 L S M Q = TR (z_st (.iconst 1) 1 38 L S M) 110 39 M Q := T_at zk110 rfl
theorem zT110_39 : TT 110 39 L S M Q = TR (z_st (.ret 0) 1 39 L S M) 110 40 M Q := T_at zk110 rfl
set_option maxRecDepth 100000 in
theorem zk111 : z_coL.getD 111 [] = zc111 := rfl
theorem zT111_0 : TT 111 0 L S M Q = TR (z_st (.iload 1) 1 0 L S M) 111 1 M Q := T_at zk111 rfl
theorem zT111_1 : TT 111 1 L S M Q = TR (z_st (.ifCond .lt 9) 3 1 L S M) 111 4 M Q := T_at zk111 rfl
theorem zT111_4 : TT 111 4 L S M Q = TR (z_st (.iload 1) 1 4 L S M) 111 5 M Q := T_at zk111 rfl
theorem zT111_5 : TT 111 5 L S M Q = TR (z_st (.iconst 2) 1 5 L S M) 111 6 M Q := T_at zk111 rfl
theorem zT111_6 : TT 111 6 L S M Q = TR (z_st (.if_icmp .lt 18) 3 6 L S M) 111 9 M Q := T_at zk111 rfl
theorem zT111_9 : TT 111 9 L S M Q = TR (z_st (.aload 0) 1 9 L S M) 111 10 M Q := T_at zk111 rfl
theorem zT111_10 : TT 111 10 L S M Q = TR (z_st (.iconst (-2)) 2 10 L S M) 111 12 M Q := T_at zk111 rfl
theorem zT111_12 : TT 111 12 L S M Q = TR (z_st (.iconst (-2)) 2 12 L S M) 111 14 M Q := T_at zk111 rfl
theorem zT111_14 : TT 111 14 L S M Q = TR (z_st (.invokevirtual 117) 3 14 L S M) 111 17 M Q := T_at zk111 rfl
theorem zT111_17 : TT 111 17 L S M Q = TR (z_st (.ret 0) 1 17 L S M) 111 18 M Q := T_at zk111 rfl
theorem zT111_18 : TT 111 18 L S M Q = TR (z_st (.aload 0) 1 18 L S M) 111 19 M Q := T_at zk111 rfl
theorem zT111_19 : TT 111 19 L S M Q = TR (z_st (.fload 3) 3 19 L S M) 111 22 M Q := T_at zk111 rfl
theorem zT111_22 : TT 111 22 L S M Q = TR (z_st (.iload 1) 1 22 L S M) 111 23 M Q := T_at zk111 rfl
theorem zT111_23 : TT 111 23 L S M Q = TR (z_st (.baload) 1 23 L S M) 111 24 M Q := T_at zk111 rfl
theorem zT111_24 : TT 111 24 L S M Q = TR (z_st (.ifCond .ne 36) 3 24 L S M) 111 27 M Q := T_at zk111 rfl
theorem zT111_27 : TT 111 27 L S M Q = TR (z_st (.aload 0) 1 27 L S M) 111 28 M Q := T_at zk111 rfl
theorem zT111_28 : TT 111 28 L S M Q = TR (z_st (.iconst (-3)) 2 28 L S M) 111 30 M Q := T_at zk111 rfl
theorem zT111_30 : TT 111 30 L S M Q = TR (z_st (.iconst (-3)) 2 30 L S M) 111 32 M Q := T_at zk111 rfl
theorem zT111_32 : TT 111 32 L S M Q = TR (z_st (.invokevirtual 117) 3 32 L S M) 111 35 M Q := T_at zk111 rfl
theorem zT111_35 : TT 111 35 L S M Q = TR (z_st (.ret 0) 1 35 L S M) 111 36 M Q := T_at zk111 rfl
theorem zT111_36 : TT 111 36 L S M Q = TR (z_st (.aload 0) 1 36 L S M) 111 37 M Q := T_at zk111 rfl
theorem zT111_37 : TT 111 37 L S M Q = TR (z_st (.fload 5) 3 37 L S M) 111 40 M Q := T_at zk111 rfl
theorem zT111_40 : TT 111 40 L S M Q = TR (z_st (.invokevirtual 206) 3 40 L S M) 111 43 M Q := T_at zk111 rfl
theorem zT111_43 : TT 111 43 L S M Q = TR (z_st (.aload 0) 1 43 L S M) 111 44 M Q := T_at zk111 rfl
theorem zT111_44 : TT 111 44 L S M Q = TR (z_st (.fload 0) 3 44 L S M) 111 47 M Q := T_at zk111 rfl
theorem zT111_47 : TT 111 47 L S M Q = TR (z_st (.aload 0) 1 47 L S M) 111 48 M Q := T_at zk111 rfl
theorem zT111_48 : TT 111 48 L S M Q = TR (z_st (.fload 2) 3 48 L S M) 111 51 M Q := T_at zk111 rfl
theorem zT111_51 : TT 111 51 L S M Q = TR (z_st (.iload 1) 1 51 L S M) 111 52 M Q := T_at zk111 rfl
theorem zT111_52 : TT 111 52 L S M Q = TR (z_st (.aaload) 1 52 L S M) 111 53 M Q := T_at zk111 rfl
theorem zT111_53 : TT 111 53 L S M Q = TR (z_st (.invokevirtual 177) 3 53 L S M) 111 56 M Q := T_at zk111 rfl
theorem zT111_56 : TT 111 56 L S M Q = TR (z_st (.iconst 1) 1 56 L S M) 111 57 M Q := T_at zk111 rfl
theorem zT111_57 : TT 111 57 L S M Q = TR (z_st (.ret 0) 1 57 L S M) 111 58 M Q := T_at zk111 rfl
set_option maxRecDepth 100000 in
theorem zk112 : z_coL.getD 112 [] = zc112 := rfl
theorem zT112_0 : TT 112 0 L S M Q = TR (z_st (.iload 1) 1 0 L S M) 112 1 M Q := T_at zk112 rfl
theorem zT112_1 : TT 112 1 L S M Q = TR (z_st (.tableswitch 43 0 2 #[28, 33, 38]) 27 1 L S M) 112 28 M Q := T_at zk112 rfl
theorem zT112_28 : TT 112 28 L S M Q = TR (z_st (.aload 0) 1 28 L S M) 112 29 M Q := T_at zk112 rfl
theorem zT112_29 : TT 112 29 L S M Q = TR (z_st (.getfield 8) 3 29 L S M) 112 32 M Q := T_at zk112 rfl
theorem zT112_32 : TT 112 32 L S M Q = TR (z_st (.ret 0) 1 32 L S M) 112 33 M Q := T_at zk112 rfl
theorem zT112_33 : TT 112 33 L S M Q = TR (z_st (.aload 0) 1 33 L S M) 112 34 M Q := T_at zk112 rfl
theorem zT112_34 : TT 112 34 L S M Q = TR (z_st (.getfield 9) 3 34 L S M) 112 37 M Q := T_at zk112 rfl
theorem zT112_37 : TT 112 37 L S M Q = TR (z_st (.ret 0) 1 37 L S M) 112 38 M Q := T_at zk112 rfl
theorem zT112_38 : TT 112 38 L S M Q = TR (z_st (.aload 0) 1 38 L S M) 112 39 M Q := T_at zk112 rfl
theorem zT112_39 : TT 112 39 L S M Q = TR (z_st (.getfield 10) 3 39 L S M) 112 42 M Q := T_at zk112 rfl
theorem zT112_42 : TT 112 42 L S M Q = TR (z_st (.ret 0) 1 42 L S M) 112 43 M Q := T_at zk112 rfl
theorem zT112_43 : TT 112 43 L S M Q = TR (z_st (.aload 0) 1 43 L S M) 112 44 M Q := T_at zk112 rfl
theorem zT112_44 : TT 112 44 L S M Q = TR (z_st (.iconst (-2)) 2 44 L S M) 112 46 M Q := T_at zk112 rfl
theorem zT112_46 : TT 112 46 L S M Q = TR (z_st (.iconst (-1)) 1 46 L S M) 112 47 M Q := T_at zk112 rfl
theorem zT112_47 : TT 112 47 L S M Q = TR (z_st (.invokevirtual 117) 3 47 L S M) 112 50 M Q := T_at zk112 rfl
theorem zT112_50 : TT 112 50 L S M Q = TR (z_st (.ret 0) 1 50 L S M) 112 51 M Q := T_at zk112 rfl
set_option maxRecDepth 100000 in
theorem zk113 : z_coL.getD 113 [] = zc113 := rfl
theorem zT113_0 : TT 113 0 L S M Q = TR (z_st (.iload 1) 1 0 L S M) 113 1 M Q := T_at zk113 rfl
theorem zT113_1 : TT 113 1 L S M Q = TR (z_st (.ifCond .lt 9) 3 1 L S M) 113 4 M Q := T_at zk113 rfl
theorem zT113_4 : TT 113 4 L S M Q = TR (z_st (.iload 1) 1 4 L S M) 113 5 M Q := T_at zk113 rfl
theorem zT113_5 : TT 113 5 L S M Q = TR (z_st (.iconst 4) 1 5 L S M) 113 6 M Q := T_at zk113 rfl
theorem zT113_6 : TT 113 6 L S M Q = TR (z_st (.if_icmp .le 20) 3 6 L S M) 113 9 M Q := T_at zk113 rfl
theorem zT113_9 : TT 113 9 L S M Q = TR (z_st (.aload 0) 1 9 L S M) 113 10 M Q := T_at zk113 rfl
theorem zT113_10 : TT 113 10 L S M Q = TR (z_st (.iconst (-2)) 2 10 L S M) 113 12 M Q := T_at zk113 rfl
theorem zT113_12 : TT 113 12 L S M Q = TR (z_st (.iconst (-2)) 2 12 L S M) 113 14 M Q := T_at zk113 rfl
theorem zT113_14 : TT 113 14 L S M Q = TR (z_st (.invokevirtual 117) 3 14 L S M) 113 17 M Q := T_at zk113 rfl
theorem zT113_17 : TT 113 17 L S M Q = TR (z_st (.goto 25) 3 17 L S M) 113 20 M Q := T_at zk113 rfl
theorem zT113_20 : TT 113 20 L S M Q = TR (z_st (.aload 0) 1 20 L S M) 113 21 M Q := T_at zk113 rfl
theorem zT113_21 : TT 113 21 L S M Q = TR (z_st (.iload 1) 1 21 L S M) 113 22 M Q := T_at zk113 rfl
theorem zT113_22 : TT 113 22 L S M Q = TR (z_st (.invokevirtual 124) 3 22 L S M) 113 25 M Q := T_at zk113 rfl
theorem zT113_25 : TT 113 25 L S M Q = TR (z_st (.ret 0) 1 25 L S M) 113 26 M Q := T_at zk113 rfl
set_option maxRecDepth 100000 in
theorem zk114 : z_coL.getD 114 [] = zc114 := rfl
theorem zT114_0 : TT 114 0 L S M Q = TR (z_st (.ldc2_w 709) 3 0 L S M) 114 3 M Q := T_at zk114 rfl
theorem zT114_3 : TT 114 3 L S M Q = TR (z_st (.lstore 1) 1 3 L S M) 114 4 M Q := T_at zk114 rfl
theorem zT114_4 : TT 114 4 L S M Q = TR (z_st (.iconst 0) 1 4 L S M) 114 5 M Q := T_at zk114 rfl
theorem zT114_5 : TT 114 5 L S M Q = TR (z_st (.istore 3) 1 5 L S M) 114 6 M Q := T_at zk114 rfl
theorem zT114_6 : TT 114 6 L S M Q = TR (z_st (.iload 3) 1 6 L S M) 114 7 M Q := T_at zk114 rfl
theorem zT114_7 : TT 114 7 L S M Q = TR (z_st (.iconst 4) 1 7 L S M) 114 8 M Q := T_at zk114 rfl
theorem zT114_8 : TT 114 8 L S M Q = TR (z_st (.if_icmp .gt 30) 3 8 L S M) 114 11 M Q := T_at zk114 rfl
theorem zT114_11 : TT 114 11 L S M Q = TR (z_st (.ldc2_w 31) 3 11 L S M) 114 14 M Q := T_at zk114 rfl
theorem zT114_14 : TT 114 14 L S M Q = TR (z_st (.lload 1) 1 14 L S M) 114 15 M Q := T_at zk114 rfl
theorem zT114_15 : TT 114 15 L S M Q = TR (z_st (.lmul) 1 15 L S M) 114 16 M Q := T_at zk114 rfl
theorem zT114_16 : TT 114 16 L S M Q = TR (z_st (.aload 0) 1 16 L S M) 114 17 M Q := T_at zk114 rfl
theorem zT114_17 : TT 114 17 L S M Q = TR (z_st (.iload 3) 1 17 L S M) 114 18 M Q := T_at zk114 rfl
theorem zT114_18 : TT 114 18 L S M Q = TR (z_st (.invokevirtual 124) 3 18 L S M) 114 21 M Q := T_at zk114 rfl
theorem zT114_21 : TT 114 21 L S M Q = TR (z_st (.i2l) 1 21 L S M) 114 22 M Q := T_at zk114 rfl
theorem zT114_22 : TT 114 22 L S M Q = TR (z_st (.ladd) 1 22 L S M) 114 23 M Q := T_at zk114 rfl
theorem zT114_23 : TT 114 23 L S M Q = TR (z_st (.lstore 1) 1 23 L S M) 114 24 M Q := T_at zk114 rfl
theorem zT114_24 : TT 114 24 L S M Q = TR (z_st (.iinc 3 1) 3 24 L S M) 114 27 M Q := T_at zk114 rfl
theorem zT114_27 : TT 114 27 L S M Q = TR (z_st (.goto 6) 3 27 L S M) 114 30 M Q := T_at zk114 rfl
theorem zT114_30 : TT 114 30 L S M Q = TR (z_st (.aload 0) 1 30 L S M) 114 31 M Q := T_at zk114 rfl
theorem zT114_31 : TT 114 31 L S M Q = TR (z_st (.fload 0) 3 31 L S M) 114 34 M Q := T_at zk114 rfl
theorem zT114_34 : TT 114 34 L S M Q = TR (z_st (.lload 1) 1 34 L S M) 114 35 M Q := T_at zk114 rfl
theorem zT114_35 : TT 114 35 L S M Q = TR (z_st (.invokevirtual 198) 3 35 L S M) 114 38 M Q := T_at zk114 rfl
theorem zT114_38 : TT 114 38 L S M Q = TR (z_st (.lstore 1) 1 38 L S M) 114 39 M Q := T_at zk114 rfl
theorem zT114_39 : TT 114 39 L S M Q = TR (z_st (.iconst 0) 1 39 L S M) 114 40 M Q := T_at zk114 rfl
theorem zT114_40 : TT 114 40 L S M Q = TR (z_st (.istore 3) 1 40 L S M) 114 41 M Q := T_at zk114 rfl
theorem zT114_41 : TT 114 41 L S M Q = TR (z_st (.iload 3) 1 41 L S M) 114 42 M Q := T_at zk114 rfl
theorem zT114_42 : TT 114 42 L S M Q = TR (z_st (.aload 0) 1 42 L S M) 114 43 M Q := T_at zk114 rfl
theorem zT114_43 : TT 114 43 L S M Q = TR (z_st (.fload 0) 3 43 L S M) 114 46 M Q := T_at zk114 rfl
theorem zT114_46 : TT 114 46 L S M Q = TR (z_st (.getfield 45) 3 46 L S M) 114 49 M Q := T_at zk114 rfl
theorem zT114_49 : TT 114 49 L S M Q = TR (z_st (.if_icmp .ge 96) 3 49 L S M) 114 52 M Q := T_at zk114 rfl
theorem zT114_52 : TT 114 52 L S M Q = TR (z_st (.aload 0) 1 52 L S M) 114 53 M Q := T_at zk114 rfl
theorem zT114_53 : TT 114 53 L S M Q = TR (z_st (.fload 0) 3 53 L S M) 114 56 M Q := T_at zk114 rfl
theorem zT114_56 : TT 114 56 L S M Q = TR (z_st (.iload 3) 1 56 L S M) 114 57 M Q := T_at zk114 rfl
theorem zT114_57 : TT 114 57 L S M Q = TR (z_st (.invokevirtual 188) 3 57 L S M) 114 60 M Q := T_at zk114 rfl
theorem zT114_60 : TT 114 60 L S M Q = TR (z_st (.astore 4) 2 60 L S M) 114 62 M Q := T_at zk114 rfl
theorem zT114_62 : TT 114 62 L S M Q = TR (z_st (.ldc2_w 31) 3 62 L S M) 114 65 M Q := T_at zk114 rfl
theorem zT114_65 : TT 114 65 L S M Q = TR (z_st (.lload 1) 1 65 L S M) 114 66 M Q := T_at zk114 rfl
theorem zT114_66 : TT 114 66 L S M Q = TR (z_st (.lmul) 1 66 L S M) 114 67 M Q := T_at zk114 rfl
theorem zT114_67 : TT 114 67 L S M Q = TR (z_st (.aload 4) 2 67 L S M) 114 69 M Q := T_at zk114 rfl
theorem zT114_69 : TT 114 69 L S M Q = TR (z_st (.iconst 0) 1 69 L S M) 114 70 M Q := T_at zk114 rfl
theorem zT114_70 : TT 114 70 L S M Q = TR (z_st (.invokestatic 122) 3 70 L S M) 114 73 M Q := T_at zk114 rfl
theorem zT114_73 : TT 114 73 L S M Q = TR (z_st (.i2l) 1 73 L S M) 114 74 M Q := T_at zk114 rfl
theorem zT114_74 : TT 114 74 L S M Q = TR (z_st (.ladd) 1 74 L S M) 114 75 M Q := T_at zk114 rfl
theorem zT114_75 : TT 114 75 L S M Q = TR (z_st (.lstore 1) 1 75 L S M) 114 76 M Q := T_at zk114 rfl
theorem zT114_76 : TT 114 76 L S M Q = TR (z_st (.ldc2_w 31) 3 76 L S M) 114 79 M Q := T_at zk114 rfl
theorem zT114_79 : TT 114 79 L S M Q = TR (z_st (.lload 1) 1 79 L S M) 114 80 M Q := T_at zk114 rfl
theorem zT114_80 : TT 114 80 L S M Q = TR (z_st (.lmul) 1 80 L S M) 114 81 M Q := T_at zk114 rfl
theorem zT114_81 : TT 114 81 L S M Q = TR (z_st (.aload 4) 2 81 L S M) 114 83 M Q := T_at zk114 rfl
theorem zT114_83 : TT 114 83 L S M Q = TR (z_st (.iconst 1) 1 83 L S M) 114 84 M Q := T_at zk114 rfl
theorem zT114_84 : TT 114 84 L S M Q = TR (z_st (.invokestatic 122) 3 84 L S M) 114 87 M Q := T_at zk114 rfl
theorem zT114_87 : TT 114 87 L S M Q = TR (z_st (.i2l) 1 87 L S M) 114 88 M Q := T_at zk114 rfl
theorem zT114_88 : TT 114 88 L S M Q = TR (z_st (.ladd) 1 88 L S M) 114 89 M Q := T_at zk114 rfl
theorem zT114_89 : TT 114 89 L S M Q = TR (z_st (.lstore 1) 1 89 L S M) 114 90 M Q := T_at zk114 rfl
theorem zT114_90 : TT 114 90 L S M Q = TR (z_st (.iinc 3 1) 3 90 L S M) 114 93 M Q := T_at zk114 rfl
theorem zT114_93 : TT 114 93 L S M Q = TR (z_st (.goto 41) 3 93 L S M) 114 96 M Q := T_at zk114 rfl
theorem zT114_96 : TT 114 96 L S M Q = TR (z_st (.iconst 0) 1 96 L S M) 114 97 M Q := T_at zk114 rfl
theorem zT114_97 : TT 114 97 L S M Q = TR (z_st (.istore 3) 1 97 L S M) 114 98 M Q := T_at zk114 rfl
theorem zT114_98 : TT 114 98 L S M Q = TR (z_st (.iload 3) 1 98 L S M) 114 99 M Q := T_at zk114 rfl
theorem zT114_99 : TT 114 99 L S M Q = TR (z_st (.iconst 2) 1 99 L S M) 114 100 M Q := T_at zk114 rfl
theorem zT114_100 : TT 114 100 L S M Q = TR (z_st (.if_icmp .gt 122) 3 100 L S M) 114 103 M Q := T_at zk114 rfl
theorem zT114_103 : TT 114 103 L S M Q = TR (z_st (.ldc2_w 31) 3 103 L S M) 114 106 M Q := T_at zk114 rfl
theorem zT114_106 : TT 114 106 L S M Q = TR (z_st (.lload 1) 1 106 L S M) 114 107 M Q := T_at zk114 rfl
theorem zT114_107 : TT 114 107 L S M Q = TR (z_st (.lmul) 1 107 L S M) 114 108 M Q := T_at zk114 rfl
theorem zT114_108 : TT 114 108 L S M Q = TR (z_st (.aload 0) 1 108 L S M) 114 109 M Q := T_at zk114 rfl
theorem zT114_109 : TT 114 109 L S M Q = TR (z_st (.iload 3) 1 109 L S M) 114 110 M Q := T_at zk114 rfl
theorem zT114_110 : TT 114 110 L S M Q = TR (z_st (.invokevirtual 123) 3 110 L S M) 114 113 M Q := T_at zk114 rfl
theorem zT114_113 : TT 114 113 L S M Q = TR (z_st (.i2l) 1 113 L S M) 114 114 M Q := T_at zk114 rfl
theorem zT114_114 : TT 114 114 L S M Q = TR (z_st (.ladd) 1 114 L S M) 114 115 M Q := T_at zk114 rfl
theorem zT114_115 : TT 114 115 L S M Q = TR (z_st (.lstore 1) 1 115 L S M) 114 116 M Q := T_at zk114 rfl
theorem zT114_116 : TT 114 116 L S M Q = TR (z_st (.iinc 3 1) 3 116 L S M) 114 119 M Q := T_at zk114 rfl
theorem zT114_119 : TT 114 119 L S M Q = TR (z_st (.goto 98) 3 119 L S M) 114 122 M Q := T_at zk114 rfl
theorem zT114_122 : TT 114 122 L S M Q = TR (z_st (.aload 0) 1 122 L S M) 114 123 M Q := T_at zk114 rfl
theorem zT114_123 : TT 114 123 L S M Q = TR (z_st (.fload 7) 3 123 L S M) 114 126 M Q := T_at zk114 rfl
theorem zT114_126 : TT 114 126 L S M Q = TR (z_st (.fload 35) 3 126 L S M) 114 129 M Q := T_at zk114 rfl
theorem zT114_129 : TT 114 129 L S M Q = TR (z_st (.aload 0) 1 129 L S M) 114 130 M Q := T_at zk114 rfl
theorem zT114_130 : TT 114 130 L S M Q = TR (z_st (.fload 7) 3 130 L S M) 114 133 M Q := T_at zk114 rfl
theorem zT114_133 : TT 114 133 L S M Q = TR (z_st (.fload 34) 3 133 L S M) 114 136 M Q := T_at zk114 rfl
theorem zT114_136 : TT 114 136 L S M Q = TR (z_st (.lload 1) 1 136 L S M) 114 137 M Q := T_at zk114 rfl
theorem zT114_137 : TT 114 137 L S M Q = TR (z_st (.invokevirtual 204) 3 137 L S M) 114 140 M Q := T_at zk114 rfl
theorem zT114_140 : TT 114 140 L S M Q = TR (z_st (.invokevirtual 204) 3 140 L S M) 114 143 M Q := T_at zk114 rfl
theorem zT114_143 : TT 114 143 L S M Q = TR (z_st (.lreturn) 1 143 L S M) 114 144 M Q := T_at zk114 rfl
set_option maxRecDepth 100000 in
theorem zk115 : z_coL.getD 115 [] = zc115 := rfl
theorem zT115_0 : TT 115 0 L S M Q = TR (z_st (.iload 0) 1 0 L S M) 115 1 M Q := T_at zk115 rfl
theorem zT115_1 : TT 115 1 L S M Q = TR (z_st (.iconst (-2)) 2 1 L S M) 115 3 M Q := T_at zk115 rfl
theorem zT115_3 : TT 115 3 L S M Q = TR (z_st (.if_icmp .eq 18) 3 3 L S M) 115 6 M Q := T_at zk115 rfl
theorem zT115_6 : TT 115 6 L S M Q = TR (z_st (.iload 0) 1 6 L S M) 115 7 M Q := T_at zk115 rfl
theorem zT115_7 : TT 115 7 L S M Q = TR (z_st (.iconst (-3)) 2 7 L S M) 115 9 M Q := T_at zk115 rfl
theorem zT115_9 : TT 115 9 L S M Q = TR (z_st (.if_icmp .eq 18) 3 9 L S M) 115 12 M Q := T_at zk115 rfl
theorem zT115_12 : TT 115 12 L S M Q = TR (z_st (.iload 0) 1 12 L S M) 115 13 M Q := T_at zk115 rfl
theorem zT115_13 : TT 115 13 L S M Q = TR (z_st (.iconst (-4)) 2 13 L S M) 115 15 M Q := T_at zk115 rfl
theorem zT115_15 : TT 115 15 L S M Q = TR (z_st (.if_icmp .ne 22) 3 15 L S M) 115 18 M Q := T_at zk115 rfl
theorem zT115_18 : TT 115 18 L S M Q = TR (z_st (.iconst 1) 1 18 L S M) 115 19 M Q := T_at zk115 rfl
theorem zT115_19 : TT 115 19 L S M Q = TR (z_st (.goto 23) 3 19 L S M) 115 22 M Q := T_at zk115 rfl
theorem zT115_22 : TT 115 22 L S M Q = TR (z_st (.iconst 0) 1 22 L S M) 115 23 M Q := T_at zk115 rfl
theorem zT115_23 : TT 115 23 L S M Q = TR (z_st (.ret 1) 1 23 L S M) 115 24 M Q := T_at zk115 rfl
set_option maxRecDepth 100000 in
theorem zk116 : z_coL.getD 116 [] = zc116 := rfl
theorem zT116_0 : TT 116 0 L S M Q = TR (z_st (.iload 1) 1 0 L S M) 116 1 M Q := T_at zk116 rfl
theorem zT116_1 : TT 116 1 L S M Q = TR (z_st (.invokestatic 115) 3 1 L S M) 116 4 M Q := T_at zk116 rfl
theorem zT116_4 : TT 116 4 L S M Q = TR (z_st (.ifCond .eq 16) 3 4 L S M) 116 7 M Q := T_at zk116 rfl
theorem zT116_7 : TT 116 7 L S M Q = TR (z_st (.aload 0) 1 7 L S M) 116 8 M Q := T_at zk116 rfl
theorem zT116_8 : TT 116 8 L S M Q = TR (z_st (.iload 1) 1 8 L S M) 116 9 M Q := T_at zk116 rfl
theorem zT116_9 : TT 116 9 L S M Q = TR (z_st (.iload 1) 1 9 L S M) 116 10 M Q := T_at zk116 rfl
theorem zT116_10 : TT 116 10 L S M Q = TR (z_st (.invokevirtual 117) 3 10 L S M) 116 13 M Q := T_at zk116 rfl
theorem zT116_13 : TT 116 13 L S M Q = TR (z_st (.goto 17) 3 13 L S M) 116 16 M Q := T_at zk116 rfl
theorem zT116_16 : TT 116 16 L S M Q = TR (z_st (.iload 1) 1 16 L S M) 116 17 M Q := T_at zk116 rfl
theorem zT116_17 : TT 116 17 L S M Q = TR (z_st (.ret 0) 1 17 L S M) 116 18 M Q := T_at zk116 rfl
set_option maxRecDepth 100000 in
theorem zk117 : z_coL.getD 117 [] = zc117 := rfl
theorem zT117_0 : TT 117 0 L S M Q = TR (z_st (.iload 1) 1 0 L S M) 117 1 M Q := T_at zk117 rfl
theorem zT117_1 : TT 117 1 L S M Q = TR (z_st (.iconst (-2)) 2 1 L S M) 117 3 M Q := T_at zk117 rfl
theorem zT117_3 : TT 117 3 L S M Q = TR (z_st (.if_icmp .ne 19) 3 3 L S M) 117 6 M Q := T_at zk117 rfl
theorem zT117_6 : TT 117 6 L S M Q = TR (z_st (.aload 0) 1 6 L S M) 117 7 M Q := T_at zk117 rfl
theorem zT117_7 : TT 117 7 L S M Q = TR (z_st (.dup) 1 7 L S M) 117 8 M Q := T_at zk117 rfl
theorem zT117_8 : TT 117 8 L S M Q = TR (z_st (.getfield 8) 3 8 L S M) 117 11 M Q := T_at zk117 rfl
theorem zT117_11 : TT 117 11 L S M Q = TR (z_st (.iconst 1) 1 11 L S M) 117 12 M Q := T_at zk117 rfl
theorem zT117_12 : TT 117 12 L S M Q = TR (z_st (.iadd) 1 12 L S M) 117 13 M Q := T_at zk117 rfl
theorem zT117_13 : TT 117 13 L S M Q = TR (z_st (.putfield 8) 3 13 L S M) 117 16 M Q := T_at zk117 rfl
theorem zT117_16 : TT 117 16 L S M Q = TR (z_st (.goto 48) 3 16 L S M) 117 19 M Q := T_at zk117 rfl
theorem zT117_19 : TT 117 19 L S M Q = TR (z_st (.iload 1) 1 19 L S M) 117 20 M Q := T_at zk117 rfl
theorem zT117_20 : TT 117 20 L S M Q = TR (z_st (.iconst (-3)) 2 20 L S M) 117 22 M Q := T_at zk117 rfl
theorem zT117_22 : TT 117 22 L S M Q = TR (z_st (.if_icmp .ne 38) 3 22 L S M) 117 25 M Q := T_at zk117 rfl
theorem zT117_25 : TT 117 25 L S M Q = TR (z_st (.aload 0) 1 25 L S M) 117 26 M Q := T_at zk117 rfl
theorem zT117_26 : TT 117 26 L S M Q = TR (z_st (.dup) 1 26 L S M) 117 27 M Q := T_at zk117 rfl
theorem zT117_27 : TT 117 27 L S M Q = TR (z_st (.getfield 9) 3 27 L S M) 117 30 M Q := T_at zk117 rfl
theorem zT117_30 : TT 117 30 L S M Q = TR (z_st (.iconst 1) 1 30 L S M) 117 31 M Q := T_at zk117 rfl
theorem zT117_31 : TT 117 31 L S M Q = TR (z_st (.iadd) 1 31 L S M) 117 32 M Q := T_at zk117 rfl
theorem zT117_32 : TT 117 32 L S M Q = TR (z_st (.putfield 9) 3 32 L S M) 117 35 M Q := T_at zk117 rfl
theorem zT117_35 : TT 117 35 L S M Q = TR (z_st (.goto 48) 3 35 L S M) 117 38 M Q := T_at zk117 rfl
theorem zT117_38 : TT 117 38 L S M Q = TR (z_st (.aload 0) 1 38 L S M) 117 39 M Q := T_at zk117 rfl
theorem zT117_39 : TT 117 39 L S M Q = TR (z_st (.dup) 1 39 L S M) 117 40 M Q := T_at zk117 rfl
theorem zT117_40 : TT 117 40 L S M Q = TR (z_st (.getfield 10) 3 40 L S M) 117 43 M Q := T_at zk117 rfl
theorem zT117_43 : TT 117 43 L S M Q = TR (z_st (.iconst 1) 1 43 L S M) 117 44 M Q := T_at zk117 rfl
theorem zT117_44 : TT 117 44 L S M Q = TR (z_st (.iadd) 1 44 L S M) 117 45 M Q := T_at zk117 rfl
theorem zT117_45 : TT 117 45 L S M Q = TR (z_st (.putfield 10) 3 45 L S M) 117 48 M Q := T_at zk117 rfl
theorem zT117_48 : TT 117 48 L S M Q = TR (z_st (.iload 2) 1 48 L S M) 117 49 M Q := T_at zk117 rfl
theorem zT117_49 : TT 117 49 L S M Q = TR (z_st (.ret 0) 1 49 L S M) 117 50 M Q := T_at zk117 rfl
set_option maxRecDepth 100000 in
theorem zk118 : z_coL.getD 118 [] = zc118 := rfl
theorem zT118_0 : TT 118 0 L S M Q = TR (z_st (.aload 0) 1 0 L S M) 118 1 M Q := T_at zk118 rfl
theorem zT118_1 : TT 118 1 L S M Q = TR (z_st (.fload 4) 3 1 L S M) 118 4 M Q := T_at zk118 rfl
theorem zT118_4 : TT 118 4 L S M Q = TR (z_st (.aload 0) 1 4 L S M) 118 5 M Q := T_at zk118 rfl
theorem zT118_5 : TT 118 5 L S M Q = TR (z_st (.fload 0) 3 5 L S M) 118 8 M Q := T_at zk118 rfl
theorem zT118_8 : TT 118 8 L S M Q = TR (z_st (.getfield 47) 3 8 L S M) 118 11 M Q := T_at zk118 rfl
theorem zT118_11 : TT 118 11 L S M Q = TR (z_st (.invokevirtual 138) 3 11 L S M) 118 14 M Q := T_at zk118 rfl
theorem zT118_14 : TT 118 14 L S M Q = TR (z_st (.aload 0) 1 14 L S M) 118 15 M Q := T_at zk118 rfl
theorem zT118_15 : TT 118 15 L S M Q = TR (z_st (.fload 4) 3 15 L S M) 118 18 M Q := T_at zk118 rfl
theorem zT118_18 : TT 118 18 L S M Q = TR (z_st (.aload 0) 1 18 L S M) 118 19 M Q := T_at zk118 rfl
theorem zT118_19 : TT 118 19 L S M Q = TR (z_st (.fload 0) 3 19 L S M) 118 22 M Q := T_at zk118 rfl
theorem zT118_22 : TT 118 22 L S M Q = TR (z_st (.iload 1) 1 22 L S M) 118 23 M Q := T_at zk118 rfl
theorem zT118_23 : TT 118 23 L S M Q = TR (z_st (.invokevirtual 194) 3 23 L S M) 118 26 M Q := T_at zk118 rfl
theorem zT118_26 : TT 118 26 L S M Q = TR (z_st (.invokevirtual 142) 3 26 L S M) 118 29 M Q := T_at zk118 rfl
theorem zT118_29 : TT 118 29 L S M Q = TR (z_st (.ret 1) 1 29 L S M) 118 30 M Q := T_at zk118 rfl
set_option maxRecDepth 100000 in
theorem zk119 : z_coL.getD 119 [] = zc119 := rfl
theorem zT119_0 : TT 119 0 L S M Q = TR (z_st (.iload 0) 1 0 L S M) 119 1 M Q := T_at zk119 rfl
theorem zT119_1 : TT 119 1 L S M Q = TR (z_st (.iload 1) 1 1 L S M) 119 2 M Q := T_at zk119 rfl
theorem zT119_2 : TT 119 2 L S M Q = TR (z_st (.ishr) 1 2 L S M) 119 3 M Q := T_at zk119 rfl
theorem zT119_3 : TT 119 3 L S M Q = TR (z_st (.iconst 1) 1 3 L S M) 119 4 M Q := T_at zk119 rfl
theorem zT119_4 : TT 119 4 L S M Q = TR (z_st (.iand) 1 4 L S M) 119 5 M Q := T_at zk119 rfl
theorem zT119_5 : TT 119 5 L S M Q = TR (z_st (.ifCond .eq 12) 3 5 L S M) 119 8 M Q := T_at zk119 rfl
theorem zT119_8 : TT 119 8 L S M Q = TR (z_st (.iconst 1) 1 8 L S M) 119 9 M Q := T_at zk119 rfl
theorem zT119_9 : TT 119 9 L S M Q = TR (z_st (.goto 13) 3 9 L S M) 119 12 M Q := T_at zk119 rfl
theorem zT119_12 : TT 119 12 L S M Q = TR (z_st (.iconst 0) 1 12 L S M) 119 13 M Q := T_at zk119 rfl
theorem zT119_13 : TT 119 13 L S M Q = TR (z_st (.ret 1) 1 13 L S M) 119 14 M Q := T_at zk119 rfl
set_option maxRecDepth 100000 in
theorem zk120 : z_coL.getD 120 [] = zc120 := rfl
theorem zT120_0 : TT 120 0 L S M Q = TR (z_st (.iconst 2) 1 0 L S M) 120 1 M Q := T_at zk120 rfl
theorem zT120_1 : TT 120 1 L S M Q = TR (z_st (.iload 1) 1 1 L S M) 120 2 M Q := T_at zk120 rfl
theorem zT120_2 : TT 120 2 L S M Q = TR (z_st (.imul) 1 2 L S M) 120 3 M Q := T_at zk120 rfl
theorem zT120_3 : TT 120 3 L S M Q = TR (z_st (.istore 3) 1 3 L S M) 120 4 M Q := T_at zk120 rfl
theorem zT120_4 : TT 120 4 L S M Q = TR (z_st (.iload 0) 1 4 L S M) 120 5 M Q := T_at zk120 rfl
theorem zT120_5 : TT 120 5 L S M Q = TR (z_st (.iconst 3) 1 5 L S M) 120 6 M Q := T_at zk120 rfl
theorem zT120_6 : TT 120 6 L S M Q = TR (z_st (.iload 3) 1 6 L S M) 120 7 M Q := T_at zk120 rfl
theorem zT120_7 : TT 120 7 L S M Q = TR (z_st (.ishl) 1 7 L S M) 120 8 M Q := T_at zk120 rfl
theorem zT120_8 : TT 120 8 L S M Q = TR (z_st (.iconst (-1)) 1 8 L S M) 120 9 M Q := T_at zk120 rfl
theorem zT120_9 : TT 120 9 L S M Q = TR (z_st (.ixor) 1 9 L S M) 120 10 M Q := T_at zk120 rfl
theorem zT120_10 : TT 120 10 L S M Q = TR (z_st (.iand) 1 10 L S M) 120 11 M Q := T_at zk120 rfl
theorem zT120_11 : TT 120 11 L S M Q = TR (z_st (.iload 2) 1 11 L S M) 120 12 M Q := T_at zk120 rfl
theorem zT120_12 : TT 120 12 L S M Q = TR (z_st (.iload 3) 1 12 L S M) 120 13 M Q := T_at zk120 rfl
theorem zT120_13 : TT 120 13 L S M Q = TR (z_st (.ishl) 1 13 L S M) 120 14 M Q := T_at zk120 rfl
theorem zT120_14 : TT 120 14 L S M Q = TR (z_st (.ior) 1 14 L S M) 120 15 M Q := T_at zk120 rfl
theorem zT120_15 : TT 120 15 L S M Q = TR (z_st (.ret 0) 1 15 L S M) 120 16 M Q := T_at zk120 rfl
set_option maxRecDepth 100000 in
theorem zk121 : z_coL.getD 121 [] = zc121 := rfl
theorem zT121_0 : TT 121 0 L S M Q = TR (z_st (.iload 0) 1 0 L S M) 121 1 M Q := T_at zk121 rfl
theorem zT121_1 : TT 121 1 L S M Q = TR (z_st (.iconst 2) 1 1 L S M) 121 2 M Q := T_at zk121 rfl
theorem zT121_2 : TT 121 2 L S M Q = TR (z_st (.iload 1) 1 2 L S M) 121 3 M Q := T_at zk121 rfl
theorem zT121_3 : TT 121 3 L S M Q = TR (z_st (.imul) 1 3 L S M) 121 4 M Q := T_at zk121 rfl
theorem zT121_4 : TT 121 4 L S M Q = TR (z_st (.ishr) 1 4 L S M) 121 5 M Q := T_at zk121 rfl
theorem zT121_5 : TT 121 5 L S M Q = TR (z_st (.iconst 3) 1 5 L S M) 121 6 M Q := T_at zk121 rfl
theorem zT121_6 : TT 121 6 L S M Q = TR (z_st (.iand) 1 6 L S M) 121 7 M Q := T_at zk121 rfl
theorem zT121_7 : TT 121 7 L S M Q = TR (z_st (.ret 0) 1 7 L S M) 121 8 M Q := T_at zk121 rfl
set_option maxRecDepth 100000 in
theorem zk122 : z_coL.getD 122 [] = zc122 := rfl
theorem zT122_0 : TT 122 0 L S M Q = TR (z_st (.iload 1) 1 0 L S M) 122 1 M Q := T_at zk122 rfl
theorem zT122_1 : TT 122 1 L S M Q = TR (z_st (.ifCond .ne 15) 3 1 L S M) 122 4 M Q := T_at zk122 rfl
theorem zT122_4 : TT 122 4 L S M Q = TR (z_st (.aload 0) 1 4 L S M) 122 5 M Q := T_at zk122 rfl
theorem zT122_5 : TT 122 5 L S M Q = TR (z_st (.aload 0) 1 5 L S M) 122 6 M Q := T_at zk122 rfl
theorem zT122_6 : TT 122 6 L S M Q = TR (z_st (.getfield 33) 3 6 L S M) 122 9 M Q := T_at zk122 rfl
theorem zT122_9 : TT 122 9 L S M Q = TR (z_st (.invokevirtual 158) 3 9 L S M) 122 12 M Q := T_at zk122 rfl
theorem zT122_12 : TT 122 12 L S M Q = TR (z_st (.goto 23) 3 12 L S M) 122 15 M Q := T_at zk122 rfl
theorem zT122_15 : TT 122 15 L S M Q = TR (z_st (.aload 0) 1 15 L S M) 122 16 M Q := T_at zk122 rfl
theorem zT122_16 : TT 122 16 L S M Q = TR (z_st (.aload 0) 1 16 L S M) 122 17 M Q := T_at zk122 rfl
theorem zT122_17 : TT 122 17 L S M Q = TR (z_st (.getfield 33) 3 17 L S M) 122 20 M Q := T_at zk122 rfl
theorem zT122_20 : TT 122 20 L S M Q = TR (z_st (.invokevirtual 159) 3 20 L S M) 122 23 M Q := T_at zk122 rfl
theorem zT122_23 : TT 122 23 L S M Q = TR (z_st (.ret 0) 1 23 L S M) 122 24 M Q := T_at zk122 rfl
set_option maxRecDepth 100000 in
theorem zk123 : z_coL.getD 123 [] = zc123 := rfl
theorem zT123_0 : TT 123 0 L S M Q = TR (z_st (.iload 1) 1 0 L S M) 123 1 M Q := T_at zk123 rfl
theorem zT123_1 : TT 123 1 L S M Q = TR (z_st (.lookupswitch 58 #[(0, 28), (1, 47)]) 27 1 L S M) 123 28 M Q := T_at zk123 rfl
theorem zT123_28 : TT 123 28 L S M Q = TR (z_st (.aload 0) 1 28 L S M) 123 29 M Q := T_at zk123 rfl
theorem zT123_29 : TT 123 29 L S M Q = TR (z_st (.fload 7) 3 29 L S M) 123 32 M Q := T_at zk123 rfl
theorem zT123_32 : TT 123 32 L S M Q = TR (z_st (.fload 34) 3 32 L S M) 123 35 M Q := T_at zk123 rfl
theorem zT123_35 : TT 123 35 L S M Q = TR (z_st (.invokevirtual 201) 3 35 L S M) 123 38 M Q := T_at zk123 rfl
theorem zT123_38 : TT 123 38 L S M Q = TR (z_st (.ifCond .eq 45) 3 38 L S M) 123 41 M Q := T_at zk123 rfl
theorem zT123_41 : TT 123 41 L S M Q = TR (z_st (.iconst 0) 1 41 L S M) 123 42 M Q := T_at zk123 rfl
theorem zT123_42 : TT 123 42 L S M Q = TR (z_st (.goto 46) 3 42 L S M) 123 45 M Q := T_at zk123 rfl
theorem zT123_45 : TT 123 45 L S M Q = TR (z_st (.iconst 1) 1 45 L S M) 123 46 M Q := T_at zk123 rfl
theorem zT123_46 : TT 123 46 L S M Q = TR (z_st (.ret 0) 1 46 L S M) 123 47 M Q := T_at zk123 rfl
theorem zT123_47 : TT 123 47 L S M Q = TR (z_st (.aload 0) 1 47 L S M) 123 48 M Q := T_at zk123 rfl
theorem zT123_48 : TT 123 48 L S M Q = TR (z_st (.fload 7) 3 48 L S M) 123 51 M Q := T_at zk123 rfl
theorem zT123_51 : TT 123 51 L S M Q = TR (z_st (.fload 34) 3 51 L S M) 123 54 M Q := T_at zk123 rfl
theorem zT123_54 : TT 123 54 L S M Q = TR (z_st (.getfield 51) 3 54 L S M) 123 57 M Q := T_at zk123 rfl
theorem zT123_57 : TT 123 57 L S M Q = TR (z_st (.ret 0) 1 57 L S M) 123 58 M Q := T_at zk123 rfl
theorem zT123_58 : TT 123 58 L S M Q = TR (z_st (.aload 0) 1 58 L S M) 123 59 M Q := T_at zk123 rfl
theorem zT123_59 : TT 123 59 L S M Q = TR (z_st (.fload 7) 3 59 L S M) 123 62 M Q := T_at zk123 rfl
theorem zT123_62 : TT 123 62 L S M Q = TR (z_st (.fload 35) 3 62 L S M) 123 65 M Q := T_at zk123 rfl
theorem zT123_65 : TT 123 65 L S M Q = TR (z_st (.getfield 51) 3 65 L S M) 123 68 M Q := T_at zk123 rfl
theorem zT123_68 : TT 123 68 L S M Q = TR (z_st (.ret 0) 1 68 L S M) 123 69 M Q := T_at zk123 rfl
set_option maxRecDepth 100000 in
theorem zk124 : z_coL.getD 124 [] = zc124 := rfl
theorem zT124_0 : TT 124 0 L S M Q = TR (z_st (.iload 1) 1 0 L S M) 124 1 M Q := T_at zk124 rfl
theorem zT124_1 : TT 124 1 L S M Q = TR (z_st (.tableswitch 64 0 3 #[32, 40, 48, 56]) 31 1 L S M) 124 32 M Q := T_at zk124 rfl
theorem zT124_32 : TT 124 32 L S M Q = TR (z_st (.aload 0) 1 32 L S M) 124 33 M Q := T_at zk124 rfl
theorem zT124_33 : TT 124 33 L S M Q = TR (z_st (.fload 0) 3 33 L S M) 124 36 M Q := T_at zk124 rfl
theorem zT124_36 : TT 124 36 L S M Q = TR (z_st (.getfield 43) 3 36 L S M) 124 39 M Q := T_at zk124 rfl
theorem zT124_39 : TT 124 39 L S M Q = TR (z_st (.ret 0) 1 39 L S M) 124 40 M Q := T_at zk124 rfl
theorem zT124_40 : TT 124 40 L S M Q = TR (z_st (.aload 0) 1 40 L S M) 124 41 M Q := T_at zk124 rfl
theorem zT124_41 : TT 124 41 L S M Q = TR (z_st (.fload 0) 3 41 L S M) 124 44 M Q := T_at zk124 rfl
theorem zT124_44 : TT 124 44 L S M Q = TR (z_st (.getfield 45) 3 44 L S M) 124 47 M Q := T_at zk124 rfl
theorem zT124_47 : TT 124 47 L S M Q = TR (z_st (.ret 0) 1 47 L S M) 124 48 M Q := T_at zk124 rfl
theorem zT124_48 : TT 124 48 L S M Q = TR (z_st (.aload 0) 1 48 L S M) 124 49 M Q := T_at zk124 rfl
theorem zT124_49 : TT 124 49 L S M Q = TR (z_st (.fload 0) 3 49 L S M) 124 52 M Q := T_at zk124 rfl
theorem zT124_52 : TT 124 52 L S M Q = TR (z_st (.getfield 46) 3 52 L S M) 124 55 M Q := T_at zk124 rfl
theorem zT124_55 : TT 124 55 L S M Q = TR (z_st (.ret 0) 1 55 L S M) 124 56 M Q := T_at zk124 rfl
theorem zT124_56 : TT 124 56 L S M Q = TR (z_st (.aload 0) 1 56 L S M) 124 57 M Q := T_at zk124 rfl
theorem zT124_57 : TT 124 57 L S M Q = TR (z_st (.fload 0) 3 57 L S M) 124 60 M Q := T_at zk124 rfl
theorem zT124_60 : TT 124 60 L S M Q = TR (z_st (.getfield 49) 3 60 L S M) 124 63 M Q := T_at zk124 rfl
theorem zT124_63 : TT 124 63 L S M Q = TR (z_st (.ret 0) 1 63 L S M) 124 64 M Q := T_at zk124 rfl
theorem zT124_64 : TT 124 64 L S M Q = TR (z_st (.aload 0) 1 64 L S M) 124 65 M Q := T_at zk124 rfl
theorem zT124_65 : TT 124 65 L S M Q = TR (z_st (.fload 6) 3 65 L S M) 124 68 M Q := T_at zk124 rfl
theorem zT124_68 : TT 124 68 L S M Q = TR (z_st (.getfield 12) 3 68 L S M) 124 71 M Q := T_at zk124 rfl
theorem zT124_71 : TT 124 71 L S M Q = TR (z_st (.ret 0) 1 71 L S M) 124 72 M Q := T_at zk124 rfl
set_option maxRecDepth 100000 in
theorem zk125 : z_coL.getD 125 [] = zc125 := rfl
theorem zT125_0 : TT 125 0 L S M Q = TR (z_st (.aload 0) 1 0 L S M) 125 1 M Q := T_at zk125 rfl
theorem zT125_1 : TT 125 1 L S M Q = TR (z_st (.athrow) 3 1 L S M) 125 4 M Q := T_at zk125 rfl
theorem zT125_4 : TT 125 4 L S M Q = TR (z_st (.aload 0) 1 4 L S M) 125 5 M Q := T_at zk125 rfl
theorem zT125_5 : TT 125 5 L S M Q = TR (z_st (.iconst 200) 3 5 L S M) 125 8 M Q := T_at zk125 rfl
theorem zT125_8 : TT 125 8 L S M Q = TR (z_st (.newarray .int) 2 8 L S M) 125 10 M Q := T_at zk125 rfl
theorem zT125_10 : TT 125 10 L S M Q = TR (z_st (.fstore 11) 3 10 L S M) 125 13 M Q := T_at zk125 rfl
theorem zT125_13 : TT 125 13 L S M Q = TR (z_st (.aload 0) 1 13 L S M) 125 14 M Q := T_at zk125 rfl
theorem zT125_14 : TT 125 14 L S M Q = TR (z_st (.iconst 40) 2 14 L S M) 125 16 M Q := T_at zk125 rfl
theorem zT125_16 : TT 125 16 L S M Q = TR (z_st (.newarray .int) 2 16 L S M) 125 18 M Q := T_at zk125 rfl
theorem zT125_18 : TT 125 18 L S M Q = TR (z_st (.fstore 14) 3 18 L S M) 125 21 M Q := T_at zk125 rfl
theorem zT125_21 : TT 125 21 L S M Q = TR (z_st (.aload 0) 1 21 L S M) 125 22 M Q := T_at zk125 rfl
theorem zT125_22 : TT 125 22 L S M Q = TR (z_st (.iconst 200) 3 22 L S M) 125 25 M Q := T_at zk125 rfl
theorem zT125_25 : TT 125 25 L S M Q = TR (z_st (.newarray .int) 2 25 L S M) 125 27 M Q := T_at zk125 rfl
theorem zT125_27 : TT 125 27 L S M Q = TR (z_st (.fstore 15) 3 27 L S M) 125 30 M Q := T_at zk125 rfl
theorem zT125_30 : TT 125 30 L S M Q = TR (z_st (.return_) 1 30 L S M) 125 31 M Q := T_at zk125 rfl
set_option maxRecDepth 100000 in
theorem zk126 : z_coL.getD 126 [] = zc126 := rfl
theorem zT126_0 : TT 126 0 L S M Q = TR (z_st (.iload 3) 1 0 L S M) 126 1 M Q := T_at zk126 rfl
theorem zT126_1 : TT 126 1 L S M Q = TR (z_st (.iconst 1) 1 1 L S M) 126 2 M Q := T_at zk126 rfl
theorem zT126_2 : TT 126 2 L S M Q = TR (z_st (.isub) 1 2 L S M) 126 3 M Q := T_at zk126 rfl
theorem zT126_3 : TT 126 3 L S M Q = TR (z_st (.istore 4) 2 3 L S M) 126 5 M Q := T_at zk126 rfl
theorem zT126_5 : TT 126 5 L S M Q = TR (z_st (.iload 4) 2 5 L S M) 126 7 M Q := T_at zk126 rfl
theorem zT126_7 : TT 126 7 L S M Q = TR (z_st (.ifCond .lt 57) 3 7 L S M) 126 10 M Q := T_at zk126 rfl
theorem zT126_10 : TT 126 10 L S M Q = TR (z_st (.aload 0) 1 10 L S M) 126 11 M Q := T_at zk126 rfl
theorem zT126_11 : TT 126 11 L S M Q = TR (z_st (.getfield 12) 3 11 L S M) 126 14 M Q := T_at zk126 rfl
theorem zT126_14 : TT 126 14 L S M Q = TR (z_st (.iconst 200) 3 14 L S M) 126 17 M Q := T_at zk126 rfl
theorem zT126_17 : TT 126 17 L S M Q = TR (z_st (.if_icmp .ge 57) 3 17 L S M) 126 20 M Q := T_at zk126 rfl
theorem zT126_20 : TT 126 20 L S M Q = TR (z_st (.aload 0) 1 20 L S M) 126 21 M Q := T_at zk126 rfl
theorem zT126_21 : TT 126 21 L S M Q = TR (z_st (.fload 11) 3 21 L S M) 126 24 M Q := T_at zk126 rfl
theorem zT126_24 : TT 126 24 L S M Q = TR (z_st (.aload 0) 1 24 L S M) 126 25 M Q := T_at zk126 rfl
theorem zT126_25 : TT 126 25 L S M Q = TR (z_st (.getfield 12) 3 25 L S M) 126 28 M Q := T_at zk126 rfl
theorem zT126_28 : TT 126 28 L S M Q = TR (z_st (.lload 1) 1 28 L S M) 126 29 M Q := T_at zk126 rfl
theorem zT126_29 : TT 126 29 L S M Q = TR (z_st (.iconst 8) 2 29 L S M) 126 31 M Q := T_at zk126 rfl
theorem zT126_31 : TT 126 31 L S M Q = TR (z_st (.iload 4) 2 31 L S M) 126 33 M Q := T_at zk126 rfl
theorem zT126_33 : TT 126 33 L S M Q = TR (z_st (.imul) 1 33 L S M) 126 34 M Q := T_at zk126 rfl
theorem zT126_34 : TT 126 34 L S M Q = TR (z_st (.lshr) 1 34 L S M) 126 35 M Q := T_at zk126 rfl
theorem zT126_35 : TT 126 35 L S M Q = TR (z_st (.ldc2_w 255) 3 35 L S M) 126 38 M Q := T_at zk126 rfl
theorem zT126_38 : TT 126 38 L S M Q = TR (z_st (.land) 1 38 L S M) 126 39 M Q := T_at zk126 rfl
theorem zT126_39 : TT 126 39 L S M Q = TR (z_st (.l2i) 1 39 L S M) 126 40 M Q := T_at zk126 rfl
theorem zT126_40 : TT 126 40 L S M Q = TR (z_st (.iastore) 1 40 L S M) 126 41 M Q := T_at zk126 rfl
theorem zT126_41 : TT 126 41 L S M Q = TR (z_st (.aload 0) 1 41 L S M) 126 42 M Q := T_at zk126 rfl
theorem zT126_42 : TT 126 42 L S M Q = TR (z_st (.dup) 1 42 L S M) 126 43 M Q := T_at zk126 rfl
theorem zT126_43 : TT 126 43 L S M Q = TR (z_st (.getfield 12) 3 43 L S M) 126 46 M Q := T_at zk126 rfl
theorem zT126_46 : TT 126 46 L S M Q = TR (z_st (.iconst 1) 1 46 L S M) 126 47 M Q := T_at zk126 rfl
theorem zT126_47 : TT 126 47 L S M Q = TR (z_st (.iadd) 1 47 L S M) 126 48 M Q := T_at zk126 rfl
theorem zT126_48 : TT 126 48 L S M Q = TR (z_st (.putfield 12) 3 48 L S M) 126 51 M Q := T_at zk126 rfl
theorem zT126_51 : TT 126 51 L S M Q = TR (z_st (.iinc 4 (-1)) 3 51 L S M) 126 54 M Q := T_at zk126 rfl
theorem zT126_54 : TT 126 54 L S M Q = TR (z_st (.goto 5) 3 54 L S M) 126 57 M Q := T_at zk126 rfl
theorem zT126_57 : TT 126 57 L S M Q = TR (z_st (.return_) 1 57 L S M) 126 58 M Q := T_at zk126 rfl
set_option maxRecDepth 100000 in
theorem zk127 : z_coL.getD 127 [] = zc127 := rfl
theorem zT127_0 : TT 127 0 L S M Q = TR (z_st (.aload 0) 1 0 L S M) 127 1 M Q := T_at zk127 rfl
theorem zT127_1 : TT 127 1 L S M Q = TR (z_st (.iconst 0) 1 1 L S M) 127 2 M Q := T_at zk127 rfl
theorem zT127_2 : TT 127 2 L S M Q = TR (z_st (.putfield 13) 3 2 L S M) 127 5 M Q := T_at zk127 rfl
theorem zT127_5 : TT 127 5 L S M Q = TR (z_st (.aload 0) 1 5 L S M) 127 6 M Q := T_at zk127 rfl
theorem zT127_6 : TT 127 6 L S M Q = TR (z_st (.iconst 0) 1 6 L S M) 127 7 M Q := T_at zk127 rfl
theorem zT127_7 : TT 127 7 L S M Q = TR (z_st (.putfield 16) 3 7 L S M) 127 10 M Q := T_at zk127 rfl
theorem zT127_10 : TT 127 10 L S M Q = TR (z_st (.aload 0) 1 10 L S M) 127 11 M Q := T_at zk127 rfl
theorem zT127_11 : TT 127 11 L S M Q = TR (z_st (.invokevirtual 132) 3 11 L S M) 127 14 M Q := T_at zk127 rfl
theorem zT127_14 : TT 127 14 L S M Q = TR (z_st (.iconst 0) 1 14 L S M) 127 15 M Q := T_at zk127 rfl
theorem zT127_15 : TT 127 15 L S M Q = TR (z_st (.istore 1) 1 15 L S M) 127 16 M Q := T_at zk127 rfl
theorem zT127_16 : TT 127 16 L S M Q = TR (z_st (.iload 1) 1 16 L S M) 127 17 M Q := T_at zk127 rfl
theorem zT127_17 : TT 127 17 L S M Q = TR (z_st (.iconst 40) 2 17 L S M) 127 19 M Q := T_at zk127 rfl
theorem zT127_19 : TT 127 19 L S M Q = TR (z_st (.if_icmp .ge 65) 3 19 L S M) 127 22 M Q := T_at zk127 rfl
theorem zT127_22 : TT 127 22 L S M Q = TR (z_st (.aload 0) 1 22 L S M) 127 23 M Q := T_at zk127 rfl
theorem zT127_23 : TT 127 23 L S M Q = TR (z_st (.getfield 13) 3 23 L S M) 127 26 M Q := T_at zk127 rfl
theorem zT127_26 : TT 127 26 L S M Q = TR (z_st (.aload 0) 1 26 L S M) 127 27 M Q := T_at zk127 rfl
theorem zT127_27 : TT 127 27 L S M Q = TR (z_st (.getfield 12) 3 27 L S M) 127 30 M Q := T_at zk127 rfl
theorem zT127_30 : TT 127 30 L S M Q = TR (z_st (.if_icmp .ge 65) 3 30 L S M) 127 33 M Q := T_at zk127 rfl
theorem zT127_33 : TT 127 33 L S M Q = TR (z_st (.aload 0) 1 33 L S M) 127 34 M Q := T_at zk127 rfl
theorem zT127_34 : TT 127 34 L S M Q = TR (z_st (.invokevirtual 128) 3 34 L S M) 127 37 M Q := T_at zk127 rfl
theorem zT127_37 : TT 127 37 L S M Q = TR (z_st (.ifCond .ne 45) 3 37 L S M) 127 40 M Q := T_at zk127 rfl
theorem zT127_40 : TT 127 40 L S M Q = TR (z_st (.aload 0) 1 40 L S M) 127 41 M Q := T_at zk127 rfl
theorem zT127_41 : TT 127 41 L S M Q = TR (z_st (.getfield 13) 3 41 L S M) 127 44 M Q := T_at zk127 rfl
theorem zT127_44 : TT 127 44 L S M Q = TR (z_st (.ret 0) 1 44 L S M) 127 45 M Q := T_at zk127 rfl
theorem zT127_45 : TT 127 45 L S M Q = TR (z_st (.aload 0) 1 45 L S M) 127 46 M Q := T_at zk127 rfl
theorem zT127_46 : TT 127 46 L S M Q = TR (z_st (.dup) 1 46 L S M) 127 47 M Q := T_at zk127 rfl
theorem zT127_47 : TT 127 47 L S M Q = TR (z_st (.getfield 16) 3 47 L S M) 127 50 M Q := T_at zk127 rfl
theorem zT127_50 : TT 127 50 L S M Q = TR (z_st (.iconst 1) 1 50 L S M) 127 51 M Q := T_at zk127 rfl
theorem zT127_51 : TT 127 51 L S M Q = TR (z_st (.iadd) 1 51 L S M) 127 52 M Q := T_at zk127 rfl
theorem zT127_52 : TT 127 52 L S M Q = TR (z_st (.putfield 16) 3 52 L S M) 127 55 M Q := T_at zk127 rfl
theorem zT127_55 : TT 127 55 L S M Q = TR (z_st (.aload 0) 1 55 L S M) 127 56 M Q := T_at zk127 rfl
theorem zT127_56 : TT 127 56 L S M Q = TR (z_st (.invokevirtual 132) 3 56 L S M) 127 59 M Q := T_at zk127 rfl
theorem zT127_59 : TT 127 59 L S M Q = TR (z_st (.iinc 1 1) 3 59 L S M) 127 62 M Q := T_at zk127 rfl
theorem zT127_62 : TT 127 62 L S M Q = TR (z_st (.goto 16) 3 62 L S M) 127 65 M Q := T_at zk127 rfl
theorem zT127_65 : TT 127 65 L S M Q = TR (z_st (.iconst (-1)) 1 65 L S M) 127 66 M Q := T_at zk127 rfl
theorem zT127_66 : TT 127 66 L S M Q = TR (z_st (.ret 0) 1 66 L S M) 127 67 M Q := T_at zk127 rfl
set_option maxRecDepth 100000 in
theorem zk128 : z_coL.getD 128 [] = zc128 := rfl
theorem zT128_0 : TT 128 0 L S M Q = TR (z_st (.aload 0) 1 0 L S M) 128 1 M Q := T_at zk128 rfl
theorem zT128_1 : TT 128 1 L S M Q = TR (z_st (.invokevirtual 129) 3 1 L S M) 128 4 M Q := T_at zk128 rfl
theorem zT128_4 : TT 128 4 L S M Q = TR (z_st (.istore 1) 1 4 L S M) 128 5 M Q := T_at zk128 rfl
theorem zT128_5 : TT 128 5 L S M Q = TR (z_st (.iload 1) 1 5 L S M) 128 6 M Q := T_at zk128 rfl
theorem zT128_6 : TT 128 6 L S M Q = TR (z_st (.iconst (-1)) 1 6 L S M) 128 7 M Q := T_at zk128 rfl
theorem zT128_7 : TT 128 7 L S M Q = TR (z_st (.if_icmp .eq 19) 3 7 L S M) 128 10 M Q := T_at zk128 rfl
theorem zT128_10 : TT 128 10 L S M Q = TR (z_st (.aload 0) 1 10 L S M) 128 11 M Q := T_at zk128 rfl
theorem zT128_11 : TT 128 11 L S M Q = TR (z_st (.getfield 16) 3 11 L S M) 128 14 M Q := T_at zk128 rfl
theorem zT128_14 : TT 128 14 L S M Q = TR (z_st (.iconst 40) 2 14 L S M) 128 16 M Q := T_at zk128 rfl
theorem zT128_16 : TT 128 16 L S M Q = TR (z_st (.if_icmp .lt 21) 3 16 L S M) 128 19 M Q := T_at zk128 rfl
theorem zT128_19 : TT 128 19 L S M Q = TR (z_st (.iconst 0) 1 19 L S M) 128 20 M Q := T_at zk128 rfl
theorem zT128_20 : TT 128 20 L S M Q = TR (z_st (.ret 1) 1 20 L S M) 128 21 M Q := T_at zk128 rfl
theorem zT128_21 : TT 128 21 L S M Q = TR (z_st (.aload 0) 1 21 L S M) 128 22 M Q := T_at zk128 rfl
theorem zT128_22 : TT 128 22 L S M Q = TR (z_st (.fload 14) 3 22 L S M) 128 25 M Q := T_at zk128 rfl
theorem zT128_25 : TT 128 25 L S M Q = TR (z_st (.aload 0) 1 25 L S M) 128 26 M Q := T_at zk128 rfl
theorem zT128_26 : TT 128 26 L S M Q = TR (z_st (.getfield 16) 3 26 L S M) 128 29 M Q := T_at zk128 rfl
theorem zT128_29 : TT 128 29 L S M Q = TR (z_st (.iload 1) 1 29 L S M) 128 30 M Q := T_at zk128 rfl
theorem zT128_30 : TT 128 30 L S M Q = TR (z_st (.iastore) 1 30 L S M) 128 31 M Q := T_at zk128 rfl
theorem zT128_31 : TT 128 31 L S M Q = TR (z_st (.iconst 0) 1 31 L S M) 128 32 M Q := T_at zk128 rfl
theorem zT128_32 : TT 128 32 L S M Q = TR (z_st (.istore 2) 1 32 L S M) 128 33 M Q := T_at zk128 rfl
theorem zT128_33 : TT 128 33 L S M Q = TR (z_st (.iload 2) 1 33 L S M) 128 34 M Q := T_at zk128 rfl
theorem zT128_34 : TT 128 34 L S M Q = TR (z_st (.ldc 6) 3 34 L S M) 128 37 M Q := T_at zk128 rfl
theorem zT128_37 : TT 128 37 L S M Q = TR (z_st (.iload 1) 1 37 L S M) 128 38 M Q := T_at zk128 rfl
theorem zT128_38 : TT 128 38 L S M Q = TR (z_st (.iaload) 1 38 L S M) 128 39 M Q := T_at zk128 rfl
theorem zT128_39 : TT 128 39 L S M Q = TR (z_st (.if_icmp .ge 74) 3 39 L S M) 128 42 M Q := T_at zk128 rfl
theorem zT128_42 : TT 128 42 L S M Q = TR (z_st (.aload 0) 1 42 L S M) 128 43 M Q := T_at zk128 rfl
theorem zT128_43 : TT 128 43 L S M Q = TR (z_st (.invokevirtual 130) 3 43 L S M) 128 46 M Q := T_at zk128 rfl
theorem zT128_46 : TT 128 46 L S M Q = TR (z_st (.istore 3) 1 46 L S M) 128 47 M Q := T_at zk128 rfl
theorem zT128_47 : TT 128 47 L S M Q = TR (z_st (.iload 3) 1 47 L S M) 128 48 M Q := T_at zk128 rfl
theorem zT128_48 : TT 128 48 L S M Q = TR (z_st (.iconst (-1)) 1 48 L S M) 128 49 M Q := T_at zk128 rfl
theorem zT128_49 : TT 128 49 L S M Q = TR (z_st (.if_icmp .ne 54) 3 49 L S M) 128 52 M Q := T_at zk128 rfl
theorem zT128_52 : TT 128 52 L S M Q = TR (z_st (.iconst 0) 1 52 L S M) 128 53 M Q := T_at zk128 rfl
theorem zT128_53 : TT 128 53 L S M Q = TR (z_st (.ret 1) 1 53 L S M) 128 54 M Q := T_at zk128 rfl
theorem zT128_54 : TT 128 54 L S M Q = TR (z_st (.aload 0) 1 54 L S M) 128 55 M Q := T_at zk128 rfl
theorem zT128_55 : TT 128 55 L S M Q = TR (z_st (.fload 15) 3 55 L S M) 128 58 M Q := T_at zk128 rfl
theorem zT128_58 : TT 128 58 L S M Q = TR (z_st (.aload 0) 1 58 L S M) 128 59 M Q := T_at zk128 rfl
theorem zT128_59 : TT 128 59 L S M Q = TR (z_st (.getfield 16) 3 59 L S M) 128 62 M Q := T_at zk128 rfl
theorem zT128_62 : TT 128 62 L S M Q = TR (z_st (.iconst 5) 1 62 L S M) 128 63 M Q := T_at zk128 rfl
theorem zT128_63 : TT 128 63 L S M Q = TR (z_st (.imul) 1 63 L S M) 128 64 M Q := T_at zk128 rfl
theorem zT128_64 : TT 128 64 L S M Q = TR (z_st (.iload 2) 1 64 L S M) 128 65 M Q := T_at zk128 rfl
theorem zT128_65 : TT 128 65 L S M Q = TR (z_st (.iadd) 1 65 L S M) 128 66 M Q := T_at zk128 rfl
theorem zT128_66 : TT 128 66 L S M Q = TR (z_st (.iload 3) 1 66 L S M) 128 67 M Q := T_at zk128 rfl
theorem zT128_67 : TT 128 67 L S M Q = TR (z_st (.iastore) 1 67 L S M) 128 68 M Q := T_at zk128 rfl
theorem zT128_68 : TT 128 68 L S M Q = TR (z_st (.iinc 2 1) 3 68 L S M) 128 71 M Q := T_at zk128 rfl
theorem zT128_71 : TT 128 71 L S M Q = TR (z_st (.goto 33) 3 71 L S M) 128 74 M Q := T_at zk128 rfl
theorem zT128_74 : TT 128 74 L S M Q = TR (z_st (.aload 0) 1 74 L S M) 128 75 M Q := T_at zk128 rfl
theorem zT128_75 : TT 128 75 L S M Q = TR (z_st (.invokevirtual 131) 3 75 L S M) 128 78 M Q := T_at zk128 rfl
theorem zT128_78 : TT 128 78 L S M Q = TR (z_st (.ret 1) 1 78 L S M) 128 79 M Q := T_at zk128 rfl
set_option maxRecDepth 100000 in
theorem zk129 : z_coL.getD 129 [] = zc129 := rfl
theorem zT129_0 : TT 129 0 L S M Q = TR (z_st (.aload 0) 1 0 L S M) 129 1 M Q := T_at zk129 rfl
theorem zT129_1 : TT 129 1 L S M Q = TR (z_st (.iconst 97) 2 1 L S M) 129 3 M Q := T_at zk129 rfl
theorem zT129_3 : TT 129 3 L S M Q = TR (z_st (.iconst 122) 2 3 L S M) 129 5 M Q := T_at zk129 rfl
theorem zT129_5 : TT 129 5 L S M Q = TR (z_st (.invokevirtual 133) 3 5 L S M) 129 8 M Q := T_at zk129 rfl
theorem zT129_8 : TT 129 8 L S M Q = TR (z_st (.istore 1) 1 8 L S M) 129 9 M Q := T_at zk129 rfl
theorem zT129_9 : TT 129 9 L S M Q = TR (z_st (.iconst (-1)) 1 9 L S M) 129 10 M Q := T_at zk129 rfl
theorem zT129_10 : TT 129 10 L S M Q = TR (z_st (.istore 2) 1 10 L S M) 129 11 M Q := T_at zk129 rfl
theorem zT129_11 : TT 129 11 L S M Q = TR (z_st (.aload 0) 1 11 L S M) 129 12 M Q := T_at zk129 rfl
theorem zT129_12 : TT 129 12 L S M Q = TR (z_st (.ldc 7) 2 12 L S M) 129 14 M Q := T_at zk129 rfl
theorem zT129_14 : TT 129 14 L S M Q = TR (z_st (.iload 1) 1 14 L S M) 129 15 M Q := T_at zk129 rfl
theorem zT129_15 : TT 129 15 L S M Q = TR (z_st (.invokevirtual 134) 3 15 L S M) 129 18 M Q := T_at zk129 rfl
theorem zT129_18 : TT 129 18 L S M Q = TR (z_st (.ifCond .eq 26) 3 18 L S M) 129 21 M Q := T_at zk129 rfl
theorem zT129_21 : TT 129 21 L S M Q = TR (z_st (.iconst 0) 1 21 L S M) 129 22 M Q := T_at zk129 rfl
theorem zT129_22 : TT 129 22 L S M Q = TR (z_st (.istore 2) 1 22 L S M) 129 23 M Q := T_at zk129 rfl
theorem zT129_23 : TT 129 23 L S M Q = TR (z_st (.goto 83) 3 23 L S M) 129 26 M Q := T_at zk129 rfl
theorem zT129_26 : TT 129 26 L S M Q = TR (z_st (.aload 0) 1 26 L S M) 129 27 M Q := T_at zk129 rfl
theorem zT129_27 : TT 129 27 L S M Q = TR (z_st (.ldc 8) 2 27 L S M) 129 29 M Q := T_at zk129 rfl
theorem zT129_29 : TT 129 29 L S M Q = TR (z_st (.iload 1) 1 29 L S M) 129 30 M Q := T_at zk129 rfl
theorem zT129_30 : TT 129 30 L S M Q = TR (z_st (.invokevirtual 134) 3 30 L S M) 129 33 M Q := T_at zk129 rfl
theorem zT129_33 : TT 129 33 L S M Q = TR (z_st (.ifCond .eq 41) 3 33 L S M) 129 36 M Q := T_at zk129 rfl
theorem zT129_36 : TT 129 36 L S M Q = TR (z_st (.iconst 1) 1 36 L S M) 129 37 M Q := T_at zk129 rfl
theorem zT129_37 : TT 129 37 L S M Q = TR (z_st (.istore 2) 1 37 L S M) 129 38 M Q := T_at zk129 rfl
theorem zT129_38 : TT 129 38 L S M Q = TR (z_st (.goto 83) 3 38 L S M) 129 41 M Q := T_at zk129 rfl
theorem zT129_41 : TT 129 41 L S M Q = TR (z_st (.aload 0) 1 41 L S M) 129 42 M Q := T_at zk129 rfl
theorem zT129_42 : TT 129 42 L S M Q = TR (z_st (.ldc 9) 2 42 L S M) 129 44 M Q := T_at zk129 rfl
theorem zT129_44 : TT 129 44 L S M Q = TR (z_st (.iload 1) 1 44 L S M) 129 45 M Q := T_at zk129 rfl
theorem zT129_45 : TT 129 45 L S M Q = TR (z_st (.invokevirtual 134) 3 45 L S M) 129 48 M Q := T_at zk129 rfl
theorem zT129_48 : TT 129 48 L S M Q = TR (z_st (.ifCond .eq 56) 3 48 L S M) 129 51 M Q := T_at zk129 rfl
theorem zT129_51 : TT 129 51 L S M Q = TR (z_st (.iconst 2) 1 51 L S M) 129 52 M Q := T_at zk129 rfl
theorem zT129_52 : TT 129 52 L S M Q = TR (z_st (.istore 2) 1 52 L S M) 129 53 M Q := T_at zk129 rfl
theorem zT129_53 : TT 129 53 L S M Q = TR (z_st (.goto 83) 3 53 L S M) 129 56 M Q := T_at zk129 rfl
theorem zT129_56 : TT 129 56 L S M Q = TR (z_st (.aload 0) 1 56 L S M) 129 57 M Q := T_at zk129 rfl
theorem zT129_57 : TT 129 57 L S M Q = TR (z_st (.ldc 10) 2 57 L S M) 129 59 M Q := T_at zk129 rfl
theorem zT129_59 : TT 129 59 L S M Q = TR (z_st (.iload 1) 1 59 L S M) 129 60 M Q := T_at zk129 rfl
theorem zT129_60 : TT 129 60 L S M Q = TR (z_st (.invokevirtual 134) 3 60 L S M) 129 63 M Q := T_at zk129 rfl
theorem zT129_63 : TT 129 63 L S M Q = TR (z_st (.ifCond .eq 71) 3 63 L S M) 129 66 M Q := T_at zk129 rfl
theorem zT129_66 : TT 129 66 L S M Q = TR (z_st (.iconst 3) 1 66 L S M) 129 67 M Q := T_at zk129 rfl
theorem zT129_67 : TT 129 67 L S M Q = TR (z_st (.istore 2) 1 67 L S M) 129 68 M Q := T_at zk129 rfl
theorem zT129_68 : TT 129 68 L S M Q = TR (z_st (.goto 83) 3 68 L S M) 129 71 M Q := T_at zk129 rfl
theorem zT129_71 : TT 129 71 L S M Q = TR (z_st (.aload 0) 1 71 L S M) 129 72 M Q := T_at zk129 rfl
theorem zT129_72 : TT 129 72 L S M Q = TR (z_st (.ldc 11) 2 72 L S M) 129 74 M Q := T_at zk129 rfl
theorem zT129_74 : TT 129 74 L S M Q = TR (z_st (.iload 1) 1 74 L S M) 129 75 M Q := T_at zk129 rfl
theorem zT129_75 : TT 129 75 L S M Q = TR (z_st (.invokevirtual 134) 3 75 L S M) 129 78 M Q := T_at zk129 rfl
theorem zT129_78 : TT 129 78 L S M Q = TR (z_st (.ifCond .eq 83) 3 78 L S M) 129 81 M Q := T_at zk129 rfl
theorem zT129_81 : TT 129 81 L S M Q = TR (z_st (.iconst 4) 1 81 L S M) 129 82 M Q := T_at zk129 rfl
theorem zT129_82 : TT 129 82 L S M Q = TR (z_st (.istore 2) 1 82 L S M) 129 83 M Q := T_at zk129 rfl
theorem zT129_83 : TT 129 83 L S M Q = TR (z_st (.iload 2) 1 83 L S M) 129 84 M Q := T_at zk129 rfl
theorem zT129_84 : TT 129 84 L S M Q = TR (z_st (.iconst (-1)) 1 84 L S M) 129 85 M Q := T_at zk129 rfl
theorem zT129_85 : TT 129 85 L S M Q = TR (z_st (.if_icmp .eq 97) 3 85 L S M) 129 88 M Q := T_at zk129 rfl
theorem zT129_88 : TT 129 88 L S M Q = TR (z_st (.aload 0) 1 88 L S M) 129 89 M Q := T_at zk129 rfl
theorem zT129_89 : TT 129 89 L S M Q = TR (z_st (.iload 1) 1 89 L S M) 129 90 M Q := T_at zk129 rfl
theorem zT129_90 : TT 129 90 L S M Q = TR (z_st (.putfield 13) 3 90 L S M) 129 93 M Q := T_at zk129 rfl
theorem zT129_93 : TT 129 93 L S M Q = TR (z_st (.aload 0) 1 93 L S M) 129 94 M Q := T_at zk129 rfl
theorem zT129_94 : TT 129 94 L S M Q = TR (z_st (.invokevirtual 132) 3 94 L S M) 129 97 M Q := T_at zk129 rfl
theorem zT129_97 : TT 129 97 L S M Q = TR (z_st (.iload 2) 1 97 L S M) 129 98 M Q := T_at zk129 rfl
theorem zT129_98 : TT 129 98 L S M Q = TR (z_st (.ret 0) 1 98 L S M) 129 99 M Q := T_at zk129 rfl
set_option maxRecDepth 100000 in
theorem zk130 : z_coL.getD 130 [] = zc130 := rfl
theorem zT130_0 : TT 130 0 L S M Q = TR (z_st (.aload 0) 1 0 L S M) 130 1 M Q := T_at zk130 rfl
theorem zT130_1 : TT 130 1 L S M Q = TR (z_st (.iconst 48) 2 1 L S M) 130 3 M Q := T_at zk130 rfl
theorem zT130_3 : TT 130 3 L S M Q = TR (z_st (.iconst 57) 2 3 L S M) 130 5 M Q := T_at zk130 rfl
theorem zT130_5 : TT 130 5 L S M Q = TR (z_st (.invokevirtual 133) 3 5 L S M) 130 8 M Q := T_at zk130 rfl
theorem zT130_8 : TT 130 8 L S M Q = TR (z_st (.istore 1) 1 8 L S M) 130 9 M Q := T_at zk130 rfl
theorem zT130_9 : TT 130 9 L S M Q = TR (z_st (.iload 1) 1 9 L S M) 130 10 M Q := T_at zk130 rfl
theorem zT130_10 : TT 130 10 L S M Q = TR (z_st (.aload 0) 1 10 L S M) 130 11 M Q := T_at zk130 rfl
theorem zT130_11 : TT 130 11 L S M Q = TR (z_st (.getfield 13) 3 11 L S M) 130 14 M Q := T_at zk130 rfl
theorem zT130_14 : TT 130 14 L S M Q = TR (z_st (.if_icmp .eq 27) 3 14 L S M) 130 17 M Q := T_at zk130 rfl
theorem zT130_17 : TT 130 17 L S M Q = TR (z_st (.iload 1) 1 17 L S M) 130 18 M Q := T_at zk130 rfl
theorem zT130_18 : TT 130 18 L S M Q = TR (z_st (.aload 0) 1 18 L S M) 130 19 M Q := T_at zk130 rfl
theorem zT130_19 : TT 130 19 L S M Q = TR (z_st (.getfield 13) 3 19 L S M) 130 22 M Q := T_at zk130 rfl
theorem zT130_22 : TT 130 22 L S M Q = TR (z_st (.isub) 1 22 L S M) 130 23 M Q := T_at zk130 rfl
theorem zT130_23 : TT 130 23 L S M Q = TR (z_st (.iconst 2) 1 23 L S M) 130 24 M Q := T_at zk130 rfl
theorem zT130_24 : TT 130 24 L S M Q = TR (z_st (.if_icmp .le 29) 3 24 L S M) 130 27 M Q := T_at zk130 rfl
theorem zT130_27 : TT 130 27 L S M Q = TR (z_st (.iconst (-1)) 1 27 L S M) 130 28 M Q := T_at zk130 rfl
theorem zT130_28 : TT 130 28 L S M Q = TR (z_st (.ret 0) 1 28 L S M) 130 29 M Q := T_at zk130 rfl
theorem zT130_29 : TT 130 29 L S M Q = TR (z_st (.iconst 0) 1 29 L S M) 130 30 M Q := T_at zk130 rfl
theorem zT130_30 : TT 130 30 L S M Q = TR (z_st (.istore 2) 1 30 L S M) 130 31 M Q := T_at zk130 rfl
theorem zT130_31 : TT 130 31 L S M Q = TR (z_st (.aload 0) 1 31 L S M) 130 32 M Q := T_at zk130 rfl
theorem zT130_32 : TT 130 32 L S M Q = TR (z_st (.getfield 13) 3 32 L S M) 130 35 M Q := T_at zk130 rfl
theorem zT130_35 : TT 130 35 L S M Q = TR (z_st (.istore 3) 1 35 L S M) 130 36 M Q := T_at zk130 rfl
theorem zT130_36 : TT 130 36 L S M Q = TR (z_st (.iload 3) 1 36 L S M) 130 37 M Q := T_at zk130 rfl
theorem zT130_37 : TT 130 37 L S M Q = TR (z_st (.iload 1) 1 37 L S M) 130 38 M Q := T_at zk130 rfl
theorem zT130_38 : TT 130 38 L S M Q = TR (z_st (.if_icmp .ge 61) 3 38 L S M) 130 41 M Q := T_at zk130 rfl
theorem zT130_41 : TT 130 41 L S M Q = TR (z_st (.iconst 10) 2 41 L S M) 130 43 M Q := T_at zk130 rfl
theorem zT130_43 : TT 130 43 L S M Q = TR (z_st (.iload 2) 1 43 L S M) 130 44 M Q := T_at zk130 rfl
theorem zT130_44 : TT 130 44 L S M Q = TR (z_st (.imul) 1 44 L S M) 130 45 M Q := T_at zk130 rfl
theorem zT130_45 : TT 130 45 L S M Q = TR (z_st (.aload 0) 1 45 L S M) 130 46 M Q := T_at zk130 rfl
theorem zT130_46 : TT 130 46 L S M Q = TR (z_st (.iload 3) 1 46 L S M) 130 47 M Q := T_at zk130 rfl
theorem zT130_47 : TT 130 47 L S M Q = TR (z_st (.invokevirtual 135) 3 47 L S M) 130 50 M Q := T_at zk130 rfl
theorem zT130_50 : TT 130 50 L S M Q = TR (z_st (.iadd) 1 50 L S M) 130 51 M Q := T_at zk130 rfl
theorem zT130_51 : TT 130 51 L S M Q = TR (z_st (.iconst 48) 2 51 L S M) 130 53 M Q := T_at zk130 rfl
theorem zT130_53 : TT 130 53 L S M Q = TR (z_st (.isub) 1 53 L S M) 130 54 M Q := T_at zk130 rfl
theorem zT130_54 : TT 130 54 L S M Q = TR (z_st (.istore 2) 1 54 L S M) 130 55 M Q := T_at zk130 rfl
theorem zT130_55 : TT 130 55 L S M Q = TR (z_st (.iinc 3 1) 3 55 L S M) 130 58 M Q := T_at zk130 rfl
theorem zT130_58 : TT 130 58 L S M Q = TR (z_st (.goto 36) 3 58 L S M) 130 61 M Q := T_at zk130 rfl
theorem zT130_61 : TT 130 61 L S M Q = TR (z_st (.aload 0) 1 61 L S M) 130 62 M Q := T_at zk130 rfl
theorem zT130_62 : TT 130 62 L S M Q = TR (z_st (.iload 1) 1 62 L S M) 130 63 M Q := T_at zk130 rfl
theorem zT130_63 : TT 130 63 L S M Q = TR (z_st (.putfield 13) 3 63 L S M) 130 66 M Q := T_at zk130 rfl
theorem zT130_66 : TT 130 66 L S M Q = TR (z_st (.aload 0) 1 66 L S M) 130 67 M Q := T_at zk130 rfl
theorem zT130_67 : TT 130 67 L S M Q = TR (z_st (.invokevirtual 132) 3 67 L S M) 130 70 M Q := T_at zk130 rfl
theorem zT130_70 : TT 130 70 L S M Q = TR (z_st (.iload 2) 1 70 L S M) 130 71 M Q := T_at zk130 rfl
theorem zT130_71 : TT 130 71 L S M Q = TR (z_st (.ret 0) 1 71 L S M) 130 72 M Q := T_at zk130 rfl
set_option maxRecDepth 100000 in
theorem zk131 : z_coL.getD 131 [] = zc131 := rfl
theorem zT131_0 : TT 131 0 L S M Q = TR (z_st (.aload 0) 1 0 L S M) 131 1 M Q := T_at zk131 rfl
theorem zT131_1 : TT 131 1 L S M Q = TR (z_st (.aload 0) 1 1 L S M) 131 2 M Q := T_at zk131 rfl
theorem zT131_2 : TT 131 2 L S M Q = TR (z_st (.getfield 13) 3 2 L S M) 131 5 M Q := T_at zk131 rfl
theorem zT131_5 : TT 131 5 L S M Q = TR (z_st (.invokevirtual 135) 3 5 L S M) 131 8 M Q := T_at zk131 rfl
theorem zT131_8 : TT 131 8 L S M Q = TR (z_st (.iconst 59) 2 8 L S M) 131 10 M Q := T_at zk131 rfl
theorem zT131_10 : TT 131 10 L S M Q = TR (z_st (.if_icmp .eq 15) 3 10 L S M) 131 13 M Q := T_at zk131 rfl
theorem zT131_13 : TT 131 13 L S M Q = TR (z_st (.iconst 0) 1 13 L S M) 131 14 M Q := T_at zk131 rfl
theorem zT131_14 : TT 131 14 L S M Q = TR (z_st (.ret 1) 1 14 L S M) 131 15 M Q := T_at zk131 rfl
theorem zT131_15 : TT 131 15 L S M Q = TR (z_st (.aload 0) 1 15 L S M) 131 16 M Q := T_at zk131 rfl
theorem zT131_16 : TT 131 16 L S M Q = TR (z_st (.dup) 1 16 L S M) 131 17 M Q := T_at zk131 rfl
theorem zT131_17 : TT 131 17 L S M Q = TR (z_st (.getfield 13) 3 17 L S M) 131 20 M Q := T_at zk131 rfl
theorem zT131_20 : TT 131 20 L S M Q = TR (z_st (.iconst 1) 1 20 L S M) 131 21 M Q := T_at zk131 rfl
theorem zT131_21 : TT 131 21 L S M Q = TR (z_st (.iadd) 1 21 L S M) 131 22 M Q := T_at zk131 rfl
theorem zT131_22 : TT 131 22 L S M Q = TR (z_st (.putfield 13) 3 22 L S M) 131 25 M Q := T_at zk131 rfl
theorem zT131_25 : TT 131 25 L S M Q = TR (z_st (.iconst 1) 1 25 L S M) 131 26 M Q := T_at zk131 rfl
theorem zT131_26 : TT 131 26 L S M Q = TR (z_st (.ret 1) 1 26 L S M) 131 27 M Q := T_at zk131 rfl
set_option maxRecDepth 100000 in
theorem zk132 : z_coL.getD 132 [] = zc132 := rfl
theorem zT132_0 : TT 132 0 L S M Q = TR (z_st (.aload 0) 1 0 L S M) 132 1 M Q := T_at zk132 rfl
theorem zT132_1 : TT 132 1 L S M Q = TR (z_st (.aload 0) 1 1 L S M) 132 2 M Q := T_at zk132 rfl
theorem zT132_2 : TT 132 2 L S M Q = TR (z_st (.iconst 32) 2 2 L S M) 132 4 M Q := T_at zk132 rfl
theorem zT132_4 : TT 132 4 L S M Q = TR (z_st (.iconst 32) 2 4 L S M) 132 6 M Q := T_at zk132 rfl
theorem zT132_6 : TT 132 6 L S M Q = TR (z_st (.invokevirtual 133) 3 6 L S M) 132 9 M Q := T_at zk132 rfl
theorem zT132_9 : TT 132 9 L S M Q = TR (z_st (.putfield 13) 3 9 L S M) 132 12 M Q := T_at zk132 rfl
theorem zT132_12 : TT 132 12 L S M Q = TR (z_st (.return_) 1 12 L S M) 132 13 M Q := T_at zk132 rfl
set_option maxRecDepth 100000 in
theorem zk133 : z_coL.getD 133 [] = zc133 := rfl
theorem zT133_0 : TT 133 0 L S M Q = TR (z_st (.aload 0) 1 0 L S M) 133 1 M Q := T_at zk133 rfl
theorem zT133_1 : TT 133 1 L S M Q = TR (z_st (.getfield 13) 3 1 L S M) 133 4 M Q := T_at zk133 rfl
theorem zT133_4 : TT 133 4 L S M Q = TR (z_st (.istore 3) 1 4 L S M) 133 5 M Q := T_at zk133 rfl
theorem zT133_5 : TT 133 5 L S M Q = TR (z_st (.iload 3) 1 5 L S M) 133 6 M Q := T_at zk133 rfl
theorem zT133_6 : TT 133 6 L S M Q = TR (z_st (.aload 0) 1 6 L S M) 133 7 M Q := T_at zk133 rfl
theorem zT133_7 : TT 133 7 L S M Q = TR (z_st (.getfield 12) 3 7 L S M) 133 10 M Q := T_at zk133 rfl
theorem zT133_10 : TT 133 10 L S M Q = TR (z_st (.if_icmp .ge 37) 3 10 L S M) 133 13 M Q := T_at zk133 rfl
theorem zT133_13 : TT 133 13 L S M Q = TR (z_st (.aload 0) 1 13 L S M) 133 14 M Q := T_at zk133 rfl
theorem zT133_14 : TT 133 14 L S M Q = TR (z_st (.iload 3) 1 14 L S M) 133 15 M Q := T_at zk133 rfl
theorem zT133_15 : TT 133 15 L S M Q = TR (z_st (.invokevirtual 135) 3 15 L S M) 133 18 M Q := T_at zk133 rfl
theorem zT133_18 : TT 133 18 L S M Q = TR (z_st (.iload 1) 1 18 L S M) 133 19 M Q := T_at zk133 rfl
theorem zT133_19 : TT 133 19 L S M Q = TR (z_st (.if_icmp .lt 37) 3 19 L S M) 133 22 M Q := T_at zk133 rfl
theorem zT133_22 : TT 133 22 L S M Q = TR (z_st (.aload 0) 1 22 L S M) 133 23 M Q := T_at zk133 rfl
theorem zT133_23 : TT 133 23 L S M Q = TR (z_st (.iload 3) 1 23 L S M) 133 24 M Q := T_at zk133 rfl
theorem zT133_24 : TT 133 24 L S M Q = TR (z_st (.invokevirtual 135) 3 24 L S M) 133 27 M Q := T_at zk133 rfl
theorem zT133_27 : TT 133 27 L S M Q = TR (z_st (.iload 2) 1 27 L S M) 133 28 M Q := T_at zk133 rfl
theorem zT133_28 : TT 133 28 L S M Q = TR (z_st (.if_icmp .gt 37) 3 28 L S M) 133 31 M Q := T_at zk133 rfl
theorem zT133_31 : TT 133 31 L S M Q = TR (z_st (.iinc 3 1) 3 31 L S M) 133 34 M Q := T_at zk133 rfl
theorem zT133_34 : TT 133 34 L S M Q = TR (z_st (.goto 5) 3 34 L S M) 133 37 M Q := T_at zk133 rfl
theorem zT133_37 : TT 133 37 L S M Q = TR (z_st (.iload 3) 1 37 L S M) 133 38 M Q := T_at zk133 rfl
theorem zT133_38 : TT 133 38 L S M Q = TR (z_st (.ret 0) 1 38 L S M) 133 39 M Q := T_at zk133 rfl
set_option maxRecDepth 100000 in
theorem zk134 : z_coL.getD 134 [] = zc134 := rfl
theorem zT134_0 : TT 134 0 L S M Q = TR (z_st (.iload 2) 1 0 L S M) 134 1 M Q := T_at zk134 rfl
theorem zT134_1 : TT 134 1 L S M Q = TR (z_st (.aload 0) 1 1 L S M) 134 2 M Q := T_at zk134 rfl
theorem zT134_2 : TT 134 2 L S M Q = TR (z_st (.getfield 13) 3 2 L S M) 134 5 M Q := T_at zk134 rfl
theorem zT134_5 : TT 134 5 L S M Q = TR (z_st (.isub) 1 5 L S M) 134 6 M Q := T_at zk134 rfl
theorem zT134_6 : TT 134 6 L S M Q = TR (z_st (.aload 1) 1 6 L S M) 134 7 M Q := T_at zk134 rfl
theorem zT134_7 : TT 134 7 L S M Q = TR (z_st (.invokevirtual 239) 3 7 L S M) 134 10 M Q := T_at zk134 rfl
theorem zT134_10 : TT 134 10 L S M Q = TR (z_st (.if_icmp .eq 15) 3 10 L S M) 134 13 M Q := T_at zk134 rfl
theorem zT134_13 : TT 134 13 L S M Q = TR (z_st (.iconst 0) 1 13 L S M) 134 14 M Q := T_at zk134 rfl
theorem zT134_14 : TT 134 14 L S M Q = TR (z_st (.ret 1) 1 14 L S M) 134 15 M Q := T_at zk134 rfl
theorem zT134_15 : TT 134 15 L S M Q = TR (z_st (.iconst 0) 1 15 L S M) 134 16 M Q := T_at zk134 rfl
theorem zT134_16 : TT 134 16 L S M Q = TR (z_st (.istore 3) 1 16 L S M) 134 17 M Q := T_at zk134 rfl
theorem zT134_17 : TT 134 17 L S M Q = TR (z_st (.iload 3) 1 17 L S M) 134 18 M Q := T_at zk134 rfl
theorem zT134_18 : TT 134 18 L S M Q = TR (z_st (.aload 1) 1 18 L S M) 134 19 M Q := T_at zk134 rfl
theorem zT134_19 : TT 134 19 L S M Q = TR (z_st (.invokevirtual 239) 3 19 L S M) 134 22 M Q := T_at zk134 rfl
theorem zT134_22 : TT 134 22 L S M Q = TR (z_st (.if_icmp .ge 51) 3 22 L S M) 134 25 M Q := T_at zk134 rfl
theorem zT134_25 : TT 134 25 L S M Q = TR (z_st (.aload 0) 1 25 L S M) 134 26 M Q := T_at zk134 rfl
theorem zT134_26 : TT 134 26 L S M Q = TR (z_st (.aload 0) 1 26 L S M) 134 27 M Q := T_at zk134 rfl
theorem zT134_27 : TT 134 27 L S M Q = TR (z_st (.getfield 13) 3 27 L S M) 134 30 M Q := T_at zk134 rfl
theorem zT134_30 : TT 134 30 L S M Q = TR (z_st (.iload 3) 1 30 L S M) 134 31 M Q := T_at zk134 rfl
theorem zT134_31 : TT 134 31 L S M Q = TR (z_st (.iadd) 1 31 L S M) 134 32 M Q := T_at zk134 rfl
theorem zT134_32 : TT 134 32 L S M Q = TR (z_st (.invokevirtual 135) 3 32 L S M) 134 35 M Q := T_at zk134 rfl
theorem zT134_35 : TT 134 35 L S M Q = TR (z_st (.aload 1) 1 35 L S M) 134 36 M Q := T_at zk134 rfl
theorem zT134_36 : TT 134 36 L S M Q = TR (z_st (.iload 3) 1 36 L S M) 134 37 M Q := T_at zk134 rfl
theorem zT134_37 : TT 134 37 L S M Q = TR (z_st (.invokevirtual 240) 3 37 L S M) 134 40 M Q := T_at zk134 rfl
theorem zT134_40 : TT 134 40 L S M Q = TR (z_st (.if_icmp .eq 45) 3 40 L S M) 134 43 M Q := T_at zk134 rfl
theorem zT134_43 : TT 134 43 L S M Q = TR (z_st (.iconst 0) 1 43 L S M) 134 44 M Q := T_at zk134 rfl
theorem zT134_44 : TT 134 44 L S M Q = TR (z_st (.ret 1) 1 44 L S M) 134 45 M Q := T_at zk134 rfl
theorem zT134_45 : TT 134 45 L S M Q = TR (z_st (.iinc 3 1) 3 45 L S M) 134 48 M Q := T_at zk134 rfl
theorem zT134_48 : TT 134 48 L S M Q = TR (z_st (.goto 17) 3 48 L S M) 134 51 M Q := T_at zk134 rfl
theorem zT134_51 : TT 134 51 L S M Q = TR (z_st (.iconst 1) 1 51 L S M) 134 52 M Q := T_at zk134 rfl
theorem zT134_52 : TT 134 52 L S M Q = TR (z_st (.ret 1) 1 52 L S M) 134 53 M Q := T_at zk134 rfl
set_option maxRecDepth 100000 in
theorem zk135 : z_coL.getD 135 [] = zc135 := rfl
theorem zT135_0 : TT 135 0 L S M Q = TR (z_st (.iload 1) 1 0 L S M) 135 1 M Q := T_at zk135 rfl
theorem zT135_1 : TT 135 1 L S M Q = TR (z_st (.ifCond .lt 28) 3 1 L S M) 135 4 M Q := T_at zk135 rfl
theorem zT135_4 : TT 135 4 L S M Q = TR (z_st (.iload 1) 1 4 L S M) 135 5 M Q := T_at zk135 rfl
theorem zT135_5 : TT 135 5 L S M Q = TR (z_st (.aload 0) 1 5 L S M) 135 6 M Q := T_at zk135 rfl
theorem zT135_6 : TT 135 6 L S M Q = TR (z_st (.getfield 12) 3 6 L S M) 135 9 M Q := T_at zk135 rfl
theorem zT135_9 : TT 135 9 L S M Q = TR (z_st (.if_icmp .ge 28) 3 9 L S M) 135 12 M Q := T_at zk135 rfl
theorem zT135_12 : TT 135 12 L S M Q = TR (z_st (.iload 1) 1 12 L S M) 135 13 M Q := T_at zk135 rfl
theorem zT135_13 : TT 135 13 L S M Q = TR (z_st (.iconst 200) 3 13 L S M) 135 16 M Q := T_at zk135 rfl
theorem zT135_16 : TT 135 16 L S M Q = TR (z_st (.if_icmp .ge 28) 3 16 L S M) 135 19 M Q := T_at zk135 rfl
theorem zT135_19 : TT 135 19 L S M Q = TR (z_st (.aload 0) 1 19 L S M) 135 20 M Q := T_at zk135 rfl
theorem zT135_20 : TT 135 20 L S M Q = TR (z_st (.fload 11) 3 20 L S M) 135 23 M Q := T_at zk135 rfl
theorem zT135_23 : TT 135 23 L S M Q = TR (z_st (.iload 1) 1 23 L S M) 135 24 M Q := T_at zk135 rfl
theorem zT135_24 : TT 135 24 L S M Q = TR (z_st (.iaload) 1 24 L S M) 135 25 M Q := T_at zk135 rfl
theorem zT135_25 : TT 135 25 L S M Q = TR (z_st (.goto 29) 3 25 L S M) 135 28 M Q := T_at zk135 rfl
theorem zT135_28 : TT 135 28 L S M Q = TR (z_st (.iconst (-1)) 1 28 L S M) 135 29 M Q := T_at zk135 rfl
theorem zT135_29 : TT 135 29 L S M Q = TR (z_st (.ret 0) 1 29 L S M) 135 30 M Q := T_at zk135 rfl
set_option maxRecDepth 100000 in
theorem zk136 : z_coL.getD 136 [] = zc136 := rfl
theorem zT136_0 : TT 136 0 L S M Q = TR (z_st (.iload 1) 1 0 L S M) 136 1 M Q := T_at zk136 rfl
theorem zT136_1 : TT 136 1 L S M Q = TR (z_st (.ifCond .lt 18) 3 1 L S M) 136 4 M Q := T_at zk136 rfl
theorem zT136_4 : TT 136 4 L S M Q = TR (z_st (.iload 1) 1 4 L S M) 136 5 M Q := T_at zk136 rfl
theorem zT136_5 : TT 136 5 L S M Q = TR (z_st (.aload 0) 1 5 L S M) 136 6 M Q := T_at zk136 rfl
theorem zT136_6 : TT 136 6 L S M Q = TR (z_st (.getfield 16) 3 6 L S M) 136 9 M Q := T_at zk136 rfl
theorem zT136_9 : TT 136 9 L S M Q = TR (z_st (.if_icmp .ge 18) 3 9 L S M) 136 12 M Q := T_at zk136 rfl
theorem zT136_12 : TT 136 12 L S M Q = TR (z_st (.iload 1) 1 12 L S M) 136 13 M Q := T_at zk136 rfl
theorem zT136_13 : TT 136 13 L S M Q = TR (z_st (.iconst 40) 2 13 L S M) 136 15 M Q := T_at zk136 rfl
theorem zT136_15 : TT 136 15 L S M Q = TR (z_st (.if_icmp .lt 21) 3 15 L S M) 136 18 M Q := T_at zk136 rfl
theorem zT136_18 : TT 136 18 L S M Q = TR (z_st (.iconst (-2)) 2 18 L S M) 136 20 M Q := T_at zk136 rfl
theorem zT136_20 : TT 136 20 L S M Q = TR (z_st (.ret 0) 1 20 L S M) 136 21 M Q := T_at zk136 rfl
theorem zT136_21 : TT 136 21 L S M Q = TR (z_st (.iload 1) 1 21 L S M) 136 22 M Q := T_at zk136 rfl
theorem zT136_22 : TT 136 22 L S M Q = TR (z_st (.iconst 5) 1 22 L S M) 136 23 M Q := T_at zk136 rfl
theorem zT136_23 : TT 136 23 L S M Q = TR (z_st (.imul) 1 23 L S M) 136 24 M Q := T_at zk136 rfl
theorem zT136_24 : TT 136 24 L S M Q = TR (z_st (.istore 3) 1 24 L S M) 136 25 M Q := T_at zk136 rfl
theorem zT136_25 : TT 136 25 L S M Q = TR (z_st (.aload 0) 1 25 L S M) 136 26 M Q := T_at zk136 rfl
theorem zT136_26 : TT 136 26 L S M Q = TR (z_st (.fload 14) 3 26 L S M) 136 29 M Q := T_at zk136 rfl
theorem zT136_29 : TT 136 29 L S M Q = TR (z_st (.iload 1) 1 29 L S M) 136 30 M Q := T_at zk136 rfl
theorem zT136_30 : TT 136 30 L S M Q = TR (z_st (.iaload) 1 30 L S M) 136 31 M Q := T_at zk136 rfl
theorem zT136_31 : TT 136 31 L S M Q = TR (z_st (.tableswitch 138 0 3 #[60, 79, 84, 127]) 29 31 L S M) 136 60 M Q := T_at zk136 rfl
theorem zT136_60 : TT 136 60 L S M Q = TR (z_st (.aload 2) 1 60 L S M) 136 61 M Q := T_at zk136 rfl
theorem zT136_61 : TT 136 61 L S M Q = TR (z_st (.aload 0) 1 61 L S M) 136 62 M Q := T_at zk136 rfl
theorem zT136_62 : TT 136 62 L S M Q = TR (z_st (.fload 15) 3 62 L S M) 136 65 M Q := T_at zk136 rfl
theorem zT136_65 : TT 136 65 L S M Q = TR (z_st (.iload 3) 1 65 L S M) 136 66 M Q := T_at zk136 rfl
theorem zT136_66 : TT 136 66 L S M Q = TR (z_st (.iaload) 1 66 L S M) 136 67 M Q := T_at zk136 rfl
theorem zT136_67 : TT 136 67 L S M Q = TR (z_st (.aload 0) 1 67 L S M) 136 68 M Q := T_at zk136 rfl
theorem zT136_68 : TT 136 68 L S M Q = TR (z_st (.fload 15) 3 68 L S M) 136 71 M Q := T_at zk136 rfl
theorem zT136_71 : TT 136 71 L S M Q = TR (z_st (.iload 3) 1 71 L S M) 136 72 M Q := T_at zk136 rfl
theorem zT136_72 : TT 136 72 L S M Q = TR (z_st (.iconst 1) 1 72 L S M) 136 73 M Q := T_at zk136 rfl
theorem zT136_73 : TT 136 73 L S M Q = TR (z_st (.iadd) 1 73 L S M) 136 74 M Q := T_at zk136 rfl
theorem zT136_74 : TT 136 74 L S M Q = TR (z_st (.iaload) 1 74 L S M) 136 75 M Q := T_at zk136 rfl
theorem zT136_75 : TT 136 75 L S M Q = TR (z_st (.invokevirtual 178) 3 75 L S M) 136 78 M Q := T_at zk136 rfl
theorem zT136_78 : TT 136 78 L S M Q = TR (z_st (.ret 0) 1 78 L S M) 136 79 M Q := T_at zk136 rfl
theorem zT136_79 : TT 136 79 L S M Q = TR (z_st (.aload 2) 1 79 L S M) 136 80 M Q := T_at zk136 rfl
theorem zT136_80 : TT 136 80 L S M Q = TR (z_st (.invokevirtual 179) 3 80 L S M) 136 83 M Q := T_at zk136 rfl
theorem zT136_83 : TT 136 83 L S M Q = TR (z_st (.ret 0) 1 83 L S M) 136 84 M Q := T_at zk136 rfl
theorem zT136_84 : TT 136 84 L S M Q = TR (z_st (.aload 2) 1 84 L S M) 136 85 M Q := T_at zk136 rfl
theorem zT136_85 : TT 136 85 L S M Q = TR (z_st (.aload 0) 1 85 L S M) 136 86 M Q := T_at zk136 rfl
theorem zT136_86 : TT 136 86 L S M Q = TR (z_st (.fload 15) 3 86 L S M) 136 89 M Q := T_at zk136 rfl
theorem zT136_89 : TT 136 89 L S M Q = TR (z_st (.iload 3) 1 89 L S M) 136 90 M Q := T_at zk136 rfl
theorem zT136_90 : TT 136 90 L S M Q = TR (z_st (.iaload) 1 90 L S M) 136 91 M Q := T_at zk136 rfl
theorem zT136_91 : TT 136 91 L S M Q = TR (z_st (.aload 0) 1 91 L S M) 136 92 M Q := T_at zk136 rfl
theorem zT136_92 : TT 136 92 L S M Q = TR (z_st (.fload 15) 3 92 L S M) 136 95 M Q := T_at zk136 rfl
theorem zT136_95 : TT 136 95 L S M Q = TR (z_st (.iload 3) 1 95 L S M) 136 96 M Q := T_at zk136 rfl
theorem zT136_96 : TT 136 96 L S M Q = TR (z_st (.iconst 1) 1 96 L S M) 136 97 M Q := T_at zk136 rfl
theorem zT136_97 : TT 136 97 L S M Q = TR (z_st (.iadd) 1 97 L S M) 136 98 M Q := T_at zk136 rfl
theorem zT136_98 : TT 136 98 L S M Q = TR (z_st (.iaload) 1 98 L S M) 136 99 M Q := T_at zk136 rfl
theorem zT136_99 : TT 136 99 L S M Q = TR (z_st (.aload 0) 1 99 L S M) 136 100 M Q := T_at zk136 rfl
theorem zT136_100 : TT 136 100 L S M Q = TR (z_st (.fload 15) 3 100 L S M) 136 103 M Q := T_at zk136 rfl
theorem zT136_103 : TT 136 103 L S M Q = TR (z_st (.iload 3) 1 103 L S M) 136 104 M Q := T_at zk136 rfl
theorem zT136_104 : TT 136 104 L S M Q = TR (z_st (.iconst 2) 1 104 L S M) 136 105 M Q := T_at zk136 rfl
theorem zT136_105 : TT 136 105 L S M Q = TR (z_st (.iadd) 1 105 L S M) 136 106 M Q := T_at zk136 rfl
theorem zT136_106 : TT 136 106 L S M Q = TR (z_st (.iaload) 1 106 L S M) 136 107 M Q := T_at zk136 rfl
theorem zT136_107 : TT 136 107 L S M Q = TR (z_st (.aload 0) 1 107 L S M) 136 108 M Q := T_at zk136 rfl
theorem zT136_108 : TT 136 108 L S M Q = TR (z_st (.fload 15) 3 108 L S M) 136 111 M Q := T_at zk136 rfl
theorem zT136_111 : TT 136 111 L S M Q = TR (z_st (.iload 3) 1 111 L S M) 136 112 M Q := T_at zk136 rfl
theorem zT136_112 : TT 136 112 L S M Q = TR (z_st (.iconst 3) 1 112 L S M) 136 113 M Q := T_at zk136 rfl
theorem zT136_113 : TT 136 113 L S M Q = TR (z_st (.iadd) 1 113 L S M) 136 114 M Q := T_at zk136 rfl
theorem zT136_114 : TT 136 114 L S M Q = TR (z_st (.iaload) 1 114 L S M) 136 115 M Q := T_at zk136 rfl
theorem zT136_115 : TT 136 115 L S M Q = TR (z_st (.aload 0) 1 115 L S M) 136 116 M Q := T_at zk136 rfl
theorem zT136_116 : TT 136 116 L S M Q = TR (z_st (.fload 15) 3 116 L S M) 136 119 M Q := T_at zk136 rfl
theorem zT136_119 : TT 136 119 L S M Q = TR (z_st (.iload 3) 1 119 L S M) 136 120 M Q := T_at zk136 rfl
theorem zT136_120 : TT 136 120 L S M Q = TR (z_st (.iconst 4) 1 120 L S M) 136 121 M Q := T_at zk136 rfl
theorem zT136_121 : TT 136 121 L S M Q = TR (z_st (.iadd) 1 121 L S M) 136 122 M Q := T_at zk136 rfl
theorem zT136_122 : TT 136 122 L S M Q = TR (z_st (.iaload) 1 122 L S M) 136 123 M Q := T_at zk136 rfl
theorem zT136_123 : TT 136 123 L S M Q = TR (z_st (.invokevirtual 180) 3 123 L S M) 136 126 M Q := T_at zk136 rfl
theorem zT136_126 : TT 136 126 L S M Q = TR (z_st (.ret 0) 1 126 L S M) 136 127 M Q := T_at zk136 rfl
theorem zT136_127 : TT 136 127 L S M Q = TR (z_st (.aload 2) 1 127 L S M) 136 128 M Q := T_at zk136 rfl
theorem zT136_128 : TT 136 128 L S M Q = TR (z_st (.aload 0) 1 128 L S M) 136 129 M Q := T_at zk136 rfl
theorem zT136_129 : TT 136 129 L S M Q = TR (z_st (.fload 15) 3 129 L S M) 136 132 M Q := T_at zk136 rfl
theorem zT136_132 : TT 136 132 L S M Q = TR (z_st (.iload 3) 1 132 L S M) 136 133 M Q := T_at zk136 rfl
theorem zT136_133 : TT 136 133 L S M Q = TR (z_st (.iaload) 1 133 L S M) 136 134 M Q := T_at zk136 rfl
theorem zT136_134 : TT 136 134 L S M Q = TR (z_st (.invokevirtual 181) 3 134 L S M) 136 137 M Q := T_at zk136 rfl
theorem zT136_137 : TT 136 137 L S M Q = TR (z_st (.ret 0) 1 137 L S M) 136 138 M Q := T_at zk136 rfl
theorem zT136_138 : TT 136 138 L S M Q = TR (z_st (.aload 2) 1 138 L S M) 136 139 M Q := T_at zk136 rfl
theorem zT136_139 : TT 136 139 L S M Q = TR (z_st (.iconst 1) 1 139 L S M) 136 140 M Q := T_at zk136 rfl
theorem zT136_140 : TT 136 140 L S M Q = TR (z_st (.invokevirtual 182) 3 140 L S M) 136 143 M Q := T_at zk136 rfl
theorem zT136_143 : TT 136 143 L S M Q = TR (z_st (.ret 0) 1 143 L S M) 136 144 M Q := T_at zk136 rfl
set_option maxRecDepth 100000 in
theorem zk137 : z_coL.getD 137 [] = zc137 := rfl
theorem zT137_0 : TT 137 0 L S M Q = TR (z_st (.aload 0) 1 0 L S M) 137 1 M Q := T_at zk137 rfl
theorem zT137_1 : TT 137 1 L S M Q = TR (z_st (.athrow) 3 1 L S M) 137 4 M Q := T_at zk137 rfl
theorem zT137_4 : TT 137 4 L S M Q = TR (z_st (.aload 0) 1 4 L S M) 137 5 M Q := T_at zk137 rfl
theorem zT137_5 : TT 137 5 L S M Q = TR (z_st (.iconst 6) 2 5 L S M) 137 7 M Q := T_at zk137 rfl
theorem zT137_7 : TT 137 7 L S M Q = TR (z_st (.newarray .boolean) 2 7 L S M) 137 9 M Q := T_at zk137 rfl
theorem zT137_9 : TT 137 9 L S M Q = TR (z_st (.fstore 18) 3 9 L S M) 137 12 M Q := T_at zk137 rfl
theorem zT137_12 : TT 137 12 L S M Q = TR (z_st (.aload 0) 1 12 L S M) 137 13 M Q := T_at zk137 rfl
theorem zT137_13 : TT 137 13 L S M Q = TR (z_st (.iconst 6) 2 13 L S M) 137 15 M Q := T_at zk137 rfl
theorem zT137_15 : TT 137 15 L S M Q = TR (z_st (.newarray .boolean) 2 15 L S M) 137 17 M Q := T_at zk137 rfl
theorem zT137_17 : TT 137 17 L S M Q = TR (z_st (.fstore 19) 3 17 L S M) 137 20 M Q := T_at zk137 rfl
theorem zT137_20 : TT 137 20 L S M Q = TR (z_st (.aload 0) 1 20 L S M) 137 21 M Q := T_at zk137 rfl
theorem zT137_21 : TT 137 21 L S M Q = TR (z_st (.iconst 6) 2 21 L S M) 137 23 M Q := T_at zk137 rfl
theorem zT137_23 : TT 137 23 L S M Q = TR (z_st (.newarray .boolean) 2 23 L S M) 137 25 M Q := T_at zk137 rfl
theorem zT137_25 : TT 137 25 L S M Q = TR (z_st (.fstore 20) 3 25 L S M) 137 28 M Q := T_at zk137 rfl
theorem zT137_28 : TT 137 28 L S M Q = TR (z_st (.aload 0) 1 28 L S M) 137 29 M Q := T_at zk137 rfl
theorem zT137_29 : TT 137 29 L S M Q = TR (z_st (.iconst 6) 2 29 L S M) 137 31 M Q := T_at zk137 rfl
theorem zT137_31 : TT 137 31 L S M Q = TR (z_st (.newarray .boolean) 2 31 L S M) 137 33 M Q := T_at zk137 rfl
theorem zT137_33 : TT 137 33 L S M Q = TR (z_st (.fstore 21) 3 33 L S M) 137 36 M Q := T_at zk137 rfl
theorem zT137_36 : TT 137 36 L S M Q = TR (z_st (.aload 0) 1 36 L S M) 137 37 M Q := T_at zk137 rfl
theorem zT137_37 : TT 137 37 L S M Q = TR (z_st (.new 5) 3 37 L S M) 137 40 M Q := T_at zk137 rfl
theorem zT137_40 : TT 137 40 L S M Q = TR (z_st (.dup) 1 40 L S M) 137 41 M Q := T_at zk137 rfl
theorem zT137_41 : TT 137 41 L S M Q = TR (z_st (.invokespecial 165) 3 41 L S M) 137 44 M Q := T_at zk137 rfl
theorem zT137_44 : TT 137 44 L S M Q = TR (z_st (.fstore 22) 3 44 L S M) 137 47 M Q := T_at zk137 rfl
theorem zT137_47 : TT 137 47 L S M Q = TR (z_st (.aload 0) 1 47 L S M) 137 48 M Q := T_at zk137 rfl
theorem zT137_48 : TT 137 48 L S M Q = TR (z_st (.new 5) 3 48 L S M) 137 51 M Q := T_at zk137 rfl
theorem zT137_51 : TT 137 51 L S M Q = TR (z_st (.dup) 1 51 L S M) 137 52 M Q := T_at zk137 rfl
theorem zT137_52 : TT 137 52 L S M Q = TR (z_st (.invokespecial 165) 3 52 L S M) 137 55 M Q := T_at zk137 rfl
theorem zT137_55 : TT 137 55 L S M Q = TR (z_st (.fstore 23) 3 55 L S M) 137 58 M Q := T_at zk137 rfl
theorem zT137_58 : TT 137 58 L S M Q = TR (z_st (.aload 0) 1 58 L S M) 137 59 M Q := T_at zk137 rfl
theorem zT137_59 : TT 137 59 L S M Q = TR (z_st (.iconst 18) 2 59 L S M) 137 61 M Q := T_at zk137 rfl
theorem zT137_61 : TT 137 61 L S M Q = TR (z_st (.newarray .int) 2 61 L S M) 137 63 M Q := T_at zk137 rfl
theorem zT137_63 : TT 137 63 L S M Q = TR (z_st (.fstore 25) 3 63 L S M) 137 66 M Q := T_at zk137 rfl
theorem zT137_66 : TT 137 66 L S M Q = TR (z_st (.aload 0) 1 66 L S M) 137 67 M Q := T_at zk137 rfl
theorem zT137_67 : TT 137 67 L S M Q = TR (z_st (.iconst 3) 1 67 L S M) 137 68 M Q := T_at zk137 rfl
theorem zT137_68 : TT 137 68 L S M Q = TR (z_st (.newarray .int) 2 68 L S M) 137 70 M Q := T_at zk137 rfl
theorem zT137_70 : TT 137 70 L S M Q = TR (z_st (.fstore 27) 3 70 L S M) 137 73 M Q := T_at zk137 rfl
theorem zT137_73 : TT 137 73 L S M Q = TR (z_st (.aload 0) 1 73 L S M) 137 74 M Q := T_at zk137 rfl
theorem zT137_74 : TT 137 74 L S M Q = TR (z_st (.aload 1) 1 74 L S M) 137 75 M Q := T_at zk137 rfl
theorem zT137_75 : TT 137 75 L S M Q = TR (z_st (.fstore 17) 3 75 L S M) 137 78 M Q := T_at zk137 rfl
theorem zT137_78 : TT 137 78 L S M Q = TR (z_st (.return_) 1 78 L S M) 137 79 M Q := T_at zk137 rfl
set_option maxRecDepth 100000 in
theorem zk138 : z_coL.getD 138 [] = zc138 := rfl
theorem zT138_0 : TT 138 0 L S M Q = TR (z_st (.aload 0) 1 0 L S M) 138 1 M Q := T_at zk138 rfl
theorem zT138_1 : TT 138 1 L S M Q = TR (z_st (.fload 22) 3 1 L S M) 138 4 M Q := T_at zk138 rfl
theorem zT138_4 : TT 138 4 L S M Q = TR (z_st (.invokevirtual 166) 3 4 L S M) 138 7 M Q := T_at zk138 rfl
theorem zT138_7 : TT 138 7 L S M Q = TR (z_st (.iconst 0) 1 7 L S M) 138 8 M Q := T_at zk138 rfl
theorem zT138_8 : TT 138 8 L S M Q = TR (z_st (.istore 2) 1 8 L S M) 138 9 M Q := T_at zk138 rfl
theorem zT138_9 : TT 138 9 L S M Q = TR (z_st (.iload 2) 1 9 L S M) 138 10 M Q := T_at zk138 rfl
theorem zT138_10 : TT 138 10 L S M Q = TR (z_st (.iconst 6) 2 10 L S M) 138 12 M Q := T_at zk138 rfl
theorem zT138_12 : TT 138 12 L S M Q = TR (z_st (.if_icmp .ge 109) 3 12 L S M) 138 15 M Q := T_at zk138 rfl
theorem zT138_15 : TT 138 15 L S M Q = TR (z_st (.aload 0) 1 15 L S M) 138 16 M Q := T_at zk138 rfl
theorem zT138_16 : TT 138 16 L S M Q = TR (z_st (.fload 17) 3 16 L S M) 138 19 M Q := T_at zk138 rfl
theorem zT138_19 : TT 138 19 L S M Q = TR (z_st (.iload 2) 1 19 L S M) 138 20 M Q := T_at zk138 rfl
theorem zT138_20 : TT 138 20 L S M Q = TR (z_st (.invokevirtual 185) 3 20 L S M) 138 23 M Q := T_at zk138 rfl
theorem zT138_23 : TT 138 23 L S M Q = TR (z_st (.istore 3) 1 23 L S M) 138 24 M Q := T_at zk138 rfl
theorem zT138_24 : TT 138 24 L S M Q = TR (z_st (.aload 0) 1 24 L S M) 138 25 M Q := T_at zk138 rfl
theorem zT138_25 : TT 138 25 L S M Q = TR (z_st (.fload 20) 3 25 L S M) 138 28 M Q := T_at zk138 rfl
theorem zT138_28 : TT 138 28 L S M Q = TR (z_st (.iload 2) 1 28 L S M) 138 29 M Q := T_at zk138 rfl
theorem zT138_29 : TT 138 29 L S M Q = TR (z_st (.iload 3) 1 29 L S M) 138 30 M Q := T_at zk138 rfl
theorem zT138_30 : TT 138 30 L S M Q = TR (z_st (.invokestatic 174) 3 30 L S M) 138 33 M Q := T_at zk138 rfl
theorem zT138_33 : TT 138 33 L S M Q = TR (z_st (.bastore) 1 33 L S M) 138 34 M Q := T_at zk138 rfl
theorem zT138_34 : TT 138 34 L S M Q = TR (z_st (.aload 0) 1 34 L S M) 138 35 M Q := T_at zk138 rfl
theorem zT138_35 : TT 138 35 L S M Q = TR (z_st (.fload 21) 3 35 L S M) 138 38 M Q := T_at zk138 rfl
theorem zT138_38 : TT 138 38 L S M Q = TR (z_st (.iload 2) 1 38 L S M) 138 39 M Q := T_at zk138 rfl
theorem zT138_39 : TT 138 39 L S M Q = TR (z_st (.iload 3) 1 39 L S M) 138 40 M Q := T_at zk138 rfl
theorem zT138_40 : TT 138 40 L S M Q = TR (z_st (.iconst 5) 1 40 L S M) 138 41 M Q := T_at zk138 rfl
theorem zT138_41 : TT 138 41 L S M Q = TR (z_st (.if_icmp .ne 48) 3 41 L S M) 138 44 M Q := T_at zk138 rfl
theorem zT138_44 : TT 138 44 L S M Q = TR (z_st (.iconst 1) 1 44 L S M) 138 45 M Q := T_at zk138 rfl
theorem zT138_45 : TT 138 45 L S M Q = TR (z_st (.goto 49) 3 45 L S M) 138 48 M Q := T_at zk138 rfl
theorem zT138_48 : TT 138 48 L S M Q = TR (z_st (.iconst 0) 1 48 L S M) 138 49 M Q := T_at zk138 rfl
theorem zT138_49 : TT 138 49 L S M Q = TR (z_st (.bastore) 1 49 L S M) 138 50 M Q := T_at zk138 rfl
theorem zT138_50 : TT 138 50 L S M Q = TR (z_st (.aload 0) 1 50 L S M) 138 51 M Q := T_at zk138 rfl
theorem zT138_51 : TT 138 51 L S M Q = TR (z_st (.fload 18) 3 51 L S M) 138 54 M Q := T_at zk138 rfl
theorem zT138_54 : TT 138 54 L S M Q = TR (z_st (.iload 2) 1 54 L S M) 138 55 M Q := T_at zk138 rfl
theorem zT138_55 : TT 138 55 L S M Q = TR (z_st (.iconst 0) 1 55 L S M) 138 56 M Q := T_at zk138 rfl
theorem zT138_56 : TT 138 56 L S M Q = TR (z_st (.bastore) 1 56 L S M) 138 57 M Q := T_at zk138 rfl
theorem zT138_57 : TT 138 57 L S M Q = TR (z_st (.aload 0) 1 57 L S M) 138 58 M Q := T_at zk138 rfl
theorem zT138_58 : TT 138 58 L S M Q = TR (z_st (.fload 19) 3 58 L S M) 138 61 M Q := T_at zk138 rfl
theorem zT138_61 : TT 138 61 L S M Q = TR (z_st (.iload 2) 1 61 L S M) 138 62 M Q := T_at zk138 rfl
theorem zT138_62 : TT 138 62 L S M Q = TR (z_st (.iconst 0) 1 62 L S M) 138 63 M Q := T_at zk138 rfl
theorem zT138_63 : TT 138 63 L S M Q = TR (z_st (.bastore) 1 63 L S M) 138 64 M Q := T_at zk138 rfl
theorem zT138_64 : TT 138 64 L S M Q = TR (z_st (.iload 3) 1 64 L S M) 138 65 M Q := T_at zk138 rfl
theorem zT138_65 : TT 138 65 L S M Q = TR (z_st (.iload 1) 1 65 L S M) 138 66 M Q := T_at zk138 rfl
theorem zT138_66 : TT 138 66 L S M Q = TR (z_st (.invokestatic 171) 3 66 L S M) 138 69 M Q := T_at zk138 rfl
theorem zT138_69 : TT 138 69 L S M Q = TR (z_st (.ifCond .le 79) 3 69 L S M) 138 72 M Q := T_at zk138 rfl
theorem zT138_72 : TT 138 72 L S M Q = TR (z_st (.aload 0) 1 72 L S M) 138 73 M Q := T_at zk138 rfl
theorem zT138_73 : TT 138 73 L S M Q = TR (z_st (.iload 2) 1 73 L S M) 138 74 M Q := T_at zk138 rfl
theorem zT138_74 : TT 138 74 L S M Q = TR (z_st (.iconst 1) 1 74 L S M) 138 75 M Q := T_at zk138 rfl
theorem zT138_75 : TT 138 75 L S M Q = TR (z_st (.iconst 1) 1 75 L S M) 138 76 M Q := T_at zk138 rfl
theorem zT138_76 : TT 138 76 L S M Q = TR (z_st (.invokevirtual 141) 3 76 L S M) 138 79 M Q := T_at zk138 rfl
theorem zT138_79 : TT 138 79 L S M Q = TR (z_st (.iload 3) 1 79 L S M) 138 80 M Q := T_at zk138 rfl
theorem zT138_80 : TT 138 80 L S M Q = TR (z_st (.iload 1) 1 80 L S M) 138 81 M Q := T_at zk138 rfl
theorem zT138_81 : TT 138 81 L S M Q = TR (z_st (.invokestatic 172) 3 81 L S M) 138 84 M Q := T_at zk138 rfl
theorem zT138_84 : TT 138 84 L S M Q = TR (z_st (.ifCond .le 103) 3 84 L S M) 138 87 M Q := T_at zk138 rfl
theorem zT138_87 : TT 138 87 L S M Q = TR (z_st (.aload 0) 1 87 L S M) 138 88 M Q := T_at zk138 rfl
theorem zT138_88 : TT 138 88 L S M Q = TR (z_st (.fload 19) 3 88 L S M) 138 91 M Q := T_at zk138 rfl
theorem zT138_91 : TT 138 91 L S M Q = TR (z_st (.iload 2) 1 91 L S M) 138 92 M Q := T_at zk138 rfl
theorem zT138_92 : TT 138 92 L S M Q = TR (z_st (.baload) 1 92 L S M) 138 93 M Q := T_at zk138 rfl
theorem zT138_93 : TT 138 93 L S M Q = TR (z_st (.ifCond .ne 103) 3 93 L S M) 138 96 M Q := T_at zk138 rfl
theorem zT138_96 : TT 138 96 L S M Q = TR (z_st (.aload 0) 1 96 L S M) 138 97 M Q := T_at zk138 rfl
theorem zT138_97 : TT 138 97 L S M Q = TR (z_st (.iload 2) 1 97 L S M) 138 98 M Q := T_at zk138 rfl
theorem zT138_98 : TT 138 98 L S M Q = TR (z_st (.iconst 0) 1 98 L S M) 138 99 M Q := T_at zk138 rfl
theorem zT138_99 : TT 138 99 L S M Q = TR (z_st (.iconst 1) 1 99 L S M) 138 100 M Q := T_at zk138 rfl
theorem zT138_100 : TT 138 100 L S M Q = TR (z_st (.invokevirtual 141) 3 100 L S M) 138 103 M Q := T_at zk138 rfl
theorem zT138_103 : TT 138 103 L S M Q = TR (z_st (.iinc 2 1) 3 103 L S M) 138 106 M Q := T_at zk138 rfl
theorem zT138_106 : TT 138 106 L S M Q = TR (z_st (.goto 9) 3 106 L S M) 138 109 M Q := T_at zk138 rfl
theorem zT138_109 : TT 138 109 L S M Q = TR (z_st (.return_) 1 109 L S M) 138 110 M Q := T_at zk138 rfl
set_option maxRecDepth 100000 in
theorem zk139 : z_coL.getD 139 [] = zc139 := rfl
theorem zT139_0 : TT 139 0 L S M Q = TR (z_st (.aload 0) 1 0 L S M) 139 1 M Q := T_at zk139 rfl
theorem zT139_1 : TT 139 1 L S M Q = TR (z_st (.fload 22) 3 1 L S M) 139 4 M Q := T_at zk139 rfl
theorem zT139_4 : TT 139 4 L S M Q = TR (z_st (.iload 1) 1 4 L S M) 139 5 M Q := T_at zk139 rfl
theorem zT139_5 : TT 139 5 L S M Q = TR (z_st (.iconst 0) 1 5 L S M) 139 6 M Q := T_at zk139 rfl
theorem zT139_6 : TT 139 6 L S M Q = TR (z_st (.iconst 1) 1 6 L S M) 139 7 M Q := T_at zk139 rfl
theorem zT139_7 : TT 139 7 L S M Q = TR (z_st (.invokevirtual 167) 3 7 L S M) 139 10 M Q := T_at zk139 rfl
theorem zT139_10 : TT 139 10 L S M Q = TR (z_st (.return_) 1 10 L S M) 139 11 M Q := T_at zk139 rfl
set_option maxRecDepth 100000 in
theorem zk140 : z_coL.getD 140 [] = zc140 := rfl
theorem zT140_0 : TT 140 0 L S M Q = TR (z_st (.iload 1) 1 0 L S M) 140 1 M Q := T_at zk140 rfl
theorem zT140_1 : TT 140 1 L S M Q = TR (z_st (.ifCond .lt 10) 3 1 L S M) 140 4 M Q := T_at zk140 rfl
theorem zT140_4 : TT 140 4 L S M Q = TR (z_st (.iload 1) 1 4 L S M) 140 5 M Q := T_at zk140 rfl
theorem zT140_5 : TT 140 5 L S M Q = TR (z_st (.iconst 6) 2 5 L S M) 140 7 M Q := T_at zk140 rfl
theorem zT140_7 : TT 140 7 L S M Q = TR (z_st (.if_icmp .lt 11) 3 7 L S M) 140 10 M Q := T_at zk140 rfl
theorem zT140_10 : TT 140 10 L S M Q = TR (z_st (.return_) 1 10 L S M) 140 11 M Q := T_at zk140 rfl
theorem zT140_11 : TT 140 11 L S M Q = TR (z_st (.aload 0) 1 11 L S M) 140 12 M Q := T_at zk140 rfl
theorem zT140_12 : TT 140 12 L S M Q = TR (z_st (.fload 18) 3 12 L S M) 140 15 M Q := T_at zk140 rfl
theorem zT140_15 : TT 140 15 L S M Q = TR (z_st (.iload 1) 1 15 L S M) 140 16 M Q := T_at zk140 rfl
theorem zT140_16 : TT 140 16 L S M Q = TR (z_st (.baload) 1 16 L S M) 140 17 M Q := T_at zk140 rfl
theorem zT140_17 : TT 140 17 L S M Q = TR (z_st (.ifCond .eq 27) 3 17 L S M) 140 20 M Q := T_at zk140 rfl
theorem zT140_20 : TT 140 20 L S M Q = TR (z_st (.aload 0) 1 20 L S M) 140 21 M Q := T_at zk140 rfl
theorem zT140_21 : TT 140 21 L S M Q = TR (z_st (.iload 1) 1 21 L S M) 140 22 M Q := T_at zk140 rfl
theorem zT140_22 : TT 140 22 L S M Q = TR (z_st (.iconst 1) 1 22 L S M) 140 23 M Q := T_at zk140 rfl
theorem zT140_23 : TT 140 23 L S M Q = TR (z_st (.iconst 0) 1 23 L S M) 140 24 M Q := T_at zk140 rfl
theorem zT140_24 : TT 140 24 L S M Q = TR (z_st (.invokevirtual 141) 3 24 L S M) 140 27 M Q := T_at zk140 rfl
theorem zT140_27 : TT 140 27 L S M Q = TR (z_st (.aload 0) 1 27 L S M) 140 28 M Q := T_at zk140 rfl
theorem zT140_28 : TT 140 28 L S M Q = TR (z_st (.fload 19) 3 28 L S M) 140 31 M Q := T_at zk140 rfl
theorem zT140_31 : TT 140 31 L S M Q = TR (z_st (.iload 1) 1 31 L S M) 140 32 M Q := T_at zk140 rfl
theorem zT140_32 : TT 140 32 L S M Q = TR (z_st (.baload) 1 32 L S M) 140 33 M Q := T_at zk140 rfl
theorem zT140_33 : TT 140 33 L S M Q = TR (z_st (.ifCond .eq 43) 3 33 L S M) 140 36 M Q := T_at zk140 rfl
theorem zT140_36 : TT 140 36 L S M Q = TR (z_st (.aload 0) 1 36 L S M) 140 37 M Q := T_at zk140 rfl
theorem zT140_37 : TT 140 37 L S M Q = TR (z_st (.iload 1) 1 37 L S M) 140 38 M Q := T_at zk140 rfl
theorem zT140_38 : TT 140 38 L S M Q = TR (z_st (.iconst 0) 1 38 L S M) 140 39 M Q := T_at zk140 rfl
theorem zT140_39 : TT 140 39 L S M Q = TR (z_st (.iconst 0) 1 39 L S M) 140 40 M Q := T_at zk140 rfl
theorem zT140_40 : TT 140 40 L S M Q = TR (z_st (.invokevirtual 141) 3 40 L S M) 140 43 M Q := T_at zk140 rfl
theorem zT140_43 : TT 140 43 L S M Q = TR (z_st (.return_) 1 43 L S M) 140 44 M Q := T_at zk140 rfl
set_option maxRecDepth 100000 in
theorem zk141 : z_coL.getD 141 [] = zc141 := rfl
theorem zT141_0 : TT 141 0 L S M Q = TR (z_st (.iload 3) 1 0 L S M) 141 1 M Q := T_at zk141 rfl
theorem zT141_1 : TT 141 1 L S M Q = TR (z_st (.ifCond .eq 8) 3 1 L S M) 141 4 M Q := T_at zk141 rfl
theorem zT141_4 : TT 141 4 L S M Q = TR (z_st (.iconst 1) 1 4 L S M) 141 5 M Q := T_at zk141 rfl
theorem zT141_5 : TT 141 5 L S M Q = TR (z_st (.goto 9) 3 5 L S M) 141 8 M Q := T_at zk141 rfl
theorem zT141_8 : TT 141 8 L S M Q = TR (z_st (.iconst (-1)) 1 8 L S M) 141 9 M Q := T_at zk141 rfl
theorem zT141_9 : TT 141 9 L S M Q = TR (z_st (.istore 4) 2 9 L S M) 141 11 M Q := T_at zk141 rfl
theorem zT141_11 : TT 141 11 L S M Q = TR (z_st (.aload 0) 1 11 L S M) 141 12 M Q := T_at zk141 rfl
theorem zT141_12 : TT 141 12 L S M Q = TR (z_st (.fload 21) 3 12 L S M) 141 15 M Q := T_at zk141 rfl
theorem zT141_15 : TT 141 15 L S M Q = TR (z_st (.iload 1) 1 15 L S M) 141 16 M Q := T_at zk141 rfl
theorem zT141_16 : TT 141 16 L S M Q = TR (z_st (.baload) 1 16 L S M) 141 17 M Q := T_at zk141 rfl
theorem zT141_17 : TT 141 17 L S M Q = TR (z_st (.ifCond .eq 37) 3 17 L S M) 141 20 M Q := T_at zk141 rfl
theorem zT141_20 : TT 141 20 L S M Q = TR (z_st (.aload 0) 1 20 L S M) 141 21 M Q := T_at zk141 rfl
theorem zT141_21 : TT 141 21 L S M Q = TR (z_st (.fload 22) 3 21 L S M) 141 24 M Q := T_at zk141 rfl
theorem zT141_24 : TT 141 24 L S M Q = TR (z_st (.dup) 1 24 L S M) 141 25 M Q := T_at zk141 rfl
theorem zT141_25 : TT 141 25 L S M Q = TR (z_st (.getfield 40) 3 25 L S M) 141 28 M Q := T_at zk141 rfl
theorem zT141_28 : TT 141 28 L S M Q = TR (z_st (.iload 4) 2 28 L S M) 141 30 M Q := T_at zk141 rfl
theorem zT141_30 : TT 141 30 L S M Q = TR (z_st (.iadd) 1 30 L S M) 141 31 M Q := T_at zk141 rfl
theorem zT141_31 : TT 141 31 L S M Q = TR (z_st (.putfield 40) 3 31 L S M) 141 34 M Q := T_at zk141 rfl
theorem zT141_34 : TT 141 34 L S M Q = TR (z_st (.goto 53) 3 34 L S M) 141 37 M Q := T_at zk141 rfl
theorem zT141_37 : TT 141 37 L S M Q = TR (z_st (.aload 0) 1 37 L S M) 141 38 M Q := T_at zk141 rfl
theorem zT141_38 : TT 141 38 L S M Q = TR (z_st (.fload 22) 3 38 L S M) 141 41 M Q := T_at zk141 rfl
theorem zT141_41 : TT 141 41 L S M Q = TR (z_st (.iload 2) 1 41 L S M) 141 42 M Q := T_at zk141 rfl
theorem zT141_42 : TT 141 42 L S M Q = TR (z_st (.aload 0) 1 42 L S M) 141 43 M Q := T_at zk141 rfl
theorem zT141_43 : TT 141 43 L S M Q = TR (z_st (.fload 20) 3 43 L S M) 141 46 M Q := T_at zk141 rfl
theorem zT141_46 : TT 141 46 L S M Q = TR (z_st (.iload 1) 1 46 L S M) 141 47 M Q := T_at zk141 rfl
theorem zT141_47 : TT 141 47 L S M Q = TR (z_st (.baload) 1 47 L S M) 141 48 M Q := T_at zk141 rfl
theorem zT141_48 : TT 141 48 L S M Q = TR (z_st (.iload 4) 2 48 L S M) 141 50 M Q := T_at zk141 rfl
theorem zT141_50 : TT 141 50 L S M Q = TR (z_st (.invokevirtual 167) 3 50 L S M) 141 53 M Q := T_at zk141 rfl
theorem zT141_53 : TT 141 53 L S M Q = TR (z_st (.iload 2) 1 53 L S M) 141 54 M Q := T_at zk141 rfl
theorem zT141_54 : TT 141 54 L S M Q = TR (z_st (.ifCond .ne 66) 3 54 L S M) 141 57 M Q := T_at zk141 rfl
theorem zT141_57 : TT 141 57 L S M Q = TR (z_st (.aload 0) 1 57 L S M) 141 58 M Q := T_at zk141 rfl
theorem zT141_58 : TT 141 58 L S M Q = TR (z_st (.fload 21) 3 58 L S M) 141 61 M Q := T_at zk141 rfl
theorem zT141_61 : TT 141 61 L S M Q = TR (z_st (.iload 1) 1 61 L S M) 141 62 M Q := T_at zk141 rfl
theorem zT141_62 : TT 141 62 L S M Q = TR (z_st (.baload) 1 62 L S M) 141 63 M Q := T_at zk141 rfl
theorem zT141_63 : TT 141 63 L S M Q = TR (z_st (.ifCond .eq 73) 3 63 L S M) 141 66 M Q := T_at zk141 rfl
theorem zT141_66 : TT 141 66 L S M Q = TR (z_st (.aload 0) 1 66 L S M) 141 67 M Q := T_at zk141 rfl
theorem zT141_67 : TT 141 67 L S M Q = TR (z_st (.fload 18) 3 67 L S M) 141 70 M Q := T_at zk141 rfl
theorem zT141_70 : TT 141 70 L S M Q = TR (z_st (.iload 1) 1 70 L S M) 141 71 M Q := T_at zk141 rfl
theorem zT141_71 : TT 141 71 L S M Q = TR (z_st (.iload 3) 1 71 L S M) 141 72 M Q := T_at zk141 rfl
theorem zT141_72 : TT 141 72 L S M Q = TR (z_st (.bastore) 1 72 L S M) 141 73 M Q := T_at zk141 rfl
theorem zT141_73 : TT 141 73 L S M Q = TR (z_st (.iload 2) 1 73 L S M) 141 74 M Q := T_at zk141 rfl
theorem zT141_74 : TT 141 74 L S M Q = TR (z_st (.ifCond .eq 86) 3 74 L S M) 141 77 M Q := T_at zk141 rfl
theorem zT141_77 : TT 141 77 L S M Q = TR (z_st (.aload 0) 1 77 L S M) 141 78 M Q := T_at zk141 rfl
theorem zT141_78 : TT 141 78 L S M Q = TR (z_st (.fload 21) 3 78 L S M) 141 81 M Q := T_at zk141 rfl
theorem zT141_81 : TT 141 81 L S M Q = TR (z_st (.iload 1) 1 81 L S M) 141 82 M Q := T_at zk141 rfl
theorem zT141_82 : TT 141 82 L S M Q = TR (z_st (.baload) 1 82 L S M) 141 83 M Q := T_at zk141 rfl
theorem zT141_83 : TT 141 83 L S M Q = TR (z_st (.ifCond .eq 93) 3 83 L S M) 141 86 M Q := T_at zk141 rfl
theorem zT141_86 : TT 141 86 L S M Q = TR (z_st (.aload 0) 1 86 L S M) 141 87 M Q := T_at zk141 rfl
theorem zT141_87 : TT 141 87 L S M Q = TR (z_st (.fload 19) 3 87 L S M) 141 90 M Q := T_at zk141 rfl
theorem zT141_90 : TT 141 90 L S M Q = TR (z_st (.iload 1) 1 90 L S M) 141 91 M Q := T_at zk141 rfl
theorem zT141_91 : TT 141 91 L S M Q = TR (z_st (.iload 3) 1 91 L S M) 141 92 M Q := T_at zk141 rfl
theorem zT141_92 : TT 141 92 L S M Q = TR (z_st (.bastore) 1 92 L S M) 141 93 M Q := T_at zk141 rfl
theorem zT141_93 : TT 141 93 L S M Q = TR (z_st (.return_) 1 93 L S M) 141 94 M Q := T_at zk141 rfl
set_option maxRecDepth 100000 in
theorem zk142 : z_coL.getD 142 [] = zc142 := rfl
theorem zT142_0 : TT 142 0 L S M Q = TR (z_st (.aload 0) 1 0 L S M) 142 1 M Q := T_at zk142 rfl
theorem zT142_1 : TT 142 1 L S M Q = TR (z_st (.iload 1) 1 1 L S M) 142 2 M Q := T_at zk142 rfl
theorem zT142_2 : TT 142 2 L S M Q = TR (z_st (.invokevirtual 143) 3 2 L S M) 142 5 M Q := T_at zk142 rfl
theorem zT142_5 : TT 142 5 L S M Q = TR (z_st (.aload 0) 1 5 L S M) 142 6 M Q := T_at zk142 rfl
theorem zT142_6 : TT 142 6 L S M Q = TR (z_st (.getfield 24) 3 6 L S M) 142 9 M Q := T_at zk142 rfl
theorem zT142_9 : TT 142 9 L S M Q = TR (z_st (.aload 0) 1 9 L S M) 142 10 M Q := T_at zk142 rfl
theorem zT142_10 : TT 142 10 L S M Q = TR (z_st (.fload 17) 3 10 L S M) 142 13 M Q := T_at zk142 rfl
theorem zT142_13 : TT 142 13 L S M Q = TR (z_st (.getfield 46) 3 13 L S M) 142 16 M Q := T_at zk142 rfl
theorem zT142_16 : TT 142 16 L S M Q = TR (z_st (.if_icmp .gt 37) 3 16 L S M) 142 19 M Q := T_at zk142 rfl
theorem zT142_19 : TT 142 19 L S M Q = TR (z_st (.aload 0) 1 19 L S M) 142 20 M Q := T_at zk142 rfl
theorem zT142_20 : TT 142 20 L S M Q = TR (z_st (.fload 22) 3 20 L S M) 142 23 M Q := T_at zk142 rfl
theorem zT142_23 : TT 142 23 L S M Q = TR (z_st (.aload 0) 1 23 L S M) 142 24 M Q := T_at zk142 rfl
theorem zT142_24 : TT 142 24 L S M Q = TR (z_st (.fload 23) 3 24 L S M) 142 27 M Q := T_at zk142 rfl
theorem zT142_27 : TT 142 27 L S M Q = TR (z_st (.invokevirtual 169) 3 27 L S M) 142 30 M Q := T_at zk142 rfl
theorem zT142_30 : TT 142 30 L S M Q = TR (z_st (.ifCond .eq 37) 3 30 L S M) 142 33 M Q := T_at zk142 rfl
theorem zT142_33 : TT 142 33 L S M Q = TR (z_st (.iconst 1) 1 33 L S M) 142 34 M Q := T_at zk142 rfl
theorem zT142_34 : TT 142 34 L S M Q = TR (z_st (.goto 38) 3 34 L S M) 142 37 M Q := T_at zk142 rfl
theorem zT142_37 : TT 142 37 L S M Q = TR (z_st (.iconst 0) 1 37 L S M) 142 38 M Q := T_at zk142 rfl
theorem zT142_38 : TT 142 38 L S M Q = TR (z_st (.ret 1) 1 38 L S M) 142 39 M Q := T_at zk142 rfl
set_option maxRecDepth 100000 in
theorem zk143 : z_coL.getD 143 [] = zc143 := rfl
theorem zT143_0 : TT 143 0 L S M Q = TR (z_st (.aload 0) 1 0 L S M) 143 1 M Q := T_at zk143 rfl
theorem zT143_1 : TT 143 1 L S M Q = TR (z_st (.fload 23) 3 1 L S M) 143 4 M Q := T_at zk143 rfl
theorem zT143_4 : TT 143 4 L S M Q = TR (z_st (.invokevirtual 166) 3 4 L S M) 143 7 M Q := T_at zk143 rfl
theorem zT143_7 : TT 143 7 L S M Q = TR (z_st (.aload 0) 1 7 L S M) 143 8 M Q := T_at zk143 rfl
theorem zT143_8 : TT 143 8 L S M Q = TR (z_st (.iconst 0) 1 8 L S M) 143 9 M Q := T_at zk143 rfl
theorem zT143_9 : TT 143 9 L S M Q = TR (z_st (.putfield 24) 3 9 L S M) 143 12 M Q := T_at zk143 rfl
theorem zT143_12 : TT 143 12 L S M Q = TR (z_st (.iconst 0) 1 12 L S M) 143 13 M Q := T_at zk143 rfl
theorem zT143_13 : TT 143 13 L S M Q = TR (z_st (.istore 2) 1 13 L S M) 143 14 M Q := T_at zk143 rfl
theorem zT143_14 : TT 143 14 L S M Q = TR (z_st (.iload 2) 1 14 L S M) 143 15 M Q := T_at zk143 rfl
theorem zT143_15 : TT 143 15 L S M Q = TR (z_st (.iconst 3) 1 15 L S M) 143 16 M Q := T_at zk143 rfl
theorem zT143_16 : TT 143 16 L S M Q = TR (z_st (.if_icmp .ge 94) 3 16 L S M) 143 19 M Q := T_at zk143 rfl
theorem zT143_19 : TT 143 19 L S M Q = TR (z_st (.aload 0) 1 19 L S M) 143 20 M Q := T_at zk143 rfl
theorem zT143_20 : TT 143 20 L S M Q = TR (z_st (.fload 17) 3 20 L S M) 143 23 M Q := T_at zk143 rfl
theorem zT143_23 : TT 143 23 L S M Q = TR (z_st (.iload 2) 1 23 L S M) 143 24 M Q := T_at zk143 rfl
theorem zT143_24 : TT 143 24 L S M Q = TR (z_st (.invokevirtual 188) 3 24 L S M) 143 27 M Q := T_at zk143 rfl
theorem zT143_27 : TT 143 27 L S M Q = TR (z_st (.astore 3) 1 27 L S M) 143 28 M Q := T_at zk143 rfl
theorem zT143_28 : TT 143 28 L S M Q = TR (z_st (.iload 1) 1 28 L S M) 143 29 M Q := T_at zk143 rfl
theorem zT143_29 : TT 143 29 L S M Q = TR (z_st (.iload 2) 1 29 L S M) 143 30 M Q := T_at zk143 rfl
theorem zT143_30 : TT 143 30 L S M Q = TR (z_st (.invokestatic 121) 3 30 L S M) 143 33 M Q := T_at zk143 rfl
theorem zT143_33 : TT 143 33 L S M Q = TR (z_st (.istore 4) 2 33 L S M) 143 35 M Q := T_at zk143 rfl
theorem zT143_35 : TT 143 35 L S M Q = TR (z_st (.aload 3) 1 35 L S M) 143 36 M Q := T_at zk143 rfl
theorem zT143_36 : TT 143 36 L S M Q = TR (z_st (.iload 4) 2 36 L S M) 143 38 M Q := T_at zk143 rfl
theorem zT143_38 : TT 143 38 L S M Q = TR (z_st (.invokevirtual 153) 3 38 L S M) 143 41 M Q := T_at zk143 rfl
theorem zT143_41 : TT 143 41 L S M Q = TR (z_st (.ifCond .eq 88) 3 41 L S M) 143 44 M Q := T_at zk143 rfl
theorem zT143_44 : TT 143 44 L S M Q = TR (z_st (.aload 0) 1 44 L S M) 143 45 M Q := T_at zk143 rfl
theorem zT143_45 : TT 143 45 L S M Q = TR (z_st (.fload 23) 3 45 L S M) 143 48 M Q := T_at zk143 rfl
theorem zT143_48 : TT 143 48 L S M Q = TR (z_st (.aload 3) 1 48 L S M) 143 49 M Q := T_at zk143 rfl
theorem zT143_49 : TT 143 49 L S M Q = TR (z_st (.fload 28) 3 49 L S M) 143 52 M Q := T_at zk143 rfl
theorem zT143_52 : TT 143 52 L S M Q = TR (z_st (.iload 4) 2 52 L S M) 143 54 M Q := T_at zk143 rfl
theorem zT143_54 : TT 143 54 L S M Q = TR (z_st (.iaload) 1 54 L S M) 143 55 M Q := T_at zk143 rfl
theorem zT143_55 : TT 143 55 L S M Q = TR (z_st (.aload 3) 1 55 L S M) 143 56 M Q := T_at zk143 rfl
theorem zT143_56 : TT 143 56 L S M Q = TR (z_st (.fload 29) 3 56 L S M) 143 59 M Q := T_at zk143 rfl
theorem zT143_59 : TT 143 59 L S M Q = TR (z_st (.iload 4) 2 59 L S M) 143 61 M Q := T_at zk143 rfl
theorem zT143_61 : TT 143 61 L S M Q = TR (z_st (.iaload) 1 61 L S M) 143 62 M Q := T_at zk143 rfl
theorem zT143_62 : TT 143 62 L S M Q = TR (z_st (.aload 3) 1 62 L S M) 143 63 M Q := T_at zk143 rfl
theorem zT143_63 : TT 143 63 L S M Q = TR (z_st (.fload 30) 3 63 L S M) 143 66 M Q := T_at zk143 rfl
theorem zT143_66 : TT 143 66 L S M Q = TR (z_st (.iload 4) 2 66 L S M) 143 68 M Q := T_at zk143 rfl
theorem zT143_68 : TT 143 68 L S M Q = TR (z_st (.iaload) 1 68 L S M) 143 69 M Q := T_at zk143 rfl
theorem zT143_69 : TT 143 69 L S M Q = TR (z_st (.invokevirtual 168) 3 69 L S M) 143 72 M Q := T_at zk143 rfl
theorem zT143_72 : TT 143 72 L S M Q = TR (z_st (.aload 0) 1 72 L S M) 143 73 M Q := T_at zk143 rfl
theorem zT143_73 : TT 143 73 L S M Q = TR (z_st (.dup) 1 73 L S M) 143 74 M Q := T_at zk143 rfl
theorem zT143_74 : TT 143 74 L S M Q = TR (z_st (.getfield 24) 3 74 L S M) 143 77 M Q := T_at zk143 rfl
theorem zT143_77 : TT 143 77 L S M Q = TR (z_st (.aload 3) 1 77 L S M) 143 78 M Q := T_at zk143 rfl
theorem zT143_78 : TT 143 78 L S M Q = TR (z_st (.fload 30) 3 78 L S M) 143 81 M Q := T_at zk143 rfl
theorem zT143_81 : TT 143 81 L S M Q = TR (z_st (.iload 4) 2 81 L S M) 143 83 M Q := T_at zk143 rfl
theorem zT143_83 : TT 143 83 L S M Q = TR (z_st (.iaload) 1 83 L S M) 143 84 M Q := T_at zk143 rfl
theorem zT143_84 : TT 143 84 L S M Q = TR (z_st (.iadd) 1 84 L S M) 143 85 M Q := T_at zk143 rfl
theorem zT143_85 : TT 143 85 L S M Q = TR (z_st (.putfield 24) 3 85 L S M) 143 88 M Q := T_at zk143 rfl
theorem zT143_88 : TT 143 88 L S M Q = TR (z_st (.iinc 2 1) 3 88 L S M) 143 91 M Q := T_at zk143 rfl
theorem zT143_91 : TT 143 91 L S M Q = TR (z_st (.goto 14) 3 91 L S M) 143 94 M Q := T_at zk143 rfl
theorem zT143_94 : TT 143 94 L S M Q = TR (z_st (.return_) 1 94 L S M) 143 95 M Q := T_at zk143 rfl
set_option maxRecDepth 100000 in
theorem zk144 : z_coL.getD 144 [] = zc144 := rfl
theorem zT144_0 : TT 144 0 L S M Q = TR (z_st (.aload 0) 1 0 L S M) 144 1 M Q := T_at zk144 rfl
theorem zT144_1 : TT 144 1 L S M Q = TR (z_st (.iload 1) 1 1 L S M) 144 2 M Q := T_at zk144 rfl
theorem zT144_2 : TT 144 2 L S M Q = TR (z_st (.invokevirtual 143) 3 2 L S M) 144 5 M Q := T_at zk144 rfl
theorem zT144_5 : TT 144 5 L S M Q = TR (z_st (.aload 0) 1 5 L S M) 144 6 M Q := T_at zk144 rfl
theorem zT144_6 : TT 144 6 L S M Q = TR (z_st (.iconst 0) 1 6 L S M) 144 7 M Q := T_at zk144 rfl
theorem zT144_7 : TT 144 7 L S M Q = TR (z_st (.putfield 26) 3 7 L S M) 144 10 M Q := T_at zk144 rfl
theorem zT144_10 : TT 144 10 L S M Q = TR (z_st (.iconst 0) 1 10 L S M) 144 11 M Q := T_at zk144 rfl
theorem zT144_11 : TT 144 11 L S M Q = TR (z_st (.istore 2) 1 11 L S M) 144 12 M Q := T_at zk144 rfl
theorem zT144_12 : TT 144 12 L S M Q = TR (z_st (.iload 2) 1 12 L S M) 144 13 M Q := T_at zk144 rfl
theorem zT144_13 : TT 144 13 L S M Q = TR (z_st (.iconst 3) 1 13 L S M) 144 14 M Q := T_at zk144 rfl
theorem zT144_14 : TT 144 14 L S M Q = TR (z_st (.if_icmp .ge 138) 3 14 L S M) 144 17 M Q := T_at zk144 rfl
theorem zT144_17 : TT 144 17 L S M Q = TR (z_st (.aload 0) 1 17 L S M) 144 18 M Q := T_at zk144 rfl
theorem zT144_18 : TT 144 18 L S M Q = TR (z_st (.fload 17) 3 18 L S M) 144 21 M Q := T_at zk144 rfl
theorem zT144_21 : TT 144 21 L S M Q = TR (z_st (.iload 2) 1 21 L S M) 144 22 M Q := T_at zk144 rfl
theorem zT144_22 : TT 144 22 L S M Q = TR (z_st (.invokevirtual 188) 3 22 L S M) 144 25 M Q := T_at zk144 rfl
theorem zT144_25 : TT 144 25 L S M Q = TR (z_st (.astore 3) 1 25 L S M) 144 26 M Q := T_at zk144 rfl
theorem zT144_26 : TT 144 26 L S M Q = TR (z_st (.iload 1) 1 26 L S M) 144 27 M Q := T_at zk144 rfl
theorem zT144_27 : TT 144 27 L S M Q = TR (z_st (.iload 2) 1 27 L S M) 144 28 M Q := T_at zk144 rfl
theorem zT144_28 : TT 144 28 L S M Q = TR (z_st (.invokestatic 121) 3 28 L S M) 144 31 M Q := T_at zk144 rfl
theorem zT144_31 : TT 144 31 L S M Q = TR (z_st (.istore 4) 2 31 L S M) 144 33 M Q := T_at zk144 rfl
theorem zT144_33 : TT 144 33 L S M Q = TR (z_st (.aload 0) 1 33 L S M) 144 34 M Q := T_at zk144 rfl
theorem zT144_34 : TT 144 34 L S M Q = TR (z_st (.fload 27) 3 34 L S M) 144 37 M Q := T_at zk144 rfl
theorem zT144_37 : TT 144 37 L S M Q = TR (z_st (.iload 2) 1 37 L S M) 144 38 M Q := T_at zk144 rfl
theorem zT144_38 : TT 144 38 L S M Q = TR (z_st (.iconst 0) 1 38 L S M) 144 39 M Q := T_at zk144 rfl
theorem zT144_39 : TT 144 39 L S M Q = TR (z_st (.iastore) 1 39 L S M) 144 40 M Q := T_at zk144 rfl
theorem zT144_40 : TT 144 40 L S M Q = TR (z_st (.iconst 0) 1 40 L S M) 144 41 M Q := T_at zk144 rfl
theorem zT144_41 : TT 144 41 L S M Q = TR (z_st (.istore 5) 2 41 L S M) 144 43 M Q := T_at zk144 rfl
theorem zT144_43 : TT 144 43 L S M Q = TR (z_st (.iload 5) 2 43 L S M) 144 45 M Q := T_at zk144 rfl
theorem zT144_45 : TT 144 45 L S M Q = TR (z_st (.aload 3) 1 45 L S M) 144 46 M Q := T_at zk144 rfl
theorem zT144_46 : TT 144 46 L S M Q = TR (z_st (.iload 4) 2 46 L S M) 144 48 M Q := T_at zk144 rfl
theorem zT144_48 : TT 144 48 L S M Q = TR (z_st (.invokevirtual 154) 3 48 L S M) 144 51 M Q := T_at zk144 rfl
theorem zT144_51 : TT 144 51 L S M Q = TR (z_st (.if_icmp .ge 132) 3 51 L S M) 144 54 M Q := T_at zk144 rfl
theorem zT144_54 : TT 144 54 L S M Q = TR (z_st (.aload 0) 1 54 L S M) 144 55 M Q := T_at zk144 rfl
theorem zT144_55 : TT 144 55 L S M Q = TR (z_st (.aload 3) 1 55 L S M) 144 56 M Q := T_at zk144 rfl
theorem zT144_56 : TT 144 56 L S M Q = TR (z_st (.iload 4) 2 56 L S M) 144 58 M Q := T_at zk144 rfl
theorem zT144_58 : TT 144 58 L S M Q = TR (z_st (.iload 5) 2 58 L S M) 144 60 M Q := T_at zk144 rfl
theorem zT144_60 : TT 144 60 L S M Q = TR (z_st (.invokevirtual 155) 3 60 L S M) 144 63 M Q := T_at zk144 rfl
theorem zT144_63 : TT 144 63 L S M Q = TR (z_st (.aload 3) 1 63 L S M) 144 64 M Q := T_at zk144 rfl
theorem zT144_64 : TT 144 64 L S M Q = TR (z_st (.iload 4) 2 64 L S M) 144 66 M Q := T_at zk144 rfl
theorem zT144_66 : TT 144 66 L S M Q = TR (z_st (.iload 5) 2 66 L S M) 144 68 M Q := T_at zk144 rfl
theorem zT144_68 : TT 144 68 L S M Q = TR (z_st (.invokevirtual 156) 3 68 L S M) 144 71 M Q := T_at zk144 rfl
theorem zT144_71 : TT 144 71 L S M Q = TR (z_st (.invokevirtual 145) 3 71 L S M) 144 74 M Q := T_at zk144 rfl
theorem zT144_74 : TT 144 74 L S M Q = TR (z_st (.istore 6) 2 74 L S M) 144 76 M Q := T_at zk144 rfl
theorem zT144_76 : TT 144 76 L S M Q = TR (z_st (.iload 6) 2 76 L S M) 144 78 M Q := T_at zk144 rfl
theorem zT144_78 : TT 144 78 L S M Q = TR (z_st (.iconst (-1)) 1 78 L S M) 144 79 M Q := T_at zk144 rfl
theorem zT144_79 : TT 144 79 L S M Q = TR (z_st (.if_icmp .eq 91) 3 79 L S M) 144 82 M Q := T_at zk144 rfl
theorem zT144_82 : TT 144 82 L S M Q = TR (z_st (.aload 0) 1 82 L S M) 144 83 M Q := T_at zk144 rfl
theorem zT144_83 : TT 144 83 L S M Q = TR (z_st (.getfield 26) 3 83 L S M) 144 86 M Q := T_at zk144 rfl
theorem zT144_86 : TT 144 86 L S M Q = TR (z_st (.iconst 18) 2 86 L S M) 144 88 M Q := T_at zk144 rfl
theorem zT144_88 : TT 144 88 L S M Q = TR (z_st (.if_icmp .lt 92) 3 88 L S M) 144 91 M Q := T_at zk144 rfl
theorem zT144_91 : TT 144 91 L S M Q = TR (z_st (.return_) 1 91 L S M) 144 92 M Q := T_at zk144 rfl
theorem zT144_92 : TT 144 92 L S M Q = TR (z_st (.aload 0) 1 92 L S M) 144 93 M Q := T_at zk144 rfl
theorem zT144_93 : TT 144 93 L S M Q = TR (z_st (.fload 25) 3 93 L S M) 144 96 M Q := T_at zk144 rfl
theorem zT144_96 : TT 144 96 L S M Q = TR (z_st (.aload 0) 1 96 L S M) 144 97 M Q := T_at zk144 rfl
theorem zT144_97 : TT 144 97 L S M Q = TR (z_st (.getfield 26) 3 97 L S M) 144 100 M Q := T_at zk144 rfl
theorem zT144_100 : TT 144 100 L S M Q = TR (z_st (.iload 6) 2 100 L S M) 144 102 M Q := T_at zk144 rfl
theorem zT144_102 : TT 144 102 L S M Q = TR (z_st (.iastore) 1 102 L S M) 144 103 M Q := T_at zk144 rfl
theorem zT144_103 : TT 144 103 L S M Q = TR (z_st (.aload 0) 1 103 L S M) 144 104 M Q := T_at zk144 rfl
theorem zT144_104 : TT 144 104 L S M Q = TR (z_st (.dup) 1 104 L S M) 144 105 M Q := T_at zk144 rfl
theorem zT144_105 : TT 144 105 L S M Q = TR (z_st (.getfield 26) 3 105 L S M) 144 108 M Q := T_at zk144 rfl
theorem zT144_108 : TT 144 108 L S M Q = TR (z_st (.iconst 1) 1 108 L S M) 144 109 M Q := T_at zk144 rfl
theorem zT144_109 : TT 144 109 L S M Q = TR (z_st (.iadd) 1 109 L S M) 144 110 M Q := T_at zk144 rfl
theorem zT144_110 : TT 144 110 L S M Q = TR (z_st (.putfield 26) 3 110 L S M) 144 113 M Q := T_at zk144 rfl
theorem zT144_113 : TT 144 113 L S M Q = TR (z_st (.aload 0) 1 113 L S M) 144 114 M Q := T_at zk144 rfl
theorem zT144_114 : TT 144 114 L S M Q = TR (z_st (.fload 27) 3 114 L S M) 144 117 M Q := T_at zk144 rfl
theorem zT144_117 : TT 144 117 L S M Q = TR (z_st (.iload 2) 1 117 L S M) 144 118 M Q := T_at zk144 rfl
theorem zT144_118 : TT 144 118 L S M Q = TR (z_st (.dup2) 1 118 L S M) 144 119 M Q := T_at zk144 rfl
theorem zT144_119 : TT 144 119 L S M Q = TR (z_st (.iaload) 1 119 L S M) 144 120 M Q := T_at zk144 rfl
theorem zT144_120 : TT 144 120 L S M Q = TR (z_st (.iconst 1) 1 120 L S M) 144 121 M Q := T_at zk144 rfl
theorem zT144_121 : TT 144 121 L S M Q = TR (z_st (.iload 6) 2 121 L S M) 144 123 M Q := T_at zk144 rfl
theorem zT144_123 : TT 144 123 L S M Q = TR (z_st (.ishl) 1 123 L S M) 144 124 M Q := T_at zk144 rfl
theorem zT144_124 : TT 144 124 L S M Q = TR (z_st (.ior) 1 124 L S M) 144 125 M Q := T_at zk144 rfl
theorem zT144_125 : TT 144 125 L S M Q = TR (z_st (.iastore) 1 125 L S M) 144 126 M Q := T_at zk144 rfl
theorem zT144_126 : TT 144 126 L S M Q = TR (z_st (.iinc 5 1) 3 126 L S M) 144 129 M Q := T_at zk144 rfl
theorem zT144_129 : TT 144 129 L S M Q = TR (z_st (.goto 43) 3 129 L S M) 144 132 M Q := T_at zk144 rfl
theorem zT144_132 : TT 144 132 L S M Q = TR (z_st (.iinc 2 1) 3 132 L S M) 144 135 M Q := T_at zk144 rfl
theorem zT144_135 : TT 144 135 L S M Q = TR (z_st (.goto 12) 3 135 L S M) 144 138 M Q := T_at zk144 rfl
theorem zT144_138 : TT 144 138 L S M Q = TR (z_st (.return_) 1 138 L S M) 144 139 M Q := T_at zk144 rfl
set_option maxRecDepth 100000 in
theorem zk145 : z_coL.getD 145 [] = zc145 := rfl
theorem zT145_0 : TT 145 0 L S M Q = TR (z_st (.aload 0) 1 0 L S M) 145 1 M Q := T_at zk145 rfl
theorem zT145_1 : TT 145 1 L S M Q = TR (z_st (.fload 23) 3 1 L S M) 145 4 M Q := T_at zk145 rfl
theorem zT145_4 : TT 145 4 L S M Q = TR (z_st (.iload 1) 1 4 L S M) 145 5 M Q := T_at zk145 rfl
theorem zT145_5 : TT 145 5 L S M Q = TR (z_st (.iload 2) 1 5 L S M) 145 6 M Q := T_at zk145 rfl
theorem zT145_6 : TT 145 6 L S M Q = TR (z_st (.iconst (-1)) 1 6 L S M) 145 7 M Q := T_at zk145 rfl
theorem zT145_7 : TT 145 7 L S M Q = TR (z_st (.invokevirtual 167) 3 7 L S M) 145 10 M Q := T_at zk145 rfl
theorem zT145_10 : TT 145 10 L S M Q = TR (z_st (.iconst 0) 1 10 L S M) 145 11 M Q := T_at zk145 rfl
theorem zT145_11 : TT 145 11 L S M Q = TR (z_st (.istore 3) 1 11 L S M) 145 12 M Q := T_at zk145 rfl
theorem zT145_12 : TT 145 12 L S M Q = TR (z_st (.iload 3) 1 12 L S M) 145 13 M Q := T_at zk145 rfl
theorem zT145_13 : TT 145 13 L S M Q = TR (z_st (.iconst 6) 2 13 L S M) 145 15 M Q := T_at zk145 rfl
theorem zT145_15 : TT 145 15 L S M Q = TR (z_st (.if_icmp .ge 64) 3 15 L S M) 145 18 M Q := T_at zk145 rfl
theorem zT145_18 : TT 145 18 L S M Q = TR (z_st (.aload 0) 1 18 L S M) 145 19 M Q := T_at zk145 rfl
theorem zT145_19 : TT 145 19 L S M Q = TR (z_st (.iload 3) 1 19 L S M) 145 20 M Q := T_at zk145 rfl
theorem zT145_20 : TT 145 20 L S M Q = TR (z_st (.iload 1) 1 20 L S M) 145 21 M Q := T_at zk145 rfl
theorem zT145_21 : TT 145 21 L S M Q = TR (z_st (.iload 2) 1 21 L S M) 145 22 M Q := T_at zk145 rfl
theorem zT145_22 : TT 145 22 L S M Q = TR (z_st (.invokevirtual 146) 3 22 L S M) 145 25 M Q := T_at zk145 rfl
theorem zT145_25 : TT 145 25 L S M Q = TR (z_st (.ifCond .eq 58) 3 25 L S M) 145 28 M Q := T_at zk145 rfl
theorem zT145_28 : TT 145 28 L S M Q = TR (z_st (.aload 0) 1 28 L S M) 145 29 M Q := T_at zk145 rfl
theorem zT145_29 : TT 145 29 L S M Q = TR (z_st (.iload 3) 1 29 L S M) 145 30 M Q := T_at zk145 rfl
theorem zT145_30 : TT 145 30 L S M Q = TR (z_st (.iload 1) 1 30 L S M) 145 31 M Q := T_at zk145 rfl
theorem zT145_31 : TT 145 31 L S M Q = TR (z_st (.iconst 0) 1 31 L S M) 145 32 M Q := T_at zk145 rfl
theorem zT145_32 : TT 145 32 L S M Q = TR (z_st (.invokevirtual 141) 3 32 L S M) 145 35 M Q := T_at zk145 rfl
theorem zT145_35 : TT 145 35 L S M Q = TR (z_st (.aload 0) 1 35 L S M) 145 36 M Q := T_at zk145 rfl
theorem zT145_36 : TT 145 36 L S M Q = TR (z_st (.fload 22) 3 36 L S M) 145 39 M Q := T_at zk145 rfl
theorem zT145_39 : TT 145 39 L S M Q = TR (z_st (.aload 0) 1 39 L S M) 145 40 M Q := T_at zk145 rfl
theorem zT145_40 : TT 145 40 L S M Q = TR (z_st (.fload 23) 3 40 L S M) 145 43 M Q := T_at zk145 rfl
theorem zT145_43 : TT 145 43 L S M Q = TR (z_st (.invokevirtual 169) 3 43 L S M) 145 46 M Q := T_at zk145 rfl
theorem zT145_46 : TT 145 46 L S M Q = TR (z_st (.ifCond .eq 51) 3 46 L S M) 145 49 M Q := T_at zk145 rfl
theorem zT145_49 : TT 145 49 L S M Q = TR (z_st (.iload 3) 1 49 L S M) 145 50 M Q := T_at zk145 rfl
theorem zT145_50 : TT 145 50 L S M Q = TR (z_st (.ret 0) 1 50 L S M) 145 51 M Q := T_at zk145 rfl
theorem zT145_51 : TT 145 51 L S M Q = TR (z_st (.aload 0) 1 51 L S M) 145 52 M Q := T_at zk145 rfl
theorem zT145_52 : TT 145 52 L S M Q = TR (z_st (.iload 3) 1 52 L S M) 145 53 M Q := T_at zk145 rfl
theorem zT145_53 : TT 145 53 L S M Q = TR (z_st (.iload 1) 1 53 L S M) 145 54 M Q := T_at zk145 rfl
theorem zT145_54 : TT 145 54 L S M Q = TR (z_st (.iconst 1) 1 54 L S M) 145 55 M Q := T_at zk145 rfl
theorem zT145_55 : TT 145 55 L S M Q = TR (z_st (.invokevirtual 141) 3 55 L S M) 145 58 M Q := T_at zk145 rfl
theorem zT145_58 : TT 145 58 L S M Q = TR (z_st (.iinc 3 1) 3 58 L S M) 145 61 M Q := T_at zk145 rfl
theorem zT145_61 : TT 145 61 L S M Q = TR (z_st (.goto 12) 3 61 L S M) 145 64 M Q := T_at zk145 rfl
theorem zT145_64 : TT 145 64 L S M Q = TR (z_st (.iconst (-1)) 1 64 L S M) 145 65 M Q := T_at zk145 rfl
theorem zT145_65 : TT 145 65 L S M Q = TR (z_st (.ret 0) 1 65 L S M) 145 66 M Q := T_at zk145 rfl
set_option maxRecDepth 100000 in
theorem zk146 : z_coL.getD 146 [] = zc146 := rfl
theorem zT146_0 : TT 146 0 L S M Q = TR (z_st (.iload 2) 1 0 L S M) 146 1 M Q := T_at zk146 rfl
theorem zT146_1 : TT 146 1 L S M Q = TR (z_st (.ifCond .eq 13) 3 1 L S M) 146 4 M Q := T_at zk146 rfl
theorem zT146_4 : TT 146 4 L S M Q = TR (z_st (.aload 0) 1 4 L S M) 146 5 M Q := T_at zk146 rfl
theorem zT146_5 : TT 146 5 L S M Q = TR (z_st (.fload 18) 3 5 L S M) 146 8 M Q := T_at zk146 rfl
theorem zT146_8 : TT 146 8 L S M Q = TR (z_st (.iload 1) 1 8 L S M) 146 9 M Q := T_at zk146 rfl
theorem zT146_9 : TT 146 9 L S M Q = TR (z_st (.baload) 1 9 L S M) 146 10 M Q := T_at zk146 rfl
theorem zT146_10 : TT 146 10 L S M Q = TR (z_st (.goto 19) 3 10 L S M) 146 13 M Q := T_at zk146 rfl
theorem zT146_13 : TT 146 13 L S M Q = TR (z_st (.aload 0) 1 13 L S M) 146 14 M Q := T_at zk146 rfl
theorem zT146_14 : TT 146 14 L S M Q = TR (z_st (.fload 19) 3 14 L S M) 146 17 M Q := T_at zk146 rfl
theorem zT146_17 : TT 146 17 L S M Q = TR (z_st (.iload 1) 1 17 L S M) 146 18 M Q := T_at zk146 rfl
theorem zT146_18 : TT 146 18 L S M Q = TR (z_st (.baload) 1 18 L S M) 146 19 M Q := T_at zk146 rfl
theorem zT146_19 : TT 146 19 L S M Q = TR (z_st (.istore 4) 2 19 L S M) 146 21 M Q := T_at zk146 rfl
theorem zT146_21 : TT 146 21 L S M Q = TR (z_st (.iload 4) 2 21 L S M) 146 23 M Q := T_at zk146 rfl
theorem zT146_23 : TT 146 23 L S M Q = TR (z_st (.ifCond .eq 43) 3 23 L S M) 146 26 M Q := T_at zk146 rfl
theorem zT146_26 : TT 146 26 L S M Q = TR (z_st (.iload 3) 1 26 L S M) 146 27 M Q := T_at zk146 rfl
theorem zT146_27 : TT 146 27 L S M Q = TR (z_st (.ifCond .eq 39) 3 27 L S M) 146 30 M Q := T_at zk146 rfl
theorem zT146_30 : TT 146 30 L S M Q = TR (z_st (.aload 0) 1 30 L S M) 146 31 M Q := T_at zk146 rfl
theorem zT146_31 : TT 146 31 L S M Q = TR (z_st (.fload 20) 3 31 L S M) 146 34 M Q := T_at zk146 rfl
theorem zT146_34 : TT 146 34 L S M Q = TR (z_st (.iload 1) 1 34 L S M) 146 35 M Q := T_at zk146 rfl
theorem zT146_35 : TT 146 35 L S M Q = TR (z_st (.baload) 1 35 L S M) 146 36 M Q := T_at zk146 rfl
theorem zT146_36 : TT 146 36 L S M Q = TR (z_st (.ifCond .eq 43) 3 36 L S M) 146 39 M Q := T_at zk146 rfl
theorem zT146_39 : TT 146 39 L S M Q = TR (z_st (.iconst 1) 1 39 L S M) 146 40 M Q := T_at zk146 rfl
theorem zT146_40 : TT 146 40 L S M Q = TR (z_st (.goto 44) 3 40 L S M) 146 43 M Q := T_at zk146 rfl
theorem zT146_43 : TT 146 43 L S M Q = TR (z_st (.iconst 0) 1 43 L S M) 146 44 M Q := T_at zk146 rfl
theorem zT146_44 : TT 146 44 L S M Q = TR (z_st (.ret 1) 1 44 L S M) 146 45 M Q := T_at zk146 rfl
set_option maxRecDepth 100000 in
theorem zk147 : z_coL.getD 147 [] = zc147 := rfl
theorem zT147_0 : TT 147 0 L S M Q = TR (z_st (.iload 1) 1 0 L S M) 147 1 M Q := T_at zk147 rfl
theorem zT147_1 : TT 147 1 L S M Q = TR (z_st (.ifCond .lt 21) 3 1 L S M) 147 4 M Q := T_at zk147 rfl
theorem zT147_4 : TT 147 4 L S M Q = TR (z_st (.iload 1) 1 4 L S M) 147 5 M Q := T_at zk147 rfl
theorem zT147_5 : TT 147 5 L S M Q = TR (z_st (.aload 0) 1 5 L S M) 147 6 M Q := T_at zk147 rfl
theorem zT147_6 : TT 147 6 L S M Q = TR (z_st (.getfield 26) 3 6 L S M) 147 9 M Q := T_at zk147 rfl
theorem zT147_9 : TT 147 9 L S M Q = TR (z_st (.if_icmp .ge 21) 3 9 L S M) 147 12 M Q := T_at zk147 rfl
theorem zT147_12 : TT 147 12 L S M Q = TR (z_st (.aload 0) 1 12 L S M) 147 13 M Q := T_at zk147 rfl
theorem zT147_13 : TT 147 13 L S M Q = TR (z_st (.fload 25) 3 13 L S M) 147 16 M Q := T_at zk147 rfl
theorem zT147_16 : TT 147 16 L S M Q = TR (z_st (.iload 1) 1 16 L S M) 147 17 M Q := T_at zk147 rfl
theorem zT147_17 : TT 147 17 L S M Q = TR (z_st (.iaload) 1 17 L S M) 147 18 M Q := T_at zk147 rfl
theorem zT147_18 : TT 147 18 L S M Q = TR (z_st (.goto 23) 3 18 L S M) 147 21 M Q := T_at zk147 rfl
theorem zT147_21 : TT 147 21 L S M Q = TR (z_st (.iconst (-5)) 2 21 L S M) 147 23 M Q := T_at zk147 rfl
theorem zT147_23 : TT 147 23 L S M Q = TR (z_st (.ret 0) 1 23 L S M) 147 24 M Q := T_at zk147 rfl
set_option maxRecDepth 100000 in
theorem zk148 : z_coL.getD 148 [] = zc148 := rfl
theorem zT148_0 : TT 148 0 L S M Q = TR (z_st (.iload 1) 1 0 L S M) 148 1 M Q := T_at zk148 rfl
theorem zT148_1 : TT 148 1 L S M Q = TR (z_st (.ifCond .lt 18) 3 1 L S M) 148 4 M Q := T_at zk148 rfl
theorem zT148_4 : TT 148 4 L S M Q = TR (z_st (.iload 1) 1 4 L S M) 148 5 M Q := T_at zk148 rfl
theorem zT148_5 : TT 148 5 L S M Q = TR (z_st (.iconst 3) 1 5 L S M) 148 6 M Q := T_at zk148 rfl
theorem zT148_6 : TT 148 6 L S M Q = TR (z_st (.if_icmp .ge 18) 3 6 L S M) 148 9 M Q := T_at zk148 rfl
theorem zT148_9 : TT 148 9 L S M Q = TR (z_st (.aload 0) 1 9 L S M) 148 10 M Q := T_at zk148 rfl
theorem zT148_10 : TT 148 10 L S M Q = TR (z_st (.fload 27) 3 10 L S M) 148 13 M Q := T_at zk148 rfl
theorem zT148_13 : TT 148 13 L S M Q = TR (z_st (.iload 1) 1 13 L S M) 148 14 M Q := T_at zk148 rfl
theorem zT148_14 : TT 148 14 L S M Q = TR (z_st (.iaload) 1 14 L S M) 148 15 M Q := T_at zk148 rfl
theorem zT148_15 : TT 148 15 L S M Q = TR (z_st (.goto 19) 3 15 L S M) 148 18 M Q := T_at zk148 rfl
theorem zT148_18 : TT 148 18 L S M Q = TR (z_st (.iconst 0) 1 18 L S M) 148 19 M Q := T_at zk148 rfl
theorem zT148_19 : TT 148 19 L S M Q = TR (z_st (.ret 0) 1 19 L S M) 148 20 M Q := T_at zk148 rfl
set_option maxRecDepth 100000 in
theorem zk149 : z_coL.getD 149 [] = zc149 := rfl
theorem zT149_0 : TT 149 0 L S M Q = TR (z_st (.aload 0) 1 0 L S M) 149 1 M Q := T_at zk149 rfl
theorem zT149_1 : TT 149 1 L S M Q = TR (z_st (.athrow) 3 1 L S M) 149 4 M Q := T_at zk149 rfl
theorem zT149_4 : TT 149 4 L S M Q = TR (z_st (.aload 0) 1 4 L S M) 149 5 M Q := T_at zk149 rfl
theorem zT149_5 : TT 149 5 L S M Q = TR (z_st (.iconst 3) 1 5 L S M) 149 6 M Q := T_at zk149 rfl
theorem zT149_6 : TT 149 6 L S M Q = TR (z_st (.newarray .int) 2 6 L S M) 149 8 M Q := T_at zk149 rfl
theorem zT149_8 : TT 149 8 L S M Q = TR (z_st (.fstore 28) 3 8 L S M) 149 11 M Q := T_at zk149 rfl
theorem zT149_11 : TT 149 11 L S M Q = TR (z_st (.aload 0) 1 11 L S M) 149 12 M Q := T_at zk149 rfl
theorem zT149_12 : TT 149 12 L S M Q = TR (z_st (.iconst 3) 1 12 L S M) 149 13 M Q := T_at zk149 rfl
theorem zT149_13 : TT 149 13 L S M Q = TR (z_st (.newarray .int) 2 13 L S M) 149 15 M Q := T_at zk149 rfl
theorem zT149_15 : TT 149 15 L S M Q = TR (z_st (.fstore 29) 3 15 L S M) 149 18 M Q := T_at zk149 rfl
theorem zT149_18 : TT 149 18 L S M Q = TR (z_st (.aload 0) 1 18 L S M) 149 19 M Q := T_at zk149 rfl
theorem zT149_19 : TT 149 19 L S M Q = TR (z_st (.iconst 3) 1 19 L S M) 149 20 M Q := T_at zk149 rfl
theorem zT149_20 : TT 149 20 L S M Q = TR (z_st (.newarray .int) 2 20 L S M) 149 22 M Q := T_at zk149 rfl
theorem zT149_22 : TT 149 22 L S M Q = TR (z_st (.fstore 30) 3 22 L S M) 149 25 M Q := T_at zk149 rfl
theorem zT149_25 : TT 149 25 L S M Q = TR (z_st (.aload 0) 1 25 L S M) 149 26 M Q := T_at zk149 rfl
theorem zT149_26 : TT 149 26 L S M Q = TR (z_st (.iconst 3) 1 26 L S M) 149 27 M Q := T_at zk149 rfl
theorem zT149_27 : TT 149 27 L S M Q = TR (z_st (.newarray .int) 2 27 L S M) 149 29 M Q := T_at zk149 rfl
theorem zT149_29 : TT 149 29 L S M Q = TR (z_st (.fstore 31) 3 29 L S M) 149 32 M Q := T_at zk149 rfl
theorem zT149_32 : TT 149 32 L S M Q = TR (z_st (.return_) 1 32 L S M) 149 33 M Q := T_at zk149 rfl
set_option maxRecDepth 100000 in
theorem zk150 : z_coL.getD 150 [] = zc150 := rfl
theorem zT150_0 : TT 150 0 L S M Q = TR (z_st (.aload 0) 1 0 L S M) 150 1 M Q := T_at zk150 rfl
theorem zT150_1 : TT 150 1 L S M Q = TR (z_st (.getfield 32) 3 1 L S M) 150 4 M Q := T_at zk150 rfl
theorem zT150_4 : TT 150 4 L S M Q = TR (z_st (.iconst 3) 1 4 L S M) 150 5 M Q := T_at zk150 rfl
theorem zT150_5 : TT 150 5 L S M Q = TR (z_st (.if_icmp .ge 59) 3 5 L S M) 150 8 M Q := T_at zk150 rfl
theorem zT150_8 : TT 150 8 L S M Q = TR (z_st (.aload 0) 1 8 L S M) 150 9 M Q := T_at zk150 rfl
theorem zT150_9 : TT 150 9 L S M Q = TR (z_st (.fload 28) 3 9 L S M) 150 12 M Q := T_at zk150 rfl
theorem zT150_12 : TT 150 12 L S M Q = TR (z_st (.aload 0) 1 12 L S M) 150 13 M Q := T_at zk150 rfl
theorem zT150_13 : TT 150 13 L S M Q = TR (z_st (.getfield 32) 3 13 L S M) 150 16 M Q := T_at zk150 rfl
theorem zT150_16 : TT 150 16 L S M Q = TR (z_st (.iload 1) 1 16 L S M) 150 17 M Q := T_at zk150 rfl
theorem zT150_17 : TT 150 17 L S M Q = TR (z_st (.iastore) 1 17 L S M) 150 18 M Q := T_at zk150 rfl
theorem zT150_18 : TT 150 18 L S M Q = TR (z_st (.aload 0) 1 18 L S M) 150 19 M Q := T_at zk150 rfl
theorem zT150_19 : TT 150 19 L S M Q = TR (z_st (.fload 29) 3 19 L S M) 150 22 M Q := T_at zk150 rfl
theorem zT150_22 : TT 150 22 L S M Q = TR (z_st (.aload 0) 1 22 L S M) 150 23 M Q := T_at zk150 rfl
theorem zT150_23 : TT 150 23 L S M Q = TR (z_st (.getfield 32) 3 23 L S M) 150 26 M Q := T_at zk150 rfl
theorem zT150_26 : TT 150 26 L S M Q = TR (z_st (.iload 2) 1 26 L S M) 150 27 M Q := T_at zk150 rfl
theorem zT150_27 : TT 150 27 L S M Q = TR (z_st (.iastore) 1 27 L S M) 150 28 M Q := T_at zk150 rfl
theorem zT150_28 : TT 150 28 L S M Q = TR (z_st (.aload 0) 1 28 L S M) 150 29 M Q := T_at zk150 rfl
theorem zT150_29 : TT 150 29 L S M Q = TR (z_st (.fload 30) 3 29 L S M) 150 32 M Q := T_at zk150 rfl
theorem zT150_32 : TT 150 32 L S M Q = TR (z_st (.aload 0) 1 32 L S M) 150 33 M Q := T_at zk150 rfl
theorem zT150_33 : TT 150 33 L S M Q = TR (z_st (.getfield 32) 3 33 L S M) 150 36 M Q := T_at zk150 rfl
theorem zT150_36 : TT 150 36 L S M Q = TR (z_st (.iload 3) 1 36 L S M) 150 37 M Q := T_at zk150 rfl
theorem zT150_37 : TT 150 37 L S M Q = TR (z_st (.iastore) 1 37 L S M) 150 38 M Q := T_at zk150 rfl
theorem zT150_38 : TT 150 38 L S M Q = TR (z_st (.aload 0) 1 38 L S M) 150 39 M Q := T_at zk150 rfl
theorem zT150_39 : TT 150 39 L S M Q = TR (z_st (.fload 31) 3 39 L S M) 150 42 M Q := T_at zk150 rfl
theorem zT150_42 : TT 150 42 L S M Q = TR (z_st (.aload 0) 1 42 L S M) 150 43 M Q := T_at zk150 rfl
theorem zT150_43 : TT 150 43 L S M Q = TR (z_st (.getfield 32) 3 43 L S M) 150 46 M Q := T_at zk150 rfl
theorem zT150_46 : TT 150 46 L S M Q = TR (z_st (.iload 4) 2 46 L S M) 150 48 M Q := T_at zk150 rfl
theorem zT150_48 : TT 150 48 L S M Q = TR (z_st (.iastore) 1 48 L S M) 150 49 M Q := T_at zk150 rfl
theorem zT150_49 : TT 150 49 L S M Q = TR (z_st (.aload 0) 1 49 L S M) 150 50 M Q := T_at zk150 rfl
theorem zT150_50 : TT 150 50 L S M Q = TR (z_st (.dup) 1 50 L S M) 150 51 M Q := T_at zk150 rfl
theorem zT150_51 : TT 150 51 L S M Q = TR (z_st (.getfield 32) 3 51 L S M) 150 54 M Q := T_at zk150 rfl
theorem zT150_54 : TT 150 54 L S M Q = TR (z_st (.iconst 1) 1 54 L S M) 150 55 M Q := T_at zk150 rfl
theorem zT150_55 : TT 150 55 L S M Q = TR (z_st (.iadd) 1 55 L S M) 150 56 M Q := T_at zk150 rfl
theorem zT150_56 : TT 150 56 L S M Q = TR (z_st (.putfield 32) 3 56 L S M) 150 59 M Q := T_at zk150 rfl
theorem zT150_59 : TT 150 59 L S M Q = TR (z_st (.return_) 1 59 L S M) 150 60 M Q := T_at zk150 rfl
set_option maxRecDepth 100000 in
theorem zk151 : z_coL.getD 151 [] = zc151 := rfl
theorem zT151_0 : TT 151 0 L S M Q = TR (z_st (.aload 1) 1 0 L S M) 151 1 M Q := T_at zk151 rfl
theorem zT151_1 : TT 151 1 L S M Q = TR (z_st (.fload 28) 3 1 L S M) 151 4 M Q := T_at zk151 rfl
theorem zT151_4 : TT 151 4 L S M Q = TR (z_st (.iconst 0) 1 4 L S M) 151 5 M Q := T_at zk151 rfl
theorem zT151_5 : TT 151 5 L S M Q = TR (z_st (.aload 0) 1 5 L S M) 151 6 M Q := T_at zk151 rfl
theorem zT151_6 : TT 151 6 L S M Q = TR (z_st (.fload 28) 3 6 L S M) 151 9 M Q := T_at zk151 rfl
theorem zT151_9 : TT 151 9 L S M Q = TR (z_st (.iconst 0) 1 9 L S M) 151 10 M Q := T_at zk151 rfl
theorem zT151_10 : TT 151 10 L S M Q = TR (z_st (.iconst 3) 1 10 L S M) 151 11 M Q := T_at zk151 rfl
theorem zT151_11 : TT 151 11 L S M Q = TR (z_st (.monitorenter) 3 11 L S M) 151 14 M Q := T_at zk151 rfl
theorem zT151_14 : TT 151 14 L S M Q = TR (z_st (.aload 1) 1 14 L S M) 151 15 M Q := T_at zk151 rfl
theorem zT151_15 : TT 151 15 L S M Q = TR (z_st (.fload 29) 3 15 L S M) 151 18 M Q := T_at zk151 rfl
theorem zT151_18 : TT 151 18 L S M Q = TR (z_st (.iconst 0) 1 18 L S M) 151 19 M Q := T_at zk151 rfl
theorem zT151_19 : TT 151 19 L S M Q = TR (z_st (.aload 0) 1 19 L S M) 151 20 M Q := T_at zk151 rfl
theorem zT151_20 : TT 151 20 L S M Q = TR (z_st (.fload 29) 3 20 L S M) 151 23 M Q := T_at zk151 rfl
theorem zT151_23 : TT 151 23 L S M Q = TR (z_st (.iconst 0) 1 23 L S M) 151 24 M Q := T_at zk151 rfl
theorem zT151_24 : TT 151 24 L S M Q = TR (z_st (.iconst 3) 1 24 L S M) 151 25 M Q := T_at zk151 rfl
theorem zT151_25 : TT 151 25 L S M Q = TR (z_st (.monitorenter) 3 25 L S M) 151 28 M Q := T_at zk151 rfl
theorem zT151_28 : TT 151 28 L S M Q = TR (z_st (.aload 1) 1 28 L S M) 151 29 M Q := T_at zk151 rfl
theorem zT151_29 : TT 151 29 L S M Q = TR (z_st (.fload 30) 3 29 L S M) 151 32 M Q := T_at zk151 rfl
theorem zT151_32 : TT 151 32 L S M Q = TR (z_st (.iconst 0) 1 32 L S M) 151 33 M Q := T_at zk151 rfl
theorem zT151_33 : TT 151 33 L S M Q = TR (z_st (.aload 0) 1 33 L S M) 151 34 M Q := T_at zk151 rfl
theorem zT151_34 : TT 151 34 L S M Q = TR (z_st (.fload 30) 3 34 L S M) 151 37 M Q := T_at zk151 rfl
theorem zT151_37 : TT 151 37 L S M Q = TR (z_st (.iconst 0) 1 37 L S M) 151 38 M Q := T_at zk151 rfl
theorem zT151_38 : TT 151 38 L S M Q = TR (z_st (.iconst 3) 1 38 L S M) 151 39 M Q := T_at zk151 rfl
theorem zT151_39 : TT 151 39 L S M Q = TR (z_st (.monitorenter) 3 39 L S M) 151 42 M Q := T_at zk151 rfl
theorem zT151_42 : TT 151 42 L S M Q = TR (z_st (.aload 1) 1 42 L S M) 151 43 M Q := T_at zk151 rfl
theorem zT151_43 : TT 151 43 L S M Q = TR (z_st (.fload 31) 3 43 L S M) 151 46 M Q := T_at zk151 rfl
theorem zT151_46 : TT 151 46 L S M Q = TR (z_st (.iconst 0) 1 46 L S M) 151 47 M Q := T_at zk151 rfl
theorem zT151_47 : TT 151 47 L S M Q = TR (z_st (.aload 0) 1 47 L S M) 151 48 M Q := T_at zk151 rfl
theorem zT151_48 : TT 151 48 L S M Q = TR (z_st (.fload 31) 3 48 L S M) 151 51 M Q := T_at zk151 rfl
theorem zT151_51 : TT 151 51 L S M Q = TR (z_st (.iconst 0) 1 51 L S M) 151 52 M Q := T_at zk151 rfl
theorem zT151_52 : TT 151 52 L S M Q = TR (z_st (.iconst 3) 1 52 L S M) 151 53 M Q := T_at zk151 rfl
theorem zT151_53 : TT 151 53 L S M Q = TR (z_st (.monitorenter) 3 53 L S M) 151 56 M Q := T_at zk151 rfl
theorem zT151_56 : TT 151 56 L S M Q = TR (z_st (.aload 0) 1 56 L S M) 151 57 M Q := T_at zk151 rfl
theorem zT151_57 : TT 151 57 L S M Q = TR (z_st (.aload 1) 1 57 L S M) 151 58 M Q := T_at zk151 rfl
theorem zT151_58 : TT 151 58 L S M Q = TR (z_st (.getfield 32) 3 58 L S M) 151 61 M Q := T_at zk151 rfl
theorem zT151_61 : TT 151 61 L S M Q = TR (z_st (.putfield 32) 3 61 L S M) 151 64 M Q := T_at zk151 rfl
theorem zT151_64 : TT 151 64 L S M Q = TR (z_st (.aload 0) 1 64 L S M) 151 65 M Q := T_at zk151 rfl
theorem zT151_65 : TT 151 65 L S M Q = TR (z_st (.aload 1) 1 65 L S M) 151 66 M Q := T_at zk151 rfl
theorem zT151_66 : TT 151 66 L S M Q = TR (z_st (.getfield 33) 3 66 L S M) 151 69 M Q := T_at zk151 rfl
theorem zT151_69 : TT 151 69 L S M Q = TR (z_st (.putfield 33) 3 69 L S M) 151 72 M Q := T_at zk151 rfl
theorem zT151_72 : TT 151 72 L S M Q = TR (z_st (.return_) 1 72 L S M) 151 73 M Q := T_at zk151 rfl
set_option maxRecDepth 100000 in
theorem zk152 : z_coL.getD 152 [] = zc152 := rfl
theorem zT152_0 : TT 152 0 L S M Q = TR (z_st (.iconst 0) 1 0 L S M) 152 1 M Q := T_at zk152 rfl
theorem zT152_1 : TT 152 1 L S M Q = TR (z_st (.istore 1) 1 1 L S M) 152 2 M Q := T_at zk152 rfl
theorem zT152_2 : TT 152 2 L S M Q = TR (z_st (.iconst 0) 1 2 L S M) 152 3 M Q := T_at zk152 rfl
theorem zT152_3 : TT 152 3 L S M Q = TR (z_st (.istore 2) 1 3 L S M) 152 4 M Q := T_at zk152 rfl
theorem zT152_4 : TT 152 4 L S M Q = TR (z_st (.iload 2) 1 4 L S M) 152 5 M Q := T_at zk152 rfl
theorem zT152_5 : TT 152 5 L S M Q = TR (z_st (.aload 0) 1 5 L S M) 152 6 M Q := T_at zk152 rfl
theorem zT152_6 : TT 152 6 L S M Q = TR (z_st (.getfield 32) 3 6 L S M) 152 9 M Q := T_at zk152 rfl
theorem zT152_9 : TT 152 9 L S M Q = TR (z_st (.if_icmp .ge 27) 3 9 L S M) 152 12 M Q := T_at zk152 rfl
theorem zT152_12 : TT 152 12 L S M Q = TR (z_st (.iload 1) 1 12 L S M) 152 13 M Q := T_at zk152 rfl
theorem zT152_13 : TT 152 13 L S M Q = TR (z_st (.aload 0) 1 13 L S M) 152 14 M Q := T_at zk152 rfl
theorem zT152_14 : TT 152 14 L S M Q = TR (z_st (.fload 31) 3 14 L S M) 152 17 M Q := T_at zk152 rfl
theorem zT152_17 : TT 152 17 L S M Q = TR (z_st (.iload 2) 1 17 L S M) 152 18 M Q := T_at zk152 rfl
theorem zT152_18 : TT 152 18 L S M Q = TR (z_st (.iaload) 1 18 L S M) 152 19 M Q := T_at zk152 rfl
theorem zT152_19 : TT 152 19 L S M Q = TR (z_st (.iadd) 1 19 L S M) 152 20 M Q := T_at zk152 rfl
theorem zT152_20 : TT 152 20 L S M Q = TR (z_st (.istore 1) 1 20 L S M) 152 21 M Q := T_at zk152 rfl
theorem zT152_21 : TT 152 21 L S M Q = TR (z_st (.iinc 2 1) 3 21 L S M) 152 24 M Q := T_at zk152 rfl
theorem zT152_24 : TT 152 24 L S M Q = TR (z_st (.goto 4) 3 24 L S M) 152 27 M Q := T_at zk152 rfl
theorem zT152_27 : TT 152 27 L S M Q = TR (z_st (.iload 1) 1 27 L S M) 152 28 M Q := T_at zk152 rfl
theorem zT152_28 : TT 152 28 L S M Q = TR (z_st (.ret 0) 1 28 L S M) 152 29 M Q := T_at zk152 rfl
set_option maxRecDepth 100000 in
theorem zk153 : z_coL.getD 153 [] = zc153 := rfl
theorem zT153_0 : TT 153 0 L S M Q = TR (z_st (.iload 1) 1 0 L S M) 153 1 M Q := T_at zk153 rfl
theorem zT153_1 : TT 153 1 L S M Q = TR (z_st (.ifCond .lt 21) 3 1 L S M) 153 4 M Q := T_at zk153 rfl
theorem zT153_4 : TT 153 4 L S M Q = TR (z_st (.iload 1) 1 4 L S M) 153 5 M Q := T_at zk153 rfl
theorem zT153_5 : TT 153 5 L S M Q = TR (z_st (.aload 0) 1 5 L S M) 153 6 M Q := T_at zk153 rfl
theorem zT153_6 : TT 153 6 L S M Q = TR (z_st (.getfield 32) 3 6 L S M) 153 9 M Q := T_at zk153 rfl
theorem zT153_9 : TT 153 9 L S M Q = TR (z_st (.if_icmp .ge 21) 3 9 L S M) 153 12 M Q := T_at zk153 rfl
theorem zT153_12 : TT 153 12 L S M Q = TR (z_st (.iload 1) 1 12 L S M) 153 13 M Q := T_at zk153 rfl
theorem zT153_13 : TT 153 13 L S M Q = TR (z_st (.iconst 3) 1 13 L S M) 153 14 M Q := T_at zk153 rfl
theorem zT153_14 : TT 153 14 L S M Q = TR (z_st (.if_icmp .ge 21) 3 14 L S M) 153 17 M Q := T_at zk153 rfl
theorem zT153_17 : TT 153 17 L S M Q = TR (z_st (.iconst 1) 1 17 L S M) 153 18 M Q := T_at zk153 rfl
theorem zT153_18 : TT 153 18 L S M Q = TR (z_st (.goto 22) 3 18 L S M) 153 21 M Q := T_at zk153 rfl
theorem zT153_21 : TT 153 21 L S M Q = TR (z_st (.iconst 0) 1 21 L S M) 153 22 M Q := T_at zk153 rfl
theorem zT153_22 : TT 153 22 L S M Q = TR (z_st (.ret 1) 1 22 L S M) 153 23 M Q := T_at zk153 rfl
set_option maxRecDepth 100000 in
theorem zk154 : z_coL.getD 154 [] = zc154 := rfl
theorem zT154_0 : TT 154 0 L S M Q = TR (z_st (.aload 0) 1 0 L S M) 154 1 M Q := T_at zk154 rfl
theorem zT154_1 : TT 154 1 L S M Q = TR (z_st (.iload 1) 1 1 L S M) 154 2 M Q := T_at zk154 rfl
theorem zT154_2 : TT 154 2 L S M Q = TR (z_st (.invokevirtual 153) 3 2 L S M) 154 5 M Q := T_at zk154 rfl
theorem zT154_5 : TT 154 5 L S M Q = TR (z_st (.ifCond .eq 24) 3 5 L S M) 154 8 M Q := T_at zk154 rfl
theorem zT154_8 : TT 154 8 L S M Q = TR (z_st (.aload 0) 1 8 L S M) 154 9 M Q := T_at zk154 rfl
theorem zT154_9 : TT 154 9 L S M Q = TR (z_st (.fload 28) 3 9 L S M) 154 12 M Q := T_at zk154 rfl
theorem zT154_12 : TT 154 12 L S M Q = TR (z_st (.iload 1) 1 12 L S M) 154 13 M Q := T_at zk154 rfl
theorem zT154_13 : TT 154 13 L S M Q = TR (z_st (.iaload) 1 13 L S M) 154 14 M Q := T_at zk154 rfl
theorem zT154_14 : TT 154 14 L S M Q = TR (z_st (.aload 0) 1 14 L S M) 154 15 M Q := T_at zk154 rfl
theorem zT154_15 : TT 154 15 L S M Q = TR (z_st (.fload 29) 3 15 L S M) 154 18 M Q := T_at zk154 rfl
theorem zT154_18 : TT 154 18 L S M Q = TR (z_st (.iload 1) 1 18 L S M) 154 19 M Q := T_at zk154 rfl
theorem zT154_19 : TT 154 19 L S M Q = TR (z_st (.iaload) 1 19 L S M) 154 20 M Q := T_at zk154 rfl
theorem zT154_20 : TT 154 20 L S M Q = TR (z_st (.iadd) 1 20 L S M) 154 21 M Q := T_at zk154 rfl
theorem zT154_21 : TT 154 21 L S M Q = TR (z_st (.goto 25) 3 21 L S M) 154 24 M Q := T_at zk154 rfl
theorem zT154_24 : TT 154 24 L S M Q = TR (z_st (.iconst 0) 1 24 L S M) 154 25 M Q := T_at zk154 rfl
theorem zT154_25 : TT 154 25 L S M Q = TR (z_st (.ret 0) 1 25 L S M) 154 26 M Q := T_at zk154 rfl
set_option maxRecDepth 100000 in
theorem zk155 : z_coL.getD 155 [] = zc155 := rfl
theorem zT155_0 : TT 155 0 L S M Q = TR (z_st (.aload 0) 1 0 L S M) 155 1 M Q := T_at zk155 rfl
theorem zT155_1 : TT 155 1 L S M Q = TR (z_st (.iload 1) 1 1 L S M) 155 2 M Q := T_at zk155 rfl
theorem zT155_2 : TT 155 2 L S M Q = TR (z_st (.invokevirtual 153) 3 2 L S M) 155 5 M Q := T_at zk155 rfl
theorem zT155_5 : TT 155 5 L S M Q = TR (z_st (.ifCond .eq 22) 3 5 L S M) 155 8 M Q := T_at zk155 rfl
theorem zT155_8 : TT 155 8 L S M Q = TR (z_st (.iload 2) 1 8 L S M) 155 9 M Q := T_at zk155 rfl
theorem zT155_9 : TT 155 9 L S M Q = TR (z_st (.aload 0) 1 9 L S M) 155 10 M Q := T_at zk155 rfl
theorem zT155_10 : TT 155 10 L S M Q = TR (z_st (.fload 28) 3 10 L S M) 155 13 M Q := T_at zk155 rfl
theorem zT155_13 : TT 155 13 L S M Q = TR (z_st (.iload 1) 1 13 L S M) 155 14 M Q := T_at zk155 rfl
theorem zT155_14 : TT 155 14 L S M Q = TR (z_st (.iaload) 1 14 L S M) 155 15 M Q := T_at zk155 rfl
theorem zT155_15 : TT 155 15 L S M Q = TR (z_st (.if_icmp .ge 22) 3 15 L S M) 155 18 M Q := T_at zk155 rfl
theorem zT155_18 : TT 155 18 L S M Q = TR (z_st (.iconst 1) 1 18 L S M) 155 19 M Q := T_at zk155 rfl
theorem zT155_19 : TT 155 19 L S M Q = TR (z_st (.goto 23) 3 19 L S M) 155 22 M Q := T_at zk155 rfl
theorem zT155_22 : TT 155 22 L S M Q = TR (z_st (.iconst 0) 1 22 L S M) 155 23 M Q := T_at zk155 rfl
theorem zT155_23 : TT 155 23 L S M Q = TR (z_st (.ret 1) 1 23 L S M) 155 24 M Q := T_at zk155 rfl
set_option maxRecDepth 100000 in
theorem zk156 : z_coL.getD 156 [] = zc156 := rfl
theorem zT156_0 : TT 156 0 L S M Q = TR (z_st (.aload 0) 1 0 L S M) 156 1 M Q := T_at zk156 rfl
theorem zT156_1 : TT 156 1 L S M Q = TR (z_st (.iload 1) 1 1 L S M) 156 2 M Q := T_at zk156 rfl
theorem zT156_2 : TT 156 2 L S M Q = TR (z_st (.invokevirtual 153) 3 2 L S M) 156 5 M Q := T_at zk156 rfl
theorem zT156_5 : TT 156 5 L S M Q = TR (z_st (.ifCond .eq 22) 3 5 L S M) 156 8 M Q := T_at zk156 rfl
theorem zT156_8 : TT 156 8 L S M Q = TR (z_st (.iload 2) 1 8 L S M) 156 9 M Q := T_at zk156 rfl
theorem zT156_9 : TT 156 9 L S M Q = TR (z_st (.aload 0) 1 9 L S M) 156 10 M Q := T_at zk156 rfl
theorem zT156_10 : TT 156 10 L S M Q = TR (z_st (.fload 30) 3 10 L S M) 156 13 M Q := T_at zk156 rfl
theorem zT156_13 : TT 156 13 L S M Q = TR (z_st (.iload 1) 1 13 L S M) 156 14 M Q := T_at zk156 rfl
theorem zT156_14 : TT 156 14 L S M Q = TR (z_st (.iaload) 1 14 L S M) 156 15 M Q := T_at zk156 rfl
theorem zT156_15 : TT 156 15 L S M Q = TR (z_st (.if_icmp .ge 22) 3 15 L S M) 156 18 M Q := T_at zk156 rfl
theorem zT156_18 : TT 156 18 L S M Q = TR (z_st (.iconst 1) 1 18 L S M) 156 19 M Q := T_at zk156 rfl
theorem zT156_19 : TT 156 19 L S M Q = TR (z_st (.goto 23) 3 19 L S M) 156 22 M Q := T_at zk156 rfl
theorem zT156_22 : TT 156 22 L S M Q = TR (z_st (.iconst 0) 1 22 L S M) 156 23 M Q := T_at zk156 rfl
theorem zT156_23 : TT 156 23 L S M Q = TR (z_st (.ret 1) 1 23 L S M) 156 24 M Q := T_at zk156 rfl
set_option maxRecDepth 100000 in
theorem zk157 : z_coL.getD 157 [] = zc157 := rfl
theorem zT157_0 : TT 157 0 L S M Q = TR (z_st (.aload 0) 1 0 L S M) 157 1 M Q := T_at zk157 rfl
theorem zT157_1 : TT 157 1 L S M Q = TR (z_st (.getfield 33) 3 1 L S M) 157 4 M Q := T_at zk157 rfl
theorem zT157_4 : TT 157 4 L S M Q = TR (z_st (.aload 0) 1 4 L S M) 157 5 M Q := T_at zk157 rfl
theorem zT157_5 : TT 157 5 L S M Q = TR (z_st (.invokevirtual 152) 3 5 L S M) 157 8 M Q := T_at zk157 rfl
theorem zT157_8 : TT 157 8 L S M Q = TR (z_st (.if_icmp .lt 15) 3 8 L S M) 157 11 M Q := T_at zk157 rfl
theorem zT157_11 : TT 157 11 L S M Q = TR (z_st (.iconst 1) 1 11 L S M) 157 12 M Q := T_at zk157 rfl
theorem zT157_12 : TT 157 12 L S M Q = TR (z_st (.goto 16) 3 12 L S M) 157 15 M Q := T_at zk157 rfl
theorem zT157_15 : TT 157 15 L S M Q = TR (z_st (.iconst 0) 1 15 L S M) 157 16 M Q := T_at zk157 rfl
theorem zT157_16 : TT 157 16 L S M Q = TR (z_st (.ret 1) 1 16 L S M) 157 17 M Q := T_at zk157 rfl
set_option maxRecDepth 100000 in
theorem zk158 : z_coL.getD 158 [] = zc158 := rfl
theorem zT158_0 : TT 158 0 L S M Q = TR (z_st (.iconst 0) 1 0 L S M) 158 1 M Q := T_at zk158 rfl
theorem zT158_1 : TT 158 1 L S M Q = TR (z_st (.istore 2) 1 1 L S M) 158 2 M Q := T_at zk158 rfl
theorem zT158_2 : TT 158 2 L S M Q = TR (z_st (.iconst 0) 1 2 L S M) 158 3 M Q := T_at zk158 rfl
theorem zT158_3 : TT 158 3 L S M Q = TR (z_st (.istore 3) 1 3 L S M) 158 4 M Q := T_at zk158 rfl
theorem zT158_4 : TT 158 4 L S M Q = TR (z_st (.iload 3) 1 4 L S M) 158 5 M Q := T_at zk158 rfl
theorem zT158_5 : TT 158 5 L S M Q = TR (z_st (.aload 0) 1 5 L S M) 158 6 M Q := T_at zk158 rfl
theorem zT158_6 : TT 158 6 L S M Q = TR (z_st (.getfield 32) 3 6 L S M) 158 9 M Q := T_at zk158 rfl
theorem zT158_9 : TT 158 9 L S M Q = TR (z_st (.if_icmp .ge 34) 3 9 L S M) 158 12 M Q := T_at zk158 rfl
theorem zT158_12 : TT 158 12 L S M Q = TR (z_st (.iload 2) 1 12 L S M) 158 13 M Q := T_at zk158 rfl
theorem zT158_13 : TT 158 13 L S M Q = TR (z_st (.aload 0) 1 13 L S M) 158 14 M Q := T_at zk158 rfl
theorem zT158_14 : TT 158 14 L S M Q = TR (z_st (.fload 31) 3 14 L S M) 158 17 M Q := T_at zk158 rfl
theorem zT158_17 : TT 158 17 L S M Q = TR (z_st (.iload 3) 1 17 L S M) 158 18 M Q := T_at zk158 rfl
theorem zT158_18 : TT 158 18 L S M Q = TR (z_st (.iaload) 1 18 L S M) 158 19 M Q := T_at zk158 rfl
theorem zT158_19 : TT 158 19 L S M Q = TR (z_st (.iadd) 1 19 L S M) 158 20 M Q := T_at zk158 rfl
theorem zT158_20 : TT 158 20 L S M Q = TR (z_st (.istore 2) 1 20 L S M) 158 21 M Q := T_at zk158 rfl
theorem zT158_21 : TT 158 21 L S M Q = TR (z_st (.iload 1) 1 21 L S M) 158 22 M Q := T_at zk158 rfl
theorem zT158_22 : TT 158 22 L S M Q = TR (z_st (.iload 2) 1 22 L S M) 158 23 M Q := T_at zk158 rfl
theorem zT158_23 : TT 158 23 L S M Q = TR (z_st (.if_icmp .ge 28) 3 23 L S M) 158 26 M Q := T_at zk158 rfl
theorem zT158_26 : TT 158 26 L S M Q = TR (z_st (.iload 3) 1 26 L S M) 158 27 M Q := T_at zk158 rfl
theorem zT158_27 : TT 158 27 L S M Q = TR (z_st (.ret 0) 1 27 L S M) 158 28 M Q := T_at zk158 rfl
theorem zT158_28 : TT 158 28 L S M Q = TR (z_st (.iinc 3 1) 3 28 L S M) 158 31 M Q := T_at zk158 rfl
theorem zT158_31 : TT 158 31 L S M Q = TR (z_st (.goto 4) 3 31 L S M) 158 34 M Q := T_at zk158 rfl
theorem zT158_34 : TT 158 34 L S M Q = TR (z_st (.aload 0) 1 34 L S M) 158 35 M Q := T_at zk158 rfl
theorem zT158_35 : TT 158 35 L S M Q = TR (z_st (.getfield 32) 3 35 L S M) 158 38 M Q := T_at zk158 rfl
theorem zT158_38 : TT 158 38 L S M Q = TR (z_st (.ret 0) 1 38 L S M) 158 39 M Q := T_at zk158 rfl
set_option maxRecDepth 100000 in
theorem zk159 : z_coL.getD 159 [] = zc159 := rfl
theorem zT159_0 : TT 159 0 L S M Q = TR (z_st (.iload 1) 1 0 L S M) 159 1 M Q := T_at zk159 rfl
theorem zT159_1 : TT 159 1 L S M Q = TR (z_st (.istore 2) 1 1 L S M) 159 2 M Q := T_at zk159 rfl
theorem zT159_2 : TT 159 2 L S M Q = TR (z_st (.aload 0) 1 2 L S M) 159 3 M Q := T_at zk159 rfl
theorem zT159_3 : TT 159 3 L S M Q = TR (z_st (.iload 1) 1 3 L S M) 159 4 M Q := T_at zk159 rfl
theorem zT159_4 : TT 159 4 L S M Q = TR (z_st (.invokevirtual 158) 3 4 L S M) 159 7 M Q := T_at zk159 rfl
theorem zT159_7 : TT 159 7 L S M Q = TR (z_st (.istore 3) 1 7 L S M) 159 8 M Q := T_at zk159 rfl
theorem zT159_8 : TT 159 8 L S M Q = TR (z_st (.iconst 0) 1 8 L S M) 159 9 M Q := T_at zk159 rfl
theorem zT159_9 : TT 159 9 L S M Q = TR (z_st (.istore 4) 2 9 L S M) 159 11 M Q := T_at zk159 rfl
theorem zT159_11 : TT 159 11 L S M Q = TR (z_st (.iload 4) 2 11 L S M) 159 13 M Q := T_at zk159 rfl
theorem zT159_13 : TT 159 13 L S M Q = TR (z_st (.iload 3) 1 13 L S M) 159 14 M Q := T_at zk159 rfl
theorem zT159_14 : TT 159 14 L S M Q = TR (z_st (.if_icmp .ge 33) 3 14 L S M) 159 17 M Q := T_at zk159 rfl
theorem zT159_17 : TT 159 17 L S M Q = TR (z_st (.iload 2) 1 17 L S M) 159 18 M Q := T_at zk159 rfl
theorem zT159_18 : TT 159 18 L S M Q = TR (z_st (.aload 0) 1 18 L S M) 159 19 M Q := T_at zk159 rfl
theorem zT159_19 : TT 159 19 L S M Q = TR (z_st (.fload 31) 3 19 L S M) 159 22 M Q := T_at zk159 rfl
theorem zT159_22 : TT 159 22 L S M Q = TR (z_st (.iload 4) 2 22 L S M) 159 24 M Q := T_at zk159 rfl
theorem zT159_24 : TT 159 24 L S M Q = TR (z_st (.iaload) 1 24 L S M) 159 25 M Q := T_at zk159 rfl
theorem zT159_25 : TT 159 25 L S M Q = TR (z_st (.isub) 1 25 L S M) 159 26 M Q := T_at zk159 rfl
theorem zT159_26 : TT 159 26 L S M Q = TR (z_st (.istore 2) 1 26 L S M) 159 27 M Q := T_at zk159 rfl
theorem zT159_27 : TT 159 27 L S M Q = TR (z_st (.iinc 4 1) 3 27 L S M) 159 30 M Q := T_at zk159 rfl
theorem zT159_30 : TT 159 30 L S M Q = TR (z_st (.goto 11) 3 30 L S M) 159 33 M Q := T_at zk159 rfl
theorem zT159_33 : TT 159 33 L S M Q = TR (z_st (.iload 2) 1 33 L S M) 159 34 M Q := T_at zk159 rfl
theorem zT159_34 : TT 159 34 L S M Q = TR (z_st (.ret 0) 1 34 L S M) 159 35 M Q := T_at zk159 rfl
set_option maxRecDepth 100000 in
theorem zk160 : z_coL.getD 160 [] = zc160 := rfl
theorem zT160_0 : TT 160 0 L S M Q = TR (z_st (.ldc2_w 31) 3 0 L S M) 160 3 M Q := T_at zk160 rfl
theorem zT160_3 : TT 160 3 L S M Q = TR (z_st (.lload 1) 1 3 L S M) 160 4 M Q := T_at zk160 rfl
theorem zT160_4 : TT 160 4 L S M Q = TR (z_st (.lmul) 1 4 L S M) 160 5 M Q := T_at zk160 rfl
theorem zT160_5 : TT 160 5 L S M Q = TR (z_st (.aload 0) 1 5 L S M) 160 6 M Q := T_at zk160 rfl
theorem zT160_6 : TT 160 6 L S M Q = TR (z_st (.getfield 32) 3 6 L S M) 160 9 M Q := T_at zk160 rfl
theorem zT160_9 : TT 160 9 L S M Q = TR (z_st (.i2l) 1 9 L S M) 160 10 M Q := T_at zk160 rfl
theorem zT160_10 : TT 160 10 L S M Q = TR (z_st (.ladd) 1 10 L S M) 160 11 M Q := T_at zk160 rfl
theorem zT160_11 : TT 160 11 L S M Q = TR (z_st (.lstore 3) 1 11 L S M) 160 12 M Q := T_at zk160 rfl
theorem zT160_12 : TT 160 12 L S M Q = TR (z_st (.iconst 0) 1 12 L S M) 160 13 M Q := T_at zk160 rfl
theorem zT160_13 : TT 160 13 L S M Q = TR (z_st (.istore 5) 2 13 L S M) 160 15 M Q := T_at zk160 rfl
theorem zT160_15 : TT 160 15 L S M Q = TR (z_st (.iload 5) 2 15 L S M) 160 17 M Q := T_at zk160 rfl
theorem zT160_17 : TT 160 17 L S M Q = TR (z_st (.aload 0) 1 17 L S M) 160 18 M Q := T_at zk160 rfl
theorem zT160_18 : TT 160 18 L S M Q = TR (z_st (.getfield 32) 3 18 L S M) 160 21 M Q := T_at zk160 rfl
theorem zT160_21 : TT 160 21 L S M Q = TR (z_st (.if_icmp .ge 90) 3 21 L S M) 160 24 M Q := T_at zk160 rfl
theorem zT160_24 : TT 160 24 L S M Q = TR (z_st (.ldc2_w 31) 3 24 L S M) 160 27 M Q := T_at zk160 rfl
theorem zT160_27 : TT 160 27 L S M Q = TR (z_st (.lload 3) 1 27 L S M) 160 28 M Q := T_at zk160 rfl
theorem zT160_28 : TT 160 28 L S M Q = TR (z_st (.lmul) 1 28 L S M) 160 29 M Q := T_at zk160 rfl
theorem zT160_29 : TT 160 29 L S M Q = TR (z_st (.aload 0) 1 29 L S M) 160 30 M Q := T_at zk160 rfl
theorem zT160_30 : TT 160 30 L S M Q = TR (z_st (.fload 28) 3 30 L S M) 160 33 M Q := T_at zk160 rfl
theorem zT160_33 : TT 160 33 L S M Q = TR (z_st (.iload 5) 2 33 L S M) 160 35 M Q := T_at zk160 rfl
theorem zT160_35 : TT 160 35 L S M Q = TR (z_st (.iaload) 1 35 L S M) 160 36 M Q := T_at zk160 rfl
theorem zT160_36 : TT 160 36 L S M Q = TR (z_st (.i2l) 1 36 L S M) 160 37 M Q := T_at zk160 rfl
theorem zT160_37 : TT 160 37 L S M Q = TR (z_st (.ladd) 1 37 L S M) 160 38 M Q := T_at zk160 rfl
theorem zT160_38 : TT 160 38 L S M Q = TR (z_st (.lstore 3) 1 38 L S M) 160 39 M Q := T_at zk160 rfl
theorem zT160_39 : TT 160 39 L S M Q = TR (z_st (.ldc2_w 31) 3 39 L S M) 160 42 M Q := T_at zk160 rfl
theorem zT160_42 : TT 160 42 L S M Q = TR (z_st (.lload 3) 1 42 L S M) 160 43 M Q := T_at zk160 rfl
theorem zT160_43 : TT 160 43 L S M Q = TR (z_st (.lmul) 1 43 L S M) 160 44 M Q := T_at zk160 rfl
theorem zT160_44 : TT 160 44 L S M Q = TR (z_st (.aload 0) 1 44 L S M) 160 45 M Q := T_at zk160 rfl
theorem zT160_45 : TT 160 45 L S M Q = TR (z_st (.fload 29) 3 45 L S M) 160 48 M Q := T_at zk160 rfl
theorem zT160_48 : TT 160 48 L S M Q = TR (z_st (.iload 5) 2 48 L S M) 160 50 M Q := T_at zk160 rfl
theorem zT160_50 : TT 160 50 L S M Q = TR (z_st (.iaload) 1 50 L S M) 160 51 M Q := T_at zk160 rfl
theorem zT160_51 : TT 160 51 L S M Q = TR (z_st (.i2l) 1 51 L S M) 160 52 M Q := T_at zk160 rfl
theorem zT160_52 : TT 160 52 L S M Q = TR (z_st (.ladd) 1 52 L S M) 160 53 M Q := T_at zk160 rfl
theorem zT160_53 : TT 160 53 L S M Q = TR (z_st (.lstore 3) 1 53 L S M) 160 54 M Q := T_at zk160 rfl
theorem zT160_54 : TT 160 54 L S M Q = TR (z_st (.ldc2_w 31) 3 54 L S M) 160 57 M Q := T_at zk160 rfl
theorem zT160_57 : TT 160 57 L S M Q = TR (z_st (.lload 3) 1 57 L S M) 160 58 M Q := T_at zk160 rfl
theorem zT160_58 : TT 160 58 L S M Q = TR (z_st (.lmul) 1 58 L S M) 160 59 M Q := T_at zk160 rfl
theorem zT160_59 : TT 160 59 L S M Q = TR (z_st (.aload 0) 1 59 L S M) 160 60 M Q := T_at zk160 rfl
theorem zT160_60 : TT 160 60 L S M Q = TR (z_st (.fload 30) 3 60 L S M) 160 63 M Q := T_at zk160 rfl
theorem zT160_63 : TT 160 63 L S M Q = TR (z_st (.iload 5) 2 63 L S M) 160 65 M Q := T_at zk160 rfl
theorem zT160_65 : TT 160 65 L S M Q = TR (z_st (.iaload) 1 65 L S M) 160 66 M Q := T_at zk160 rfl
theorem zT160_66 : TT 160 66 L S M Q = TR (z_st (.i2l) 1 66 L S M) 160 67 M Q := T_at zk160 rfl
theorem zT160_67 : TT 160 67 L S M Q = TR (z_st (.ladd) 1 67 L S M) 160 68 M Q := T_at zk160 rfl
theorem zT160_68 : TT 160 68 L S M Q = TR (z_st (.lstore 3) 1 68 L S M) 160 69 M Q := T_at zk160 rfl
theorem zT160_69 : TT 160 69 L S M Q = TR (z_st (.ldc2_w 31) 3 69 L S M) 160 72 M Q := T_at zk160 rfl
theorem zT160_72 : TT 160 72 L S M Q = TR (z_st (.lload 3) 1 72 L S M) 160 73 M Q := T_at zk160 rfl
theorem zT160_73 : TT 160 73 L S M Q = TR (z_st (.lmul) 1 73 L S M) 160 74 M Q := T_at zk160 rfl
theorem zT160_74 : TT 160 74 L S M Q = TR (z_st (.aload 0) 1 74 L S M) 160 75 M Q := T_at zk160 rfl
theorem zT160_75 : TT 160 75 L S M Q = TR (z_st (.fload 31) 3 75 L S M) 160 78 M Q := T_at zk160 rfl
theorem zT160_78 : TT 160 78 L S M Q = TR (z_st (.iload 5) 2 78 L S M) 160 80 M Q := T_at zk160 rfl
theorem zT160_80 : TT 160 80 L S M Q = TR (z_st (.iaload) 1 80 L S M) 160 81 M Q := T_at zk160 rfl
theorem zT160_81 : TT 160 81 L S M Q = TR (z_st (.i2l) 1 81 L S M) 160 82 M Q := T_at zk160 rfl
theorem zT160_82 : TT 160 82 L S M Q = TR (z_st (.ladd) 1 82 L S M) 160 83 M Q := T_at zk160 rfl
theorem zT160_83 : TT 160 83 L S M Q = TR (z_st (.lstore 3) 1 83 L S M) 160 84 M Q := T_at zk160 rfl
theorem zT160_84 : TT 160 84 L S M Q = TR (z_st (.iinc 5 1) 3 84 L S M) 160 87 M Q := T_at zk160 rfl
theorem zT160_87 : TT 160 87 L S M Q = TR (z_st (.goto 15) 3 87 L S M) 160 90 M Q := T_at zk160 rfl
theorem zT160_90 : TT 160 90 L S M Q = TR (z_st (.lload 3) 1 90 L S M) 160 91 M Q := T_at zk160 rfl
theorem zT160_91 : TT 160 91 L S M Q = TR (z_st (.lreturn) 1 91 L S M) 160 92 M Q := T_at zk160 rfl
set_option maxRecDepth 100000 in
theorem zk161 : z_coL.getD 161 [] = zc161 := rfl
theorem zT161_0 : TT 161 0 L S M Q = TR (z_st (.aload 0) 1 0 L S M) 161 1 M Q := T_at zk161 rfl
theorem zT161_1 : TT 161 1 L S M Q = TR (z_st (.athrow) 3 1 L S M) 161 4 M Q := T_at zk161 rfl
theorem zT161_4 : TT 161 4 L S M Q = TR (z_st (.aload 0) 1 4 L S M) 161 5 M Q := T_at zk161 rfl
theorem zT161_5 : TT 161 5 L S M Q = TR (z_st (.new 7) 3 5 L S M) 161 8 M Q := T_at zk161 rfl
theorem zT161_8 : TT 161 8 L S M Q = TR (z_st (.dup) 1 8 L S M) 161 9 M Q := T_at zk161 rfl
theorem zT161_9 : TT 161 9 L S M Q = TR (z_st (.iconst 0) 1 9 L S M) 161 10 M Q := T_at zk161 rfl
theorem zT161_10 : TT 161 10 L S M Q = TR (z_st (.invokespecial 199) 3 10 L S M) 161 13 M Q := T_at zk161 rfl
theorem zT161_13 : TT 161 13 L S M Q = TR (z_st (.fstore 34) 3 13 L S M) 161 16 M Q := T_at zk161 rfl
theorem zT161_16 : TT 161 16 L S M Q = TR (z_st (.aload 0) 1 16 L S M) 161 17 M Q := T_at zk161 rfl
theorem zT161_17 : TT 161 17 L S M Q = TR (z_st (.new 7) 3 17 L S M) 161 20 M Q := T_at zk161 rfl
theorem zT161_20 : TT 161 20 L S M Q = TR (z_st (.dup) 1 20 L S M) 161 21 M Q := T_at zk161 rfl
theorem zT161_21 : TT 161 21 L S M Q = TR (z_st (.iconst 1) 1 21 L S M) 161 22 M Q := T_at zk161 rfl
theorem zT161_22 : TT 161 22 L S M Q = TR (z_st (.invokespecial 199) 3 22 L S M) 161 25 M Q := T_at zk161 rfl
theorem zT161_25 : TT 161 25 L S M Q = TR (z_st (.fstore 35) 3 25 L S M) 161 28 M Q := T_at zk161 rfl
theorem zT161_28 : TT 161 28 L S M Q = TR (z_st (.return_) 1 28 L S M) 161 29 M Q := T_at zk161 rfl
set_option maxRecDepth 100000 in
theorem zk162 : z_coL.getD 162 [] = zc162 := rfl
theorem zT162_0 : TT 162 0 L S M Q = TR (z_st (.aload 0) 1 0 L S M) 162 1 M Q := T_at zk162 rfl
theorem zT162_1 : TT 162 1 L S M Q = TR (z_st (.fload 34) 3 1 L S M) 162 4 M Q := T_at zk162 rfl
theorem zT162_4 : TT 162 4 L S M Q = TR (z_st (.iconst 0) 1 4 L S M) 162 5 M Q := T_at zk162 rfl
theorem zT162_5 : TT 162 5 L S M Q = TR (z_st (.invokevirtual 200) 3 5 L S M) 162 8 M Q := T_at zk162 rfl
theorem zT162_8 : TT 162 8 L S M Q = TR (z_st (.aload 0) 1 8 L S M) 162 9 M Q := T_at zk162 rfl
theorem zT162_9 : TT 162 9 L S M Q = TR (z_st (.fload 35) 3 9 L S M) 162 12 M Q := T_at zk162 rfl
theorem zT162_12 : TT 162 12 L S M Q = TR (z_st (.iconst 1) 1 12 L S M) 162 13 M Q := T_at zk162 rfl
theorem zT162_13 : TT 162 13 L S M Q = TR (z_st (.invokevirtual 200) 3 13 L S M) 162 16 M Q := T_at zk162 rfl
theorem zT162_16 : TT 162 16 L S M Q = TR (z_st (.return_) 1 16 L S M) 162 17 M Q := T_at zk162 rfl
set_option maxRecDepth 100000 in
theorem zk163 : z_coL.getD 163 [] = zc163 := rfl
theorem zT163_0 : TT 163 0 L S M Q = TR (z_st (.iload 1) 1 0 L S M) 163 1 M Q := T_at zk163 rfl
theorem zT163_1 : TT 163 1 L S M Q = TR (z_st (.iload 2) 1 1 L S M) 163 2 M Q := T_at zk163 rfl
theorem zT163_2 : TT 163 2 L S M Q = TR (z_st (.invokestatic 164) 3 2 L S M) 163 5 M Q := T_at zk163 rfl
theorem zT163_5 : TT 163 5 L S M Q = TR (z_st (.istore 4) 2 5 L S M) 163 7 M Q := T_at zk163 rfl
theorem zT163_7 : TT 163 7 L S M Q = TR (z_st (.iload 4) 2 7 L S M) 163 9 M Q := T_at zk163 rfl
theorem zT163_9 : TT 163 9 L S M Q = TR (z_st (.ifCond .gt 17) 3 9 L S M) 163 12 M Q := T_at zk163 rfl
theorem zT163_12 : TT 163 12 L S M Q = TR (z_st (.aload 0) 1 12 L S M) 163 13 M Q := T_at zk163 rfl
theorem zT163_13 : TT 163 13 L S M Q = TR (z_st (.invokevirtual 162) 3 13 L S M) 163 16 M Q := T_at zk163 rfl
theorem zT163_16 : TT 163 16 L S M Q = TR (z_st (.return_) 1 16 L S M) 163 17 M Q := T_at zk163 rfl
theorem zT163_17 : TT 163 17 L S M Q = TR (z_st (.aload 0) 1 17 L S M) 163 18 M Q := T_at zk163 rfl
theorem zT163_18 : TT 163 18 L S M Q = TR (z_st (.fload 34) 3 18 L S M) 163 21 M Q := T_at zk163 rfl
theorem zT163_21 : TT 163 21 L S M Q = TR (z_st (.iconst 1) 1 21 L S M) 163 22 M Q := T_at zk163 rfl
theorem zT163_22 : TT 163 22 L S M Q = TR (z_st (.invokevirtual 200) 3 22 L S M) 163 25 M Q := T_at zk163 rfl
theorem zT163_25 : TT 163 25 L S M Q = TR (z_st (.aload 0) 1 25 L S M) 163 26 M Q := T_at zk163 rfl
theorem zT163_26 : TT 163 26 L S M Q = TR (z_st (.fload 35) 3 26 L S M) 163 29 M Q := T_at zk163 rfl
theorem zT163_29 : TT 163 29 L S M Q = TR (z_st (.iconst 1) 1 29 L S M) 163 30 M Q := T_at zk163 rfl
theorem zT163_30 : TT 163 30 L S M Q = TR (z_st (.invokevirtual 200) 3 30 L S M) 163 33 M Q := T_at zk163 rfl
theorem zT163_33 : TT 163 33 L S M Q = TR (z_st (.iconst 0) 1 33 L S M) 163 34 M Q := T_at zk163 rfl
theorem zT163_34 : TT 163 34 L S M Q = TR (z_st (.istore 5) 2 34 L S M) 163 36 M Q := T_at zk163 rfl
theorem zT163_36 : TT 163 36 L S M Q = TR (z_st (.iload 5) 2 36 L S M) 163 38 M Q := T_at zk163 rfl
theorem zT163_38 : TT 163 38 L S M Q = TR (z_st (.iload 3) 1 38 L S M) 163 39 M Q := T_at zk163 rfl
theorem zT163_39 : TT 163 39 L S M Q = TR (z_st (.if_icmp .ge 70) 3 39 L S M) 163 42 M Q := T_at zk163 rfl
theorem zT163_42 : TT 163 42 L S M Q = TR (z_st (.aload 0) 1 42 L S M) 163 43 M Q := T_at zk163 rfl
theorem zT163_43 : TT 163 43 L S M Q = TR (z_st (.fload 34) 3 43 L S M) 163 46 M Q := T_at zk163 rfl
theorem zT163_46 : TT 163 46 L S M Q = TR (z_st (.iload 1) 1 46 L S M) 163 47 M Q := T_at zk163 rfl
theorem zT163_47 : TT 163 47 L S M Q = TR (z_st (.iload 4) 2 47 L S M) 163 49 M Q := T_at zk163 rfl
theorem zT163_49 : TT 163 49 L S M Q = TR (z_st (.idiv) 1 49 L S M) 163 50 M Q := T_at zk163 rfl
theorem zT163_50 : TT 163 50 L S M Q = TR (z_st (.invokevirtual 202) 3 50 L S M) 163 53 M Q := T_at zk163 rfl
theorem zT163_53 : TT 163 53 L S M Q = TR (z_st (.aload 0) 1 53 L S M) 163 54 M Q := T_at zk163 rfl
theorem zT163_54 : TT 163 54 L S M Q = TR (z_st (.fload 35) 3 54 L S M) 163 57 M Q := T_at zk163 rfl
theorem zT163_57 : TT 163 57 L S M Q = TR (z_st (.iload 2) 1 57 L S M) 163 58 M Q := T_at zk163 rfl
theorem zT163_58 : TT 163 58 L S M Q = TR (z_st (.iload 4) 2 58 L S M) 163 60 M Q := T_at zk163 rfl
theorem zT163_60 : TT 163 60 L S M Q = TR (z_st (.idiv) 1 60 L S M) 163 61 M Q := T_at zk163 rfl
theorem zT163_61 : TT 163 61 L S M Q = TR (z_st (.invokevirtual 202) 3 61 L S M) 163 64 M Q := T_at zk163 rfl
theorem zT163_64 : TT 163 64 L S M Q = TR (z_st (.iinc 5 1) 3 64 L S M) 163 67 M Q := T_at zk163 rfl
theorem zT163_67 : TT 163 67 L S M Q = TR (z_st (.goto 36) 3 67 L S M) 163 70 M Q := T_at zk163 rfl
theorem zT163_70 : TT 163 70 L S M Q = TR (z_st (.aload 0) 1 70 L S M) 163 71 M Q := T_at zk163 rfl
theorem zT163_71 : TT 163 71 L S M Q = TR (z_st (.fload 34) 3 71 L S M) 163 74 M Q := T_at zk163 rfl
theorem zT163_74 : TT 163 74 L S M Q = TR (z_st (.invokevirtual 201) 3 74 L S M) 163 77 M Q := T_at zk163 rfl
theorem zT163_77 : TT 163 77 L S M Q = TR (z_st (.ifCond .eq 84) 3 77 L S M) 163 80 M Q := T_at zk163 rfl
theorem zT163_80 : TT 163 80 L S M Q = TR (z_st (.aload 0) 1 80 L S M) 163 81 M Q := T_at zk163 rfl
theorem zT163_81 : TT 163 81 L S M Q = TR (z_st (.invokevirtual 162) 3 81 L S M) 163 84 M Q := T_at zk163 rfl
theorem zT163_84 : TT 163 84 L S M Q = TR (z_st (.return_) 1 84 L S M) 163 85 M Q := T_at zk163 rfl
set_option maxRecDepth 100000 in
theorem zk164 : z_coL.getD 164 [] = zc164 := rfl
theorem zT164_0 : TT 164 0 L S M Q = TR (z_st (.iload 0) 1 0 L S M) 164 1 M Q := T_at zk164 rfl
theorem zT164_1 : TT 164 1 L S M Q = TR (z_st (.iload 1) 1 1 L S M) 164 2 M Q := T_at zk164 rfl
theorem zT164_2 : TT 164 2 L S M Q = TR (z_st (.fadd) 3 2 L S M) 164 5 M Q := T_at zk164 rfl
theorem zT164_5 : TT 164 5 L S M Q = TR (z_st (.istore 2) 1 5 L S M) 164 6 M Q := T_at zk164 rfl
theorem zT164_6 : TT 164 6 L S M Q = TR (z_st (.iload 2) 1 6 L S M) 164 7 M Q := T_at zk164 rfl
theorem zT164_7 : TT 164 7 L S M Q = TR (z_st (.iconst 1) 1 7 L S M) 164 8 M Q := T_at zk164 rfl
theorem zT164_8 : TT 164 8 L S M Q = TR (z_st (.if_icmp .le 31) 3 8 L S M) 164 11 M Q := T_at zk164 rfl
theorem zT164_11 : TT 164 11 L S M Q = TR (z_st (.iload 0) 1 11 L S M) 164 12 M Q := T_at zk164 rfl
theorem zT164_12 : TT 164 12 L S M Q = TR (z_st (.iload 2) 1 12 L S M) 164 13 M Q := T_at zk164 rfl
theorem zT164_13 : TT 164 13 L S M Q = TR (z_st (.irem) 1 13 L S M) 164 14 M Q := T_at zk164 rfl
theorem zT164_14 : TT 164 14 L S M Q = TR (z_st (.ifCond .ne 25) 3 14 L S M) 164 17 M Q := T_at zk164 rfl
theorem zT164_17 : TT 164 17 L S M Q = TR (z_st (.iload 1) 1 17 L S M) 164 18 M Q := T_at zk164 rfl
theorem zT164_18 : TT 164 18 L S M Q = TR (z_st (.iload 2) 1 18 L S M) 164 19 M Q := T_at zk164 rfl
theorem zT164_19 : TT 164 19 L S M Q = TR (z_st (.irem) 1 19 L S M) 164 20 M Q := T_at zk164 rfl
theorem zT164_20 : TT 164 20 L S M Q = TR (z_st (.ifCond .ne 25) 3 20 L S M) 164 23 M Q := T_at zk164 rfl
theorem zT164_23 : TT 164 23 L S M Q = TR (z_st (.iload 2) 1 23 L S M) 164 24 M Q := T_at zk164 rfl
theorem zT164_24 : TT 164 24 L S M Q = TR (z_st (.ret 0) 1 24 L S M) 164 25 M Q := T_at zk164 rfl
theorem zT164_25 : TT 164 25 L S M Q = TR (z_st (.iinc 2 (-1)) 3 25 L S M) 164 28 M Q := T_at zk164 rfl
theorem zT164_28 : TT 164 28 L S M Q = TR (z_st (.goto 6) 3 28 L S M) 164 31 M Q := T_at zk164 rfl
theorem zT164_31 : TT 164 31 L S M Q = TR (z_st (.iconst 1) 1 31 L S M) 164 32 M Q := T_at zk164 rfl
theorem zT164_32 : TT 164 32 L S M Q = TR (z_st (.ret 0) 1 32 L S M) 164 33 M Q := T_at zk164 rfl
set_option maxRecDepth 100000 in
theorem zk165 : z_coL.getD 165 [] = zc165 := rfl
theorem zT165_0 : TT 165 0 L S M Q = TR (z_st (.aload 0) 1 0 L S M) 165 1 M Q := T_at zk165 rfl
theorem zT165_1 : TT 165 1 L S M Q = TR (z_st (.athrow) 3 1 L S M) 165 4 M Q := T_at zk165 rfl
theorem zT165_4 : TT 165 4 L S M Q = TR (z_st (.return_) 1 4 L S M) 165 5 M Q := T_at zk165 rfl
set_option maxRecDepth 100000 in
theorem zk166 : z_coL.getD 166 [] = zc166 := rfl
theorem zT166_0 : TT 166 0 L S M Q = TR (z_st (.aload 0) 1 0 L S M) 166 1 M Q := T_at zk166 rfl
theorem zT166_1 : TT 166 1 L S M Q = TR (z_st (.iconst 0) 1 1 L S M) 166 2 M Q := T_at zk166 rfl
theorem zT166_2 : TT 166 2 L S M Q = TR (z_st (.putfield 36) 3 2 L S M) 166 5 M Q := T_at zk166 rfl
theorem zT166_5 : TT 166 5 L S M Q = TR (z_st (.aload 0) 1 5 L S M) 166 6 M Q := T_at zk166 rfl
theorem zT166_6 : TT 166 6 L S M Q = TR (z_st (.iconst 0) 1 6 L S M) 166 7 M Q := T_at zk166 rfl
theorem zT166_7 : TT 166 7 L S M Q = TR (z_st (.putfield 37) 3 7 L S M) 166 10 M Q := T_at zk166 rfl
theorem zT166_10 : TT 166 10 L S M Q = TR (z_st (.aload 0) 1 10 L S M) 166 11 M Q := T_at zk166 rfl
theorem zT166_11 : TT 166 11 L S M Q = TR (z_st (.iconst 0) 1 11 L S M) 166 12 M Q := T_at zk166 rfl
theorem zT166_12 : TT 166 12 L S M Q = TR (z_st (.putfield 38) 3 12 L S M) 166 15 M Q := T_at zk166 rfl
theorem zT166_15 : TT 166 15 L S M Q = TR (z_st (.aload 0) 1 15 L S M) 166 16 M Q := T_at zk166 rfl
theorem zT166_16 : TT 166 16 L S M Q = TR (z_st (.iconst 0) 1 16 L S M) 166 17 M Q := T_at zk166 rfl
theorem zT166_17 : TT 166 17 L S M Q = TR (z_st (.putfield 39) 3 17 L S M) 166 20 M Q := T_at zk166 rfl
theorem zT166_20 : TT 166 20 L S M Q = TR (z_st (.aload 0) 1 20 L S M) 166 21 M Q := T_at zk166 rfl
theorem zT166_21 : TT 166 21 L S M Q = TR (z_st (.iconst 0) 1 21 L S M) 166 22 M Q := T_at zk166 rfl
theorem zT166_22 : TT 166 22 L S M Q = TR (z_st (.putfield 40) 3 22 L S M) 166 25 M Q := T_at zk166 rfl
theorem zT166_25 : TT 166 25 L S M Q = TR (z_st (.return_) 1 25 L S M) 166 26 M Q := T_at zk166 rfl
set_option maxRecDepth 100000 in
theorem zk167 : z_coL.getD 167 [] = zc167 := rfl
theorem zT167_0 : TT 167 0 L S M Q = TR (z_st (.iload 1) 1 0 L S M) 167 1 M Q := T_at zk167 rfl
theorem zT167_1 : TT 167 1 L S M Q = TR (z_st (.ifCond .eq 21) 3 1 L S M) 167 4 M Q := T_at zk167 rfl
theorem zT167_4 : TT 167 4 L S M Q = TR (z_st (.iload 2) 1 4 L S M) 167 5 M Q := T_at zk167 rfl
theorem zT167_5 : TT 167 5 L S M Q = TR (z_st (.ifCond .eq 21) 3 5 L S M) 167 8 M Q := T_at zk167 rfl
theorem zT167_8 : TT 167 8 L S M Q = TR (z_st (.aload 0) 1 8 L S M) 167 9 M Q := T_at zk167 rfl
theorem zT167_9 : TT 167 9 L S M Q = TR (z_st (.dup) 1 9 L S M) 167 10 M Q := T_at zk167 rfl
theorem zT167_10 : TT 167 10 L S M Q = TR (z_st (.getfield 36) 3 10 L S M) 167 13 M Q := T_at zk167 rfl
theorem zT167_13 : TT 167 13 L S M Q = TR (z_st (.iload 3) 1 13 L S M) 167 14 M Q := T_at zk167 rfl
theorem zT167_14 : TT 167 14 L S M Q = TR (z_st (.iadd) 1 14 L S M) 167 15 M Q := T_at zk167 rfl
theorem zT167_15 : TT 167 15 L S M Q = TR (z_st (.putfield 36) 3 15 L S M) 167 18 M Q := T_at zk167 rfl
theorem zT167_18 : TT 167 18 L S M Q = TR (z_st (.goto 65) 3 18 L S M) 167 21 M Q := T_at zk167 rfl
theorem zT167_21 : TT 167 21 L S M Q = TR (z_st (.iload 1) 1 21 L S M) 167 22 M Q := T_at zk167 rfl
theorem zT167_22 : TT 167 22 L S M Q = TR (z_st (.ifCond .eq 38) 3 22 L S M) 167 25 M Q := T_at zk167 rfl
theorem zT167_25 : TT 167 25 L S M Q = TR (z_st (.aload 0) 1 25 L S M) 167 26 M Q := T_at zk167 rfl
theorem zT167_26 : TT 167 26 L S M Q = TR (z_st (.dup) 1 26 L S M) 167 27 M Q := T_at zk167 rfl
theorem zT167_27 : TT 167 27 L S M Q = TR (z_st (.getfield 37) 3 27 L S M) 167 30 M Q := T_at zk167 rfl
theorem zT167_30 : TT 167 30 L S M Q = TR (z_st (.iload 3) 1 30 L S M) 167 31 M Q := T_at zk167 rfl
theorem zT167_31 : TT 167 31 L S M Q = TR (z_st (.iadd) 1 31 L S M) 167 32 M Q := T_at zk167 rfl
theorem zT167_32 : TT 167 32 L S M Q = TR (z_st (.putfield 37) 3 32 L S M) 167 35 M Q := T_at zk167 rfl
theorem zT167_35 : TT 167 35 L S M Q = TR (z_st (.goto 65) 3 35 L S M) 167 38 M Q := T_at zk167 rfl
theorem zT167_38 : TT 167 38 L S M Q = TR (z_st (.iload 2) 1 38 L S M) 167 39 M Q := T_at zk167 rfl
theorem zT167_39 : TT 167 39 L S M Q = TR (z_st (.ifCond .eq 55) 3 39 L S M) 167 42 M Q := T_at zk167 rfl
theorem zT167_42 : TT 167 42 L S M Q = TR (z_st (.aload 0) 1 42 L S M) 167 43 M Q := T_at zk167 rfl
theorem zT167_43 : TT 167 43 L S M Q = TR (z_st (.dup) 1 43 L S M) 167 44 M Q := T_at zk167 rfl
theorem zT167_44 : TT 167 44 L S M Q = TR (z_st (.getfield 38) 3 44 L S M) 167 47 M Q := T_at zk167 rfl
theorem zT167_47 : TT 167 47 L S M Q = TR (z_st (.iload 3) 1 47 L S M) 167 48 M Q := T_at zk167 rfl
theorem zT167_48 : TT 167 48 L S M Q = TR (z_st (.iadd) 1 48 L S M) 167 49 M Q := T_at zk167 rfl
theorem zT167_49 : TT 167 49 L S M Q = TR (z_st (.putfield 38) 3 49 L S M) 167 52 M Q := T_at zk167 rfl
theorem zT167_52 : TT 167 52 L S M Q = TR (z_st (.goto 65) 3 52 L S M) 167 55 M Q := T_at zk167 rfl
theorem zT167_55 : TT 167 55 L S M Q = TR (z_st (.aload 0) 1 55 L S M) 167 56 M Q := T_at zk167 rfl
theorem zT167_56 : TT 167 56 L S M Q = TR (z_st (.dup) 1 56 L S M) 167 57 M Q := T_at zk167 rfl
theorem zT167_57 : TT 167 57 L S M Q = TR (z_st (.getfield 39) 3 57 L S M) 167 60 M Q := T_at zk167 rfl
theorem zT167_60 : TT 167 60 L S M Q = TR (z_st (.iload 3) 1 60 L S M) 167 61 M Q := T_at zk167 rfl
theorem zT167_61 : TT 167 61 L S M Q = TR (z_st (.iadd) 1 61 L S M) 167 62 M Q := T_at zk167 rfl
theorem zT167_62 : TT 167 62 L S M Q = TR (z_st (.putfield 39) 3 62 L S M) 167 65 M Q := T_at zk167 rfl
theorem zT167_65 : TT 167 65 L S M Q = TR (z_st (.return_) 1 65 L S M) 167 66 M Q := T_at zk167 rfl
set_option maxRecDepth 100000 in
theorem zk168 : z_coL.getD 168 [] = zc168 := rfl
theorem zT168_0 : TT 168 0 L S M Q = TR (z_st (.iload 3) 1 0 L S M) 168 1 M Q := T_at zk168 rfl
theorem zT168_1 : TT 168 1 L S M Q = TR (z_st (.iload 1) 1 1 L S M) 168 2 M Q := T_at zk168 rfl
theorem zT168_2 : TT 168 2 L S M Q = TR (z_st (.if_icmp .ge 9) 3 2 L S M) 168 5 M Q := T_at zk168 rfl
theorem zT168_5 : TT 168 5 L S M Q = TR (z_st (.iload 3) 1 5 L S M) 168 6 M Q := T_at zk168 rfl
theorem zT168_6 : TT 168 6 L S M Q = TR (z_st (.goto 10) 3 6 L S M) 168 9 M Q := T_at zk168 rfl
theorem zT168_9 : TT 168 9 L S M Q = TR (z_st (.iload 1) 1 9 L S M) 168 10 M Q := T_at zk168 rfl
theorem zT168_10 : TT 168 10 L S M Q = TR (z_st (.istore 4) 2 10 L S M) 168 12 M Q := T_at zk168 rfl
theorem zT168_12 : TT 168 12 L S M Q = TR (z_st (.iload 3) 1 12 L S M) 168 13 M Q := T_at zk168 rfl
theorem zT168_13 : TT 168 13 L S M Q = TR (z_st (.iload 4) 2 13 L S M) 168 15 M Q := T_at zk168 rfl
theorem zT168_15 : TT 168 15 L S M Q = TR (z_st (.isub) 1 15 L S M) 168 16 M Q := T_at zk168 rfl
theorem zT168_16 : TT 168 16 L S M Q = TR (z_st (.istore 5) 2 16 L S M) 168 18 M Q := T_at zk168 rfl
theorem zT168_18 : TT 168 18 L S M Q = TR (z_st (.aload 0) 1 18 L S M) 168 19 M Q := T_at zk168 rfl
theorem zT168_19 : TT 168 19 L S M Q = TR (z_st (.dup) 1 19 L S M) 168 20 M Q := T_at zk168 rfl
theorem zT168_20 : TT 168 20 L S M Q = TR (z_st (.getfield 36) 3 20 L S M) 168 23 M Q := T_at zk168 rfl
theorem zT168_23 : TT 168 23 L S M Q = TR (z_st (.iload 4) 2 23 L S M) 168 25 M Q := T_at zk168 rfl
theorem zT168_25 : TT 168 25 L S M Q = TR (z_st (.iadd) 1 25 L S M) 168 26 M Q := T_at zk168 rfl
theorem zT168_26 : TT 168 26 L S M Q = TR (z_st (.putfield 36) 3 26 L S M) 168 29 M Q := T_at zk168 rfl
theorem zT168_29 : TT 168 29 L S M Q = TR (z_st (.aload 0) 1 29 L S M) 168 30 M Q := T_at zk168 rfl
theorem zT168_30 : TT 168 30 L S M Q = TR (z_st (.dup) 1 30 L S M) 168 31 M Q := T_at zk168 rfl
theorem zT168_31 : TT 168 31 L S M Q = TR (z_st (.getfield 37) 3 31 L S M) 168 34 M Q := T_at zk168 rfl
theorem zT168_34 : TT 168 34 L S M Q = TR (z_st (.iload 1) 1 34 L S M) 168 35 M Q := T_at zk168 rfl
theorem zT168_35 : TT 168 35 L S M Q = TR (z_st (.iload 4) 2 35 L S M) 168 37 M Q := T_at zk168 rfl
theorem zT168_37 : TT 168 37 L S M Q = TR (z_st (.isub) 1 37 L S M) 168 38 M Q := T_at zk168 rfl
theorem zT168_38 : TT 168 38 L S M Q = TR (z_st (.iadd) 1 38 L S M) 168 39 M Q := T_at zk168 rfl
theorem zT168_39 : TT 168 39 L S M Q = TR (z_st (.putfield 37) 3 39 L S M) 168 42 M Q := T_at zk168 rfl
theorem zT168_42 : TT 168 42 L S M Q = TR (z_st (.aload 0) 1 42 L S M) 168 43 M Q := T_at zk168 rfl
theorem zT168_43 : TT 168 43 L S M Q = TR (z_st (.dup) 1 43 L S M) 168 44 M Q := T_at zk168 rfl
theorem zT168_44 : TT 168 44 L S M Q = TR (z_st (.getfield 38) 3 44 L S M) 168 47 M Q := T_at zk168 rfl
theorem zT168_47 : TT 168 47 L S M Q = TR (z_st (.iload 5) 2 47 L S M) 168 49 M Q := T_at zk168 rfl
theorem zT168_49 : TT 168 49 L S M Q = TR (z_st (.iadd) 1 49 L S M) 168 50 M Q := T_at zk168 rfl
theorem zT168_50 : TT 168 50 L S M Q = TR (z_st (.putfield 38) 3 50 L S M) 168 53 M Q := T_at zk168 rfl
theorem zT168_53 : TT 168 53 L S M Q = TR (z_st (.aload 0) 1 53 L S M) 168 54 M Q := T_at zk168 rfl
theorem zT168_54 : TT 168 54 L S M Q = TR (z_st (.dup) 1 54 L S M) 168 55 M Q := T_at zk168 rfl
theorem zT168_55 : TT 168 55 L S M Q = TR (z_st (.getfield 39) 3 55 L S M) 168 58 M Q := T_at zk168 rfl
theorem zT168_58 : TT 168 58 L S M Q = TR (z_st (.iload 2) 1 58 L S M) 168 59 M Q := T_at zk168 rfl
theorem zT168_59 : TT 168 59 L S M Q = TR (z_st (.iload 5) 2 59 L S M) 168 61 M Q := T_at zk168 rfl
theorem zT168_61 : TT 168 61 L S M Q = TR (z_st (.isub) 1 61 L S M) 168 62 M Q := T_at zk168 rfl
theorem zT168_62 : TT 168 62 L S M Q = TR (z_st (.iadd) 1 62 L S M) 168 63 M Q := T_at zk168 rfl
theorem zT168_63 : TT 168 63 L S M Q = TR (z_st (.putfield 39) 3 63 L S M) 168 66 M Q := T_at zk168 rfl
theorem zT168_66 : TT 168 66 L S M Q = TR (z_st (.return_) 1 66 L S M) 168 67 M Q := T_at zk168 rfl
set_option maxRecDepth 100000 in
theorem zk169 : z_coL.getD 169 [] = zc169 := rfl
theorem zT169_0 : TT 169 0 L S M Q = TR (z_st (.aload 0) 1 0 L S M) 169 1 M Q := T_at zk169 rfl
theorem zT169_1 : TT 169 1 L S M Q = TR (z_st (.getfield 36) 3 1 L S M) 169 4 M Q := T_at zk169 rfl
theorem zT169_4 : TT 169 4 L S M Q = TR (z_st (.aload 1) 1 4 L S M) 169 5 M Q := T_at zk169 rfl
theorem zT169_5 : TT 169 5 L S M Q = TR (z_st (.getfield 36) 3 5 L S M) 169 8 M Q := T_at zk169 rfl
theorem zT169_8 : TT 169 8 L S M Q = TR (z_st (.isub) 1 8 L S M) 169 9 M Q := T_at zk169 rfl
theorem zT169_9 : TT 169 9 L S M Q = TR (z_st (.istore 2) 1 9 L S M) 169 10 M Q := T_at zk169 rfl
theorem zT169_10 : TT 169 10 L S M Q = TR (z_st (.aload 0) 1 10 L S M) 169 11 M Q := T_at zk169 rfl
theorem zT169_11 : TT 169 11 L S M Q = TR (z_st (.getfield 38) 3 11 L S M) 169 14 M Q := T_at zk169 rfl
theorem zT169_14 : TT 169 14 L S M Q = TR (z_st (.aload 1) 1 14 L S M) 169 15 M Q := T_at zk169 rfl
theorem zT169_15 : TT 169 15 L S M Q = TR (z_st (.getfield 38) 3 15 L S M) 169 18 M Q := T_at zk169 rfl
theorem zT169_18 : TT 169 18 L S M Q = TR (z_st (.isub) 1 18 L S M) 169 19 M Q := T_at zk169 rfl
theorem zT169_19 : TT 169 19 L S M Q = TR (z_st (.istore 3) 1 19 L S M) 169 20 M Q := T_at zk169 rfl
theorem zT169_20 : TT 169 20 L S M Q = TR (z_st (.iload 2) 1 20 L S M) 169 21 M Q := T_at zk169 rfl
theorem zT169_21 : TT 169 21 L S M Q = TR (z_st (.ifCond .lt 28) 3 21 L S M) 169 24 M Q := T_at zk169 rfl
theorem zT169_24 : TT 169 24 L S M Q = TR (z_st (.iload 3) 1 24 L S M) 169 25 M Q := T_at zk169 rfl
theorem zT169_25 : TT 169 25 L S M Q = TR (z_st (.ifCond .ge 30) 3 25 L S M) 169 28 M Q := T_at zk169 rfl
theorem zT169_28 : TT 169 28 L S M Q = TR (z_st (.iconst 0) 1 28 L S M) 169 29 M Q := T_at zk169 rfl
theorem zT169_29 : TT 169 29 L S M Q = TR (z_st (.ret 1) 1 29 L S M) 169 30 M Q := T_at zk169 rfl
theorem zT169_30 : TT 169 30 L S M Q = TR (z_st (.iconst 0) 1 30 L S M) 169 31 M Q := T_at zk169 rfl
theorem zT169_31 : TT 169 31 L S M Q = TR (z_st (.aload 1) 1 31 L S M) 169 32 M Q := T_at zk169 rfl
theorem zT169_32 : TT 169 32 L S M Q = TR (z_st (.getfield 37) 3 32 L S M) 169 35 M Q := T_at zk169 rfl
theorem zT169_35 : TT 169 35 L S M Q = TR (z_st (.aload 0) 1 35 L S M) 169 36 M Q := T_at zk169 rfl
theorem zT169_36 : TT 169 36 L S M Q = TR (z_st (.getfield 37) 3 36 L S M) 169 39 M Q := T_at zk169 rfl
theorem zT169_39 : TT 169 39 L S M Q = TR (z_st (.isub) 1 39 L S M) 169 40 M Q := T_at zk169 rfl
theorem zT169_40 : TT 169 40 L S M Q = TR (z_st (.iload 2) 1 40 L S M) 169 41 M Q := T_at zk169 rfl
theorem zT169_41 : TT 169 41 L S M Q = TR (z_st (.isub) 1 41 L S M) 169 42 M Q := T_at zk169 rfl
theorem zT169_42 : TT 169 42 L S M Q = TR (z_st (.fadd) 3 42 L S M) 169 45 M Q := T_at zk169 rfl
theorem zT169_45 : TT 169 45 L S M Q = TR (z_st (.istore 4) 2 45 L S M) 169 47 M Q := T_at zk169 rfl
theorem zT169_47 : TT 169 47 L S M Q = TR (z_st (.iconst 0) 1 47 L S M) 169 48 M Q := T_at zk169 rfl
theorem zT169_48 : TT 169 48 L S M Q = TR (z_st (.aload 1) 1 48 L S M) 169 49 M Q := T_at zk169 rfl
theorem zT169_49 : TT 169 49 L S M Q = TR (z_st (.getfield 39) 3 49 L S M) 169 52 M Q := T_at zk169 rfl
theorem zT169_52 : TT 169 52 L S M Q = TR (z_st (.aload 0) 1 52 L S M) 169 53 M Q := T_at zk169 rfl
theorem zT169_53 : TT 169 53 L S M Q = TR (z_st (.getfield 39) 3 53 L S M) 169 56 M Q := T_at zk169 rfl
theorem zT169_56 : TT 169 56 L S M Q = TR (z_st (.isub) 1 56 L S M) 169 57 M Q := T_at zk169 rfl
theorem zT169_57 : TT 169 57 L S M Q = TR (z_st (.iload 3) 1 57 L S M) 169 58 M Q := T_at zk169 rfl
theorem zT169_58 : TT 169 58 L S M Q = TR (z_st (.isub) 1 58 L S M) 169 59 M Q := T_at zk169 rfl
theorem zT169_59 : TT 169 59 L S M Q = TR (z_st (.fadd) 3 59 L S M) 169 62 M Q := T_at zk169 rfl
theorem zT169_62 : TT 169 62 L S M Q = TR (z_st (.istore 5) 2 62 L S M) 169 64 M Q := T_at zk169 rfl
theorem zT169_64 : TT 169 64 L S M Q = TR (z_st (.iload 4) 2 64 L S M) 169 66 M Q := T_at zk169 rfl
theorem zT169_66 : TT 169 66 L S M Q = TR (z_st (.iload 5) 2 66 L S M) 169 68 M Q := T_at zk169 rfl
theorem zT169_68 : TT 169 68 L S M Q = TR (z_st (.iadd) 1 68 L S M) 169 69 M Q := T_at zk169 rfl
theorem zT169_69 : TT 169 69 L S M Q = TR (z_st (.aload 0) 1 69 L S M) 169 70 M Q := T_at zk169 rfl
theorem zT169_70 : TT 169 70 L S M Q = TR (z_st (.getfield 40) 3 70 L S M) 169 73 M Q := T_at zk169 rfl
theorem zT169_73 : TT 169 73 L S M Q = TR (z_st (.if_icmp .gt 80) 3 73 L S M) 169 76 M Q := T_at zk169 rfl
theorem zT169_76 : TT 169 76 L S M Q = TR (z_st (.iconst 1) 1 76 L S M) 169 77 M Q := T_at zk169 rfl
theorem zT169_77 : TT 169 77 L S M Q = TR (z_st (.goto 81) 3 77 L S M) 169 80 M Q := T_at zk169 rfl
theorem zT169_80 : TT 169 80 L S M Q = TR (z_st (.iconst 0) 1 80 L S M) 169 81 M Q := T_at zk169 rfl
theorem zT169_81 : TT 169 81 L S M Q = TR (z_st (.ret 1) 1 81 L S M) 169 82 M Q := T_at zk169 rfl
set_option maxRecDepth 100000 in
theorem zk170 : z_coL.getD 170 [] = zc170 := rfl
theorem zT170_0 : TT 170 0 L S M Q = TR (z_st (.iload 0) 1 0 L S M) 170 1 M Q := T_at zk170 rfl
theorem zT170_1 : TT 170 1 L S M Q = TR (z_st (.ifCond .lt 14) 3 1 L S M) 170 4 M Q := T_at zk170 rfl
theorem zT170_4 : TT 170 4 L S M Q = TR (z_st (.iload 0) 1 4 L S M) 170 5 M Q := T_at zk170 rfl
theorem zT170_5 : TT 170 5 L S M Q = TR (z_st (.iconst 6) 2 5 L S M) 170 7 M Q := T_at zk170 rfl
theorem zT170_7 : TT 170 7 L S M Q = TR (z_st (.if_icmp .ge 14) 3 7 L S M) 170 10 M Q := T_at zk170 rfl
theorem zT170_10 : TT 170 10 L S M Q = TR (z_st (.iconst 1) 1 10 L S M) 170 11 M Q := T_at zk170 rfl
theorem zT170_11 : TT 170 11 L S M Q = TR (z_st (.goto 15) 3 11 L S M) 170 14 M Q := T_at zk170 rfl
theorem zT170_14 : TT 170 14 L S M Q = TR (z_st (.iconst 0) 1 14 L S M) 170 15 M Q := T_at zk170 rfl
theorem zT170_15 : TT 170 15 L S M Q = TR (z_st (.ret 1) 1 15 L S M) 170 16 M Q := T_at zk170 rfl
set_option maxRecDepth 100000 in
theorem zk171 : z_coL.getD 171 [] = zc171 := rfl
theorem zT171_0 : TT 171 0 L S M Q = TR (z_st (.iload 0) 1 0 L S M) 171 1 M Q := T_at zk171 rfl
theorem zT171_1 : TT 171 1 L S M Q = TR (z_st (.invokestatic 170) 3 1 L S M) 171 4 M Q := T_at zk171 rfl
theorem zT171_4 : TT 171 4 L S M Q = TR (z_st (.ifCond .eq 23) 3 4 L S M) 171 7 M Q := T_at zk171 rfl
theorem zT171_7 : TT 171 7 L S M Q = TR (z_st (.iload 0) 1 7 L S M) 171 8 M Q := T_at zk171 rfl
theorem zT171_8 : TT 171 8 L S M Q = TR (z_st (.iload 1) 1 8 L S M) 171 9 M Q := T_at zk171 rfl
theorem zT171_9 : TT 171 9 L S M Q = TR (z_st (.invokestatic 173) 3 9 L S M) 171 12 M Q := T_at zk171 rfl
theorem zT171_12 : TT 171 12 L S M Q = TR (z_st (.ifCond .ne 23) 3 12 L S M) 171 15 M Q := T_at zk171 rfl
theorem zT171_15 : TT 171 15 L S M Q = TR (z_st (.ldc 1) 3 15 L S M) 171 18 M Q := T_at zk171 rfl
theorem zT171_18 : TT 171 18 L S M Q = TR (z_st (.iload 0) 1 18 L S M) 171 19 M Q := T_at zk171 rfl
theorem zT171_19 : TT 171 19 L S M Q = TR (z_st (.iaload) 1 19 L S M) 171 20 M Q := T_at zk171 rfl
theorem zT171_20 : TT 171 20 L S M Q = TR (z_st (.goto 24) 3 20 L S M) 171 23 M Q := T_at zk171 rfl
theorem zT171_23 : TT 171 23 L S M Q = TR (z_st (.iconst 0) 1 23 L S M) 171 24 M Q := T_at zk171 rfl
theorem zT171_24 : TT 171 24 L S M Q = TR (z_st (.ret 0) 1 24 L S M) 171 25 M Q := T_at zk171 rfl
set_option maxRecDepth 100000 in
theorem zk172 : z_coL.getD 172 [] = zc172 := rfl
theorem zT172_0 : TT 172 0 L S M Q = TR (z_st (.iload 0) 1 0 L S M) 172 1 M Q := T_at zk172 rfl
theorem zT172_1 : TT 172 1 L S M Q = TR (z_st (.invokestatic 170) 3 1 L S M) 172 4 M Q := T_at zk172 rfl
theorem zT172_4 : TT 172 4 L S M Q = TR (z_st (.ifCond .eq 23) 3 4 L S M) 172 7 M Q := T_at zk172 rfl
theorem zT172_7 : TT 172 7 L S M Q = TR (z_st (.iload 0) 1 7 L S M) 172 8 M Q := T_at zk172 rfl
theorem zT172_8 : TT 172 8 L S M Q = TR (z_st (.iload 1) 1 8 L S M) 172 9 M Q := T_at zk172 rfl
theorem zT172_9 : TT 172 9 L S M Q = TR (z_st (.invokestatic 173) 3 9 L S M) 172 12 M Q := T_at zk172 rfl
theorem zT172_12 : TT 172 12 L S M Q = TR (z_st (.ifCond .ne 23) 3 12 L S M) 172 15 M Q := T_at zk172 rfl
theorem zT172_15 : TT 172 15 L S M Q = TR (z_st (.ldc 2) 3 15 L S M) 172 18 M Q := T_at zk172 rfl
theorem zT172_18 : TT 172 18 L S M Q = TR (z_st (.iload 0) 1 18 L S M) 172 19 M Q := T_at zk172 rfl
theorem zT172_19 : TT 172 19 L S M Q = TR (z_st (.iaload) 1 19 L S M) 172 20 M Q := T_at zk172 rfl
theorem zT172_20 : TT 172 20 L S M Q = TR (z_st (.goto 24) 3 20 L S M) 172 23 M Q := T_at zk172 rfl
theorem zT172_23 : TT 172 23 L S M Q = TR (z_st (.iconst 0) 1 23 L S M) 172 24 M Q := T_at zk172 rfl
theorem zT172_24 : TT 172 24 L S M Q = TR (z_st (.ret 0) 1 24 L S M) 172 25 M Q := T_at zk172 rfl
set_option maxRecDepth 100000 in
theorem zk173 : z_coL.getD 173 [] = zc173 := rfl
theorem zT173_0 : TT 173 0 L S M Q = TR (z_st (.iload 1) 1 0 L S M) 173 1 M Q := T_at zk173 rfl
theorem zT173_1 : TT 173 1 L S M Q = TR (z_st (.ifCond .eq 13) 3 1 L S M) 173 4 M Q := T_at zk173 rfl
theorem zT173_4 : TT 173 4 L S M Q = TR (z_st (.iload 0) 1 4 L S M) 173 5 M Q := T_at zk173 rfl
theorem zT173_5 : TT 173 5 L S M Q = TR (z_st (.iconst 4) 1 5 L S M) 173 6 M Q := T_at zk173 rfl
theorem zT173_6 : TT 173 6 L S M Q = TR (z_st (.if_icmp .ne 13) 3 6 L S M) 173 9 M Q := T_at zk173 rfl
theorem zT173_9 : TT 173 9 L S M Q = TR (z_st (.iconst 1) 1 9 L S M) 173 10 M Q := T_at zk173 rfl
theorem zT173_10 : TT 173 10 L S M Q = TR (z_st (.goto 14) 3 10 L S M) 173 13 M Q := T_at zk173 rfl
theorem zT173_13 : TT 173 13 L S M Q = TR (z_st (.iconst 0) 1 13 L S M) 173 14 M Q := T_at zk173 rfl
theorem zT173_14 : TT 173 14 L S M Q = TR (z_st (.ret 1) 1 14 L S M) 173 15 M Q := T_at zk173 rfl
set_option maxRecDepth 100000 in
theorem zk174 : z_coL.getD 174 [] = zc174 := rfl
theorem zT174_0 : TT 174 0 L S M Q = TR (z_st (.iload 0) 1 0 L S M) 174 1 M Q := T_at zk174 rfl
theorem zT174_1 : TT 174 1 L S M Q = TR (z_st (.iconst 2) 1 1 L S M) 174 2 M Q := T_at zk174 rfl
theorem zT174_2 : TT 174 2 L S M Q = TR (z_st (.if_icmp .eq 14) 3 2 L S M) 174 5 M Q := T_at zk174 rfl
theorem zT174_5 : TT 174 5 L S M Q = TR (z_st (.iload 0) 1 5 L S M) 174 6 M Q := T_at zk174 rfl
theorem zT174_6 : TT 174 6 L S M Q = TR (z_st (.iconst 5) 1 6 L S M) 174 7 M Q := T_at zk174 rfl
theorem zT174_7 : TT 174 7 L S M Q = TR (z_st (.if_icmp .eq 14) 3 7 L S M) 174 10 M Q := T_at zk174 rfl
theorem zT174_10 : TT 174 10 L S M Q = TR (z_st (.iconst 1) 1 10 L S M) 174 11 M Q := T_at zk174 rfl
theorem zT174_11 : TT 174 11 L S M Q = TR (z_st (.goto 15) 3 11 L S M) 174 14 M Q := T_at zk174 rfl
theorem zT174_14 : TT 174 14 L S M Q = TR (z_st (.iconst 0) 1 14 L S M) 174 15 M Q := T_at zk174 rfl
theorem zT174_15 : TT 174 15 L S M Q = TR (z_st (.ret 1) 1 15 L S M) 174 16 M Q := T_at zk174 rfl
set_option maxRecDepth 100000 in
theorem zk175 : z_coL.getD 175 [] = zc175 := rfl
theorem zT175_0 : TT 175 0 L S M Q = TR (z_st (.aload 0) 1 0 L S M) 175 1 M Q := T_at zk175 rfl
theorem zT175_1 : TT 175 1 L S M Q = TR (z_st (.athrow) 3 1 L S M) 175 4 M Q := T_at zk175 rfl
theorem zT175_4 : TT 175 4 L S M Q = TR (z_st (.aload 0) 1 4 L S M) 175 5 M Q := T_at zk175 rfl
theorem zT175_5 : TT 175 5 L S M Q = TR (z_st (.iconst 6) 2 5 L S M) 175 7 M Q := T_at zk175 rfl
theorem zT175_7 : TT 175 7 L S M Q = TR (z_st (.newarray .int) 2 7 L S M) 175 9 M Q := T_at zk175 rfl
theorem zT175_9 : TT 175 9 L S M Q = TR (z_st (.fstore 41) 3 9 L S M) 175 12 M Q := T_at zk175 rfl
theorem zT175_12 : TT 175 12 L S M Q = TR (z_st (.aload 0) 1 12 L S M) 175 13 M Q := T_at zk175 rfl
theorem zT175_13 : TT 175 13 L S M Q = TR (z_st (.iconst 6) 2 13 L S M) 175 15 M Q := T_at zk175 rfl
theorem zT175_15 : TT 175 15 L S M Q = TR (z_st (.newarray .int) 2 15 L S M) 175 17 M Q := T_at zk175 rfl
theorem zT175_17 : TT 175 17 L S M Q = TR (z_st (.fstore 42) 3 17 L S M) 175 20 M Q := T_at zk175 rfl
theorem zT175_20 : TT 175 20 L S M Q = TR (z_st (.aload 0) 1 20 L S M) 175 21 M Q := T_at zk175 rfl
theorem zT175_21 : TT 175 21 L S M Q = TR (z_st (.iconst 3) 1 21 L S M) 175 22 M Q := T_at zk175 rfl
theorem zT175_22 : TT 175 22 L S M Q = TR (z_st (.anewarray 4) 3 22 L S M) 175 25 M Q := T_at zk175 rfl
theorem zT175_25 : TT 175 25 L S M Q = TR (z_st (.fstore 44) 3 25 L S M) 175 28 M Q := T_at zk175 rfl
theorem zT175_28 : TT 175 28 L S M Q = TR (z_st (.aload 0) 1 28 L S M) 175 29 M Q := T_at zk175 rfl
theorem zT175_29 : TT 175 29 L S M Q = TR (z_st (.iconst 2) 1 29 L S M) 175 30 M Q := T_at zk175 rfl
theorem zT175_30 : TT 175 30 L S M Q = TR (z_st (.putfield 46) 3 30 L S M) 175 33 M Q := T_at zk175 rfl
theorem zT175_33 : TT 175 33 L S M Q = TR (z_st (.aload 0) 1 33 L S M) 175 34 M Q := T_at zk175 rfl
theorem zT175_34 : TT 175 34 L S M Q = TR (z_st (.iconst 45) 2 34 L S M) 175 36 M Q := T_at zk175 rfl
theorem zT175_36 : TT 175 36 L S M Q = TR (z_st (.newarray .int) 2 36 L S M) 175 38 M Q := T_at zk175 rfl
theorem zT175_38 : TT 175 38 L S M Q = TR (z_st (.fstore 48) 3 38 L S M) 175 41 M Q := T_at zk175 rfl
theorem zT175_41 : TT 175 41 L S M Q = TR (z_st (.iconst 0) 1 41 L S M) 175 42 M Q := T_at zk175 rfl
theorem zT175_42 : TT 175 42 L S M Q = TR (z_st (.istore 1) 1 42 L S M) 175 43 M Q := T_at zk175 rfl
theorem zT175_43 : TT 175 43 L S M Q = TR (z_st (.iload 1) 1 43 L S M) 175 44 M Q := T_at zk175 rfl
theorem zT175_44 : TT 175 44 L S M Q = TR (z_st (.iconst 3) 1 44 L S M) 175 45 M Q := T_at zk175 rfl
theorem zT175_45 : TT 175 45 L S M Q = TR (z_st (.if_icmp .ge 67) 3 45 L S M) 175 48 M Q := T_at zk175 rfl
theorem zT175_48 : TT 175 48 L S M Q = TR (z_st (.aload 0) 1 48 L S M) 175 49 M Q := T_at zk175 rfl
theorem zT175_49 : TT 175 49 L S M Q = TR (z_st (.fload 44) 3 49 L S M) 175 52 M Q := T_at zk175 rfl
theorem zT175_52 : TT 175 52 L S M Q = TR (z_st (.iload 1) 1 52 L S M) 175 53 M Q := T_at zk175 rfl
theorem zT175_53 : TT 175 53 L S M Q = TR (z_st (.new 3) 3 53 L S M) 175 56 M Q := T_at zk175 rfl
theorem zT175_56 : TT 175 56 L S M Q = TR (z_st (.dup) 1 56 L S M) 175 57 M Q := T_at zk175 rfl
theorem zT175_57 : TT 175 57 L S M Q = TR (z_st (.invokespecial 149) 3 57 L S M) 175 60 M Q := T_at zk175 rfl
theorem zT175_60 : TT 175 60 L S M Q = TR (z_st (.aastore) 1 60 L S M) 175 61 M Q := T_at zk175 rfl
theorem zT175_61 : TT 175 61 L S M Q = TR (z_st (.iinc 1 1) 3 61 L S M) 175 64 M Q := T_at zk175 rfl
theorem zT175_64 : TT 175 64 L S M Q = TR (z_st (.goto 43) 3 64 L S M) 175 67 M Q := T_at zk175 rfl
theorem zT175_67 : TT 175 67 L S M Q = TR (z_st (.return_) 1 67 L S M) 175 68 M Q := T_at zk175 rfl
set_option maxRecDepth 100000 in
theorem zk176 : z_coL.getD 176 [] = zc176 := rfl
theorem zT176_0 : TT 176 0 L S M Q = TR (z_st (.aload 0) 1 0 L S M) 176 1 M Q := T_at zk176 rfl
theorem zT176_1 : TT 176 1 L S M Q = TR (z_st (.iconst 0) 1 1 L S M) 176 2 M Q := T_at zk176 rfl
theorem zT176_2 : TT 176 2 L S M Q = TR (z_st (.putfield 43) 3 2 L S M) 176 5 M Q := T_at zk176 rfl
theorem zT176_5 : TT 176 5 L S M Q = TR (z_st (.aload 0) 1 5 L S M) 176 6 M Q := T_at zk176 rfl
theorem zT176_6 : TT 176 6 L S M Q = TR (z_st (.iconst 0) 1 6 L S M) 176 7 M Q := T_at zk176 rfl
theorem zT176_7 : TT 176 7 L S M Q = TR (z_st (.putfield 45) 3 7 L S M) 176 10 M Q := T_at zk176 rfl
theorem zT176_10 : TT 176 10 L S M Q = TR (z_st (.aload 0) 1 10 L S M) 176 11 M Q := T_at zk176 rfl
theorem zT176_11 : TT 176 11 L S M Q = TR (z_st (.iconst 2) 1 11 L S M) 176 12 M Q := T_at zk176 rfl
theorem zT176_12 : TT 176 12 L S M Q = TR (z_st (.putfield 46) 3 12 L S M) 176 15 M Q := T_at zk176 rfl
theorem zT176_15 : TT 176 15 L S M Q = TR (z_st (.aload 0) 1 15 L S M) 176 16 M Q := T_at zk176 rfl
theorem zT176_16 : TT 176 16 L S M Q = TR (z_st (.iconst 0) 1 16 L S M) 176 17 M Q := T_at zk176 rfl
theorem zT176_17 : TT 176 17 L S M Q = TR (z_st (.putfield 47) 3 17 L S M) 176 20 M Q := T_at zk176 rfl
theorem zT176_20 : TT 176 20 L S M Q = TR (z_st (.iconst 0) 1 20 L S M) 176 21 M Q := T_at zk176 rfl
theorem zT176_21 : TT 176 21 L S M Q = TR (z_st (.istore 1) 1 21 L S M) 176 22 M Q := T_at zk176 rfl
theorem zT176_22 : TT 176 22 L S M Q = TR (z_st (.iload 1) 1 22 L S M) 176 23 M Q := T_at zk176 rfl
theorem zT176_23 : TT 176 23 L S M Q = TR (z_st (.iconst 3) 1 23 L S M) 176 24 M Q := T_at zk176 rfl
theorem zT176_24 : TT 176 24 L S M Q = TR (z_st (.if_icmp .ge 43) 3 24 L S M) 176 27 M Q := T_at zk176 rfl
theorem zT176_27 : TT 176 27 L S M Q = TR (z_st (.aload 0) 1 27 L S M) 176 28 M Q := T_at zk176 rfl
theorem zT176_28 : TT 176 28 L S M Q = TR (z_st (.fload 44) 3 28 L S M) 176 31 M Q := T_at zk176 rfl
theorem zT176_31 : TT 176 31 L S M Q = TR (z_st (.iload 1) 1 31 L S M) 176 32 M Q := T_at zk176 rfl
theorem zT176_32 : TT 176 32 L S M Q = TR (z_st (.aaload) 1 32 L S M) 176 33 M Q := T_at zk176 rfl
theorem zT176_33 : TT 176 33 L S M Q = TR (z_st (.iconst 0) 1 33 L S M) 176 34 M Q := T_at zk176 rfl
theorem zT176_34 : TT 176 34 L S M Q = TR (z_st (.putfield 32) 3 34 L S M) 176 37 M Q := T_at zk176 rfl
theorem zT176_37 : TT 176 37 L S M Q = TR (z_st (.iinc 1 1) 3 37 L S M) 176 40 M Q := T_at zk176 rfl
theorem zT176_40 : TT 176 40 L S M Q = TR (z_st (.goto 22) 3 40 L S M) 176 43 M Q := T_at zk176 rfl
theorem zT176_43 : TT 176 43 L S M Q = TR (z_st (.aload 0) 1 43 L S M) 176 44 M Q := T_at zk176 rfl
theorem zT176_44 : TT 176 44 L S M Q = TR (z_st (.invokevirtual 183) 3 44 L S M) 176 47 M Q := T_at zk176 rfl
theorem zT176_47 : TT 176 47 L S M Q = TR (z_st (.return_) 1 47 L S M) 176 48 M Q := T_at zk176 rfl
set_option maxRecDepth 100000 in
theorem zk177 : z_coL.getD 177 [] = zc177 := rfl
theorem zT177_0 : TT 177 0 L S M Q = TR (z_st (.aload 1) 1 0 L S M) 177 1 M Q := T_at zk177 rfl
theorem zT177_1 : TT 177 1 L S M Q = TR (z_st (.fload 41) 3 1 L S M) 177 4 M Q := T_at zk177 rfl
theorem zT177_4 : TT 177 4 L S M Q = TR (z_st (.iconst 0) 1 4 L S M) 177 5 M Q := T_at zk177 rfl
theorem zT177_5 : TT 177 5 L S M Q = TR (z_st (.aload 0) 1 5 L S M) 177 6 M Q := T_at zk177 rfl
theorem zT177_6 : TT 177 6 L S M Q = TR (z_st (.fload 41) 3 6 L S M) 177 9 M Q := T_at zk177 rfl
theorem zT177_9 : TT 177 9 L S M Q = TR (z_st (.iconst 0) 1 9 L S M) 177 10 M Q := T_at zk177 rfl
theorem zT177_10 : TT 177 10 L S M Q = TR (z_st (.iconst 6) 2 10 L S M) 177 12 M Q := T_at zk177 rfl
theorem zT177_12 : TT 177 12 L S M Q = TR (z_st (.monitorenter) 3 12 L S M) 177 15 M Q := T_at zk177 rfl
theorem zT177_15 : TT 177 15 L S M Q = TR (z_st (.aload 1) 1 15 L S M) 177 16 M Q := T_at zk177 rfl
theorem zT177_16 : TT 177 16 L S M Q = TR (z_st (.fload 42) 3 16 L S M) 177 19 M Q := T_at zk177 rfl
theorem zT177_19 : TT 177 19 L S M Q = TR (z_st (.iconst 0) 1 19 L S M) 177 20 M Q := T_at zk177 rfl
theorem zT177_20 : TT 177 20 L S M Q = TR (z_st (.aload 0) 1 20 L S M) 177 21 M Q := T_at zk177 rfl
theorem zT177_21 : TT 177 21 L S M Q = TR (z_st (.fload 42) 3 21 L S M) 177 24 M Q := T_at zk177 rfl
theorem zT177_24 : TT 177 24 L S M Q = TR (z_st (.iconst 0) 1 24 L S M) 177 25 M Q := T_at zk177 rfl
theorem zT177_25 : TT 177 25 L S M Q = TR (z_st (.iconst 6) 2 25 L S M) 177 27 M Q := T_at zk177 rfl
theorem zT177_27 : TT 177 27 L S M Q = TR (z_st (.monitorenter) 3 27 L S M) 177 30 M Q := T_at zk177 rfl
theorem zT177_30 : TT 177 30 L S M Q = TR (z_st (.aload 0) 1 30 L S M) 177 31 M Q := T_at zk177 rfl
theorem zT177_31 : TT 177 31 L S M Q = TR (z_st (.aload 1) 1 31 L S M) 177 32 M Q := T_at zk177 rfl
theorem zT177_32 : TT 177 32 L S M Q = TR (z_st (.getfield 43) 3 32 L S M) 177 35 M Q := T_at zk177 rfl
theorem zT177_35 : TT 177 35 L S M Q = TR (z_st (.putfield 43) 3 35 L S M) 177 38 M Q := T_at zk177 rfl
theorem zT177_38 : TT 177 38 L S M Q = TR (z_st (.iconst 0) 1 38 L S M) 177 39 M Q := T_at zk177 rfl
theorem zT177_39 : TT 177 39 L S M Q = TR (z_st (.istore 2) 1 39 L S M) 177 40 M Q := T_at zk177 rfl
theorem zT177_40 : TT 177 40 L S M Q = TR (z_st (.iload 2) 1 40 L S M) 177 41 M Q := T_at zk177 rfl
theorem zT177_41 : TT 177 41 L S M Q = TR (z_st (.iconst 3) 1 41 L S M) 177 42 M Q := T_at zk177 rfl
theorem zT177_42 : TT 177 42 L S M Q = TR (z_st (.if_icmp .ge 66) 3 42 L S M) 177 45 M Q := T_at zk177 rfl
theorem zT177_45 : TT 177 45 L S M Q = TR (z_st (.aload 0) 1 45 L S M) 177 46 M Q := T_at zk177 rfl
theorem zT177_46 : TT 177 46 L S M Q = TR (z_st (.fload 44) 3 46 L S M) 177 49 M Q := T_at zk177 rfl
theorem zT177_49 : TT 177 49 L S M Q = TR (z_st (.iload 2) 1 49 L S M) 177 50 M Q := T_at zk177 rfl
theorem zT177_50 : TT 177 50 L S M Q = TR (z_st (.aaload) 1 50 L S M) 177 51 M Q := T_at zk177 rfl
theorem zT177_51 : TT 177 51 L S M Q = TR (z_st (.aload 1) 1 51 L S M) 177 52 M Q := T_at zk177 rfl
theorem zT177_52 : TT 177 52 L S M Q = TR (z_st (.fload 44) 3 52 L S M) 177 55 M Q := T_at zk177 rfl
theorem zT177_55 : TT 177 55 L S M Q = TR (z_st (.iload 2) 1 55 L S M) 177 56 M Q := T_at zk177 rfl
theorem zT177_56 : TT 177 56 L S M Q = TR (z_st (.aaload) 1 56 L S M) 177 57 M Q := T_at zk177 rfl
theorem zT177_57 : TT 177 57 L S M Q = TR (z_st (.invokevirtual 151) 3 57 L S M) 177 60 M Q := T_at zk177 rfl
theorem zT177_60 : TT 177 60 L S M Q = TR (z_st (.iinc 2 1) 3 60 L S M) 177 63 M Q := T_at zk177 rfl
theorem zT177_63 : TT 177 63 L S M Q = TR (z_st (.goto 40) 3 63 L S M) 177 66 M Q := T_at zk177 rfl
theorem zT177_66 : TT 177 66 L S M Q = TR (z_st (.aload 0) 1 66 L S M) 177 67 M Q := T_at zk177 rfl
theorem zT177_67 : TT 177 67 L S M Q = TR (z_st (.aload 1) 1 67 L S M) 177 68 M Q := T_at zk177 rfl
theorem zT177_68 : TT 177 68 L S M Q = TR (z_st (.getfield 45) 3 68 L S M) 177 71 M Q := T_at zk177 rfl
theorem zT177_71 : TT 177 71 L S M Q = TR (z_st (.putfield 45) 3 71 L S M) 177 74 M Q := T_at zk177 rfl
theorem zT177_74 : TT 177 74 L S M Q = TR (z_st (.aload 0) 1 74 L S M) 177 75 M Q := T_at zk177 rfl
theorem zT177_75 : TT 177 75 L S M Q = TR (z_st (.aload 1) 1 75 L S M) 177 76 M Q := T_at zk177 rfl
theorem zT177_76 : TT 177 76 L S M Q = TR (z_st (.getfield 46) 3 76 L S M) 177 79 M Q := T_at zk177 rfl
theorem zT177_79 : TT 177 79 L S M Q = TR (z_st (.putfield 46) 3 79 L S M) 177 82 M Q := T_at zk177 rfl
theorem zT177_82 : TT 177 82 L S M Q = TR (z_st (.aload 0) 1 82 L S M) 177 83 M Q := T_at zk177 rfl
theorem zT177_83 : TT 177 83 L S M Q = TR (z_st (.aload 1) 1 83 L S M) 177 84 M Q := T_at zk177 rfl
theorem zT177_84 : TT 177 84 L S M Q = TR (z_st (.getfield 47) 3 84 L S M) 177 87 M Q := T_at zk177 rfl
theorem zT177_87 : TT 177 87 L S M Q = TR (z_st (.putfield 47) 3 87 L S M) 177 90 M Q := T_at zk177 rfl
theorem zT177_90 : TT 177 90 L S M Q = TR (z_st (.aload 1) 1 90 L S M) 177 91 M Q := T_at zk177 rfl
theorem zT177_91 : TT 177 91 L S M Q = TR (z_st (.fload 48) 3 91 L S M) 177 94 M Q := T_at zk177 rfl
theorem zT177_94 : TT 177 94 L S M Q = TR (z_st (.iconst 0) 1 94 L S M) 177 95 M Q := T_at zk177 rfl
theorem zT177_95 : TT 177 95 L S M Q = TR (z_st (.aload 0) 1 95 L S M) 177 96 M Q := T_at zk177 rfl
theorem zT177_96 : TT 177 96 L S M Q = TR (z_st (.fload 48) 3 96 L S M) 177 99 M Q := T_at zk177 rfl
theorem zT177_99 : TT 177 99 L S M Q = TR (z_st (.iconst 0) 1 99 L S M) 177 100 M Q := T_at zk177 rfl
theorem zT177_100 : TT 177 100 L S M Q = TR (z_st (.iconst 45) 2 100 L S M) 177 102 M Q := T_at zk177 rfl
theorem zT177_102 : TT 177 102 L S M Q = TR (z_st (.monitorenter) 3 102 L S M) 177 105 M Q := T_at zk177 rfl
theorem zT177_105 : TT 177 105 L S M Q = TR (z_st (.aload 0) 1 105 L S M) 177 106 M Q := T_at zk177 rfl
theorem zT177_106 : TT 177 106 L S M Q = TR (z_st (.aload 1) 1 106 L S M) 177 107 M Q := T_at zk177 rfl
theorem zT177_107 : TT 177 107 L S M Q = TR (z_st (.getfield 49) 3 107 L S M) 177 110 M Q := T_at zk177 rfl
theorem zT177_110 : TT 177 110 L S M Q = TR (z_st (.putfield 49) 3 110 L S M) 177 113 M Q := T_at zk177 rfl
theorem zT177_113 : TT 177 113 L S M Q = TR (z_st (.return_) 1 113 L S M) 177 114 M Q := T_at zk177 rfl
set_option maxRecDepth 100000 in
theorem zk178 : z_coL.getD 178 [] = zc178 := rfl
theorem zT178_0 : TT 178 0 L S M Q = TR (z_st (.iload 1) 1 0 L S M) 178 1 M Q := T_at zk178 rfl
theorem zT178_1 : TT 178 1 L S M Q = TR (z_st (.invokestatic 170) 3 1 L S M) 178 4 M Q := T_at zk178 rfl
theorem zT178_4 : TT 178 4 L S M Q = TR (z_st (.ifCond .eq 17) 3 4 L S M) 178 7 M Q := T_at zk178 rfl
theorem zT178_7 : TT 178 7 L S M Q = TR (z_st (.iload 2) 1 7 L S M) 178 8 M Q := T_at zk178 rfl
theorem zT178_8 : TT 178 8 L S M Q = TR (z_st (.ifCond .lt 17) 3 8 L S M) 178 11 M Q := T_at zk178 rfl
theorem zT178_11 : TT 178 11 L S M Q = TR (z_st (.iload 2) 1 11 L S M) 178 12 M Q := T_at zk178 rfl
theorem zT178_12 : TT 178 12 L S M Q = TR (z_st (.iconst 9) 2 12 L S M) 178 14 M Q := T_at zk178 rfl
theorem zT178_14 : TT 178 14 L S M Q = TR (z_st (.if_icmp .le 20) 3 14 L S M) 178 17 M Q := T_at zk178 rfl
theorem zT178_17 : TT 178 17 L S M Q = TR (z_st (.iconst (-2)) 2 17 L S M) 178 19 M Q := T_at zk178 rfl
theorem zT178_19 : TT 178 19 L S M Q = TR (z_st (.ret 0) 1 19 L S M) 178 20 M Q := T_at zk178 rfl
theorem zT178_20 : TT 178 20 L S M Q = TR (z_st (.aload 0) 1 20 L S M) 178 21 M Q := T_at zk178 rfl
theorem zT178_21 : TT 178 21 L S M Q = TR (z_st (.getfield 43) 3 21 L S M) 178 24 M Q := T_at zk178 rfl
theorem zT178_24 : TT 178 24 L S M Q = TR (z_st (.iconst 6) 2 24 L S M) 178 26 M Q := T_at zk178 rfl
theorem zT178_26 : TT 178 26 L S M Q = TR (z_st (.if_icmp .lt 32) 3 26 L S M) 178 29 M Q := T_at zk178 rfl
theorem zT178_29 : TT 178 29 L S M Q = TR (z_st (.iconst (-4)) 2 29 L S M) 178 31 M Q := T_at zk178 rfl
theorem zT178_31 : TT 178 31 L S M Q = TR (z_st (.ret 0) 1 31 L S M) 178 32 M Q := T_at zk178 rfl
theorem zT178_32 : TT 178 32 L S M Q = TR (z_st (.aload 0) 1 32 L S M) 178 33 M Q := T_at zk178 rfl
theorem zT178_33 : TT 178 33 L S M Q = TR (z_st (.fload 41) 3 33 L S M) 178 36 M Q := T_at zk178 rfl
theorem zT178_36 : TT 178 36 L S M Q = TR (z_st (.aload 0) 1 36 L S M) 178 37 M Q := T_at zk178 rfl
theorem zT178_37 : TT 178 37 L S M Q = TR (z_st (.getfield 43) 3 37 L S M) 178 40 M Q := T_at zk178 rfl
theorem zT178_40 : TT 178 40 L S M Q = TR (z_st (.iload 1) 1 40 L S M) 178 41 M Q := T_at zk178 rfl
theorem zT178_41 : TT 178 41 L S M Q = TR (z_st (.iastore) 1 41 L S M) 178 42 M Q := T_at zk178 rfl
theorem zT178_42 : TT 178 42 L S M Q = TR (z_st (.aload 0) 1 42 L S M) 178 43 M Q := T_at zk178 rfl
theorem zT178_43 : TT 178 43 L S M Q = TR (z_st (.fload 42) 3 43 L S M) 178 46 M Q := T_at zk178 rfl
theorem zT178_46 : TT 178 46 L S M Q = TR (z_st (.aload 0) 1 46 L S M) 178 47 M Q := T_at zk178 rfl
theorem zT178_47 : TT 178 47 L S M Q = TR (z_st (.getfield 43) 3 47 L S M) 178 50 M Q := T_at zk178 rfl
theorem zT178_50 : TT 178 50 L S M Q = TR (z_st (.iload 2) 1 50 L S M) 178 51 M Q := T_at zk178 rfl
theorem zT178_51 : TT 178 51 L S M Q = TR (z_st (.iastore) 1 51 L S M) 178 52 M Q := T_at zk178 rfl
theorem zT178_52 : TT 178 52 L S M Q = TR (z_st (.aload 0) 1 52 L S M) 178 53 M Q := T_at zk178 rfl
theorem zT178_53 : TT 178 53 L S M Q = TR (z_st (.dup) 1 53 L S M) 178 54 M Q := T_at zk178 rfl
theorem zT178_54 : TT 178 54 L S M Q = TR (z_st (.getfield 43) 3 54 L S M) 178 57 M Q := T_at zk178 rfl
theorem zT178_57 : TT 178 57 L S M Q = TR (z_st (.iconst 1) 1 57 L S M) 178 58 M Q := T_at zk178 rfl
theorem zT178_58 : TT 178 58 L S M Q = TR (z_st (.iadd) 1 58 L S M) 178 59 M Q := T_at zk178 rfl
theorem zT178_59 : TT 178 59 L S M Q = TR (z_st (.putfield 43) 3 59 L S M) 178 62 M Q := T_at zk178 rfl
theorem zT178_62 : TT 178 62 L S M Q = TR (z_st (.aload 0) 1 62 L S M) 178 63 M Q := T_at zk178 rfl
theorem zT178_63 : TT 178 63 L S M Q = TR (z_st (.invokevirtual 183) 3 63 L S M) 178 66 M Q := T_at zk178 rfl
theorem zT178_66 : TT 178 66 L S M Q = TR (z_st (.aload 0) 1 66 L S M) 178 67 M Q := T_at zk178 rfl
theorem zT178_67 : TT 178 67 L S M Q = TR (z_st (.getfield 43) 3 67 L S M) 178 70 M Q := T_at zk178 rfl
theorem zT178_70 : TT 178 70 L S M Q = TR (z_st (.iconst 1) 1 70 L S M) 178 71 M Q := T_at zk178 rfl
theorem zT178_71 : TT 178 71 L S M Q = TR (z_st (.isub) 1 71 L S M) 178 72 M Q := T_at zk178 rfl
theorem zT178_72 : TT 178 72 L S M Q = TR (z_st (.ret 0) 1 72 L S M) 178 73 M Q := T_at zk178 rfl
set_option maxRecDepth 100000 in
theorem zk179 : z_coL.getD 179 [] = zc179 := rfl
theorem zT179_0 : TT 179 0 L S M Q = TR (z_st (.aload 0) 1 0 L S M) 179 1 M Q := T_at zk179 rfl
theorem zT179_1 : TT 179 1 L S M Q = TR (z_st (.getfield 45) 3 1 L S M) 179 4 M Q := T_at zk179 rfl
theorem zT179_4 : TT 179 4 L S M Q = TR (z_st (.iconst 3) 1 4 L S M) 179 5 M Q := T_at zk179 rfl
theorem zT179_5 : TT 179 5 L S M Q = TR (z_st (.if_icmp .lt 11) 3 5 L S M) 179 8 M Q := T_at zk179 rfl
theorem zT179_8 : TT 179 8 L S M Q = TR (z_st (.iconst (-4)) 2 8 L S M) 179 10 M Q := T_at zk179 rfl
theorem zT179_10 : TT 179 10 L S M Q = TR (z_st (.ret 0) 1 10 L S M) 179 11 M Q := T_at zk179 rfl
theorem zT179_11 : TT 179 11 L S M Q = TR (z_st (.aload 0) 1 11 L S M) 179 12 M Q := T_at zk179 rfl
theorem zT179_12 : TT 179 12 L S M Q = TR (z_st (.dup) 1 12 L S M) 179 13 M Q := T_at zk179 rfl
theorem zT179_13 : TT 179 13 L S M Q = TR (z_st (.getfield 45) 3 13 L S M) 179 16 M Q := T_at zk179 rfl
theorem zT179_16 : TT 179 16 L S M Q = TR (z_st (.iconst 1) 1 16 L S M) 179 17 M Q := T_at zk179 rfl
theorem zT179_17 : TT 179 17 L S M Q = TR (z_st (.iadd) 1 17 L S M) 179 18 M Q := T_at zk179 rfl
theorem zT179_18 : TT 179 18 L S M Q = TR (z_st (.putfield 45) 3 18 L S M) 179 21 M Q := T_at zk179 rfl
theorem zT179_21 : TT 179 21 L S M Q = TR (z_st (.aload 0) 1 21 L S M) 179 22 M Q := T_at zk179 rfl
theorem zT179_22 : TT 179 22 L S M Q = TR (z_st (.invokevirtual 183) 3 22 L S M) 179 25 M Q := T_at zk179 rfl
theorem zT179_25 : TT 179 25 L S M Q = TR (z_st (.aload 0) 1 25 L S M) 179 26 M Q := T_at zk179 rfl
theorem zT179_26 : TT 179 26 L S M Q = TR (z_st (.getfield 45) 3 26 L S M) 179 29 M Q := T_at zk179 rfl
theorem zT179_29 : TT 179 29 L S M Q = TR (z_st (.iconst 1) 1 29 L S M) 179 30 M Q := T_at zk179 rfl
theorem zT179_30 : TT 179 30 L S M Q = TR (z_st (.isub) 1 30 L S M) 179 31 M Q := T_at zk179 rfl
theorem zT179_31 : TT 179 31 L S M Q = TR (z_st (.ret 0) 1 31 L S M) 179 32 M Q := T_at zk179 rfl
set_option maxRecDepth 100000 in
theorem zk180 : z_coL.getD 180 [] = zc180 := rfl
theorem zT180_0 : TT 180 0 L S M Q = TR (z_st (.iload 2) 1 0 L S M) 180 1 M Q := T_at zk180 rfl
theorem zT180_1 : TT 180 1 L S M Q = TR (z_st (.ifCond .lt 28) 3 1 L S M) 180 4 M Q := T_at zk180 rfl
theorem zT180_4 : TT 180 4 L S M Q = TR (z_st (.iload 2) 1 4 L S M) 180 5 M Q := T_at zk180 rfl
theorem zT180_5 : TT 180 5 L S M Q = TR (z_st (.iconst 3) 1 5 L S M) 180 6 M Q := T_at zk180 rfl
theorem zT180_6 : TT 180 6 L S M Q = TR (z_st (.if_icmp .gt 28) 3 6 L S M) 180 9 M Q := T_at zk180 rfl
theorem zT180_9 : TT 180 9 L S M Q = TR (z_st (.iload 3) 1 9 L S M) 180 10 M Q := T_at zk180 rfl
theorem zT180_10 : TT 180 10 L S M Q = TR (z_st (.ifCond .lt 28) 3 10 L S M) 180 13 M Q := T_at zk180 rfl
theorem zT180_13 : TT 180 13 L S M Q = TR (z_st (.iload 3) 1 13 L S M) 180 14 M Q := T_at zk180 rfl
theorem zT180_14 : TT 180 14 L S M Q = TR (z_st (.iconst 3) 1 14 L S M) 180 15 M Q := T_at zk180 rfl
theorem zT180_15 : TT 180 15 L S M Q = TR (z_st (.if_icmp .gt 28) 3 15 L S M) 180 18 M Q := T_at zk180 rfl
theorem zT180_18 : TT 180 18 L S M Q = TR (z_st (.iload 2) 1 18 L S M) 180 19 M Q := T_at zk180 rfl
theorem zT180_19 : TT 180 19 L S M Q = TR (z_st (.iload 3) 1 19 L S M) 180 20 M Q := T_at zk180 rfl
theorem zT180_20 : TT 180 20 L S M Q = TR (z_st (.iadd) 1 20 L S M) 180 21 M Q := T_at zk180 rfl
theorem zT180_21 : TT 180 21 L S M Q = TR (z_st (.ifCond .le 28) 3 21 L S M) 180 24 M Q := T_at zk180 rfl
theorem zT180_24 : TT 180 24 L S M Q = TR (z_st (.iconst 1) 1 24 L S M) 180 25 M Q := T_at zk180 rfl
theorem zT180_25 : TT 180 25 L S M Q = TR (z_st (.goto 29) 3 25 L S M) 180 28 M Q := T_at zk180 rfl
theorem zT180_28 : TT 180 28 L S M Q = TR (z_st (.iconst 0) 1 28 L S M) 180 29 M Q := T_at zk180 rfl
theorem zT180_29 : TT 180 29 L S M Q = TR (z_st (.istore 6) 2 29 L S M) 180 31 M Q := T_at zk180 rfl
theorem zT180_31 : TT 180 31 L S M Q = TR (z_st (.aload 0) 1 31 L S M) 180 32 M Q := T_at zk180 rfl
theorem zT180_32 : TT 180 32 L S M Q = TR (z_st (.iload 1) 1 32 L S M) 180 33 M Q := T_at zk180 rfl
theorem zT180_33 : TT 180 33 L S M Q = TR (z_st (.invokevirtual 187) 3 33 L S M) 180 36 M Q := T_at zk180 rfl
theorem zT180_36 : TT 180 36 L S M Q = TR (z_st (.ifCond .eq 69) 3 36 L S M) 180 39 M Q := T_at zk180 rfl
theorem zT180_39 : TT 180 39 L S M Q = TR (z_st (.iload 6) 2 39 L S M) 180 41 M Q := T_at zk180 rfl
theorem zT180_41 : TT 180 41 L S M Q = TR (z_st (.ifCond .eq 69) 3 41 L S M) 180 44 M Q := T_at zk180 rfl
theorem zT180_44 : TT 180 44 L S M Q = TR (z_st (.iload 4) 2 44 L S M) 180 46 M Q := T_at zk180 rfl
theorem zT180_46 : TT 180 46 L S M Q = TR (z_st (.ifCond .lt 69) 3 46 L S M) 180 49 M Q := T_at zk180 rfl
theorem zT180_49 : TT 180 49 L S M Q = TR (z_st (.iload 4) 2 49 L S M) 180 51 M Q := T_at zk180 rfl
theorem zT180_51 : TT 180 51 L S M Q = TR (z_st (.iload 2) 1 51 L S M) 180 52 M Q := T_at zk180 rfl
theorem zT180_52 : TT 180 52 L S M Q = TR (z_st (.iload 3) 1 52 L S M) 180 53 M Q := T_at zk180 rfl
theorem zT180_53 : TT 180 53 L S M Q = TR (z_st (.iadd) 1 53 L S M) 180 54 M Q := T_at zk180 rfl
theorem zT180_54 : TT 180 54 L S M Q = TR (z_st (.if_icmp .gt 69) 3 54 L S M) 180 57 M Q := T_at zk180 rfl
theorem zT180_57 : TT 180 57 L S M Q = TR (z_st (.iload 5) 2 57 L S M) 180 59 M Q := T_at zk180 rfl
theorem zT180_59 : TT 180 59 L S M Q = TR (z_st (.iconst 1) 1 59 L S M) 180 60 M Q := T_at zk180 rfl
theorem zT180_60 : TT 180 60 L S M Q = TR (z_st (.if_icmp .lt 69) 3 60 L S M) 180 63 M Q := T_at zk180 rfl
theorem zT180_63 : TT 180 63 L S M Q = TR (z_st (.iload 5) 2 63 L S M) 180 65 M Q := T_at zk180 rfl
theorem zT180_65 : TT 180 65 L S M Q = TR (z_st (.iconst 5) 1 65 L S M) 180 66 M Q := T_at zk180 rfl
theorem zT180_66 : TT 180 66 L S M Q = TR (z_st (.if_icmp .le 72) 3 66 L S M) 180 69 M Q := T_at zk180 rfl
theorem zT180_69 : TT 180 69 L S M Q = TR (z_st (.iconst (-2)) 2 69 L S M) 180 71 M Q := T_at zk180 rfl
theorem zT180_71 : TT 180 71 L S M Q = TR (z_st (.ret 0) 1 71 L S M) 180 72 M Q := T_at zk180 rfl
theorem zT180_72 : TT 180 72 L S M Q = TR (z_st (.aload 0) 1 72 L S M) 180 73 M Q := T_at zk180 rfl
theorem zT180_73 : TT 180 73 L S M Q = TR (z_st (.fload 44) 3 73 L S M) 180 76 M Q := T_at zk180 rfl
theorem zT180_76 : TT 180 76 L S M Q = TR (z_st (.iload 1) 1 76 L S M) 180 77 M Q := T_at zk180 rfl
theorem zT180_77 : TT 180 77 L S M Q = TR (z_st (.aaload) 1 77 L S M) 180 78 M Q := T_at zk180 rfl
theorem zT180_78 : TT 180 78 L S M Q = TR (z_st (.getfield 32) 3 78 L S M) 180 81 M Q := T_at zk180 rfl
theorem zT180_81 : TT 180 81 L S M Q = TR (z_st (.iconst 3) 1 81 L S M) 180 82 M Q := T_at zk180 rfl
theorem zT180_82 : TT 180 82 L S M Q = TR (z_st (.if_icmp .lt 88) 3 82 L S M) 180 85 M Q := T_at zk180 rfl
theorem zT180_85 : TT 180 85 L S M Q = TR (z_st (.iconst (-4)) 2 85 L S M) 180 87 M Q := T_at zk180 rfl
theorem zT180_87 : TT 180 87 L S M Q = TR (z_st (.ret 0) 1 87 L S M) 180 88 M Q := T_at zk180 rfl
theorem zT180_88 : TT 180 88 L S M Q = TR (z_st (.aload 0) 1 88 L S M) 180 89 M Q := T_at zk180 rfl
theorem zT180_89 : TT 180 89 L S M Q = TR (z_st (.fload 44) 3 89 L S M) 180 92 M Q := T_at zk180 rfl
theorem zT180_92 : TT 180 92 L S M Q = TR (z_st (.iload 1) 1 92 L S M) 180 93 M Q := T_at zk180 rfl
theorem zT180_93 : TT 180 93 L S M Q = TR (z_st (.aaload) 1 93 L S M) 180 94 M Q := T_at zk180 rfl
theorem zT180_94 : TT 180 94 L S M Q = TR (z_st (.iload 2) 1 94 L S M) 180 95 M Q := T_at zk180 rfl
theorem zT180_95 : TT 180 95 L S M Q = TR (z_st (.iload 3) 1 95 L S M) 180 96 M Q := T_at zk180 rfl
theorem zT180_96 : TT 180 96 L S M Q = TR (z_st (.iload 4) 2 96 L S M) 180 98 M Q := T_at zk180 rfl
theorem zT180_98 : TT 180 98 L S M Q = TR (z_st (.iload 5) 2 98 L S M) 180 100 M Q := T_at zk180 rfl
theorem zT180_100 : TT 180 100 L S M Q = TR (z_st (.invokevirtual 150) 3 100 L S M) 180 103 M Q := T_at zk180 rfl
theorem zT180_103 : TT 180 103 L S M Q = TR (z_st (.aload 0) 1 103 L S M) 180 104 M Q := T_at zk180 rfl
theorem zT180_104 : TT 180 104 L S M Q = TR (z_st (.invokevirtual 183) 3 104 L S M) 180 107 M Q := T_at zk180 rfl
theorem zT180_107 : TT 180 107 L S M Q = TR (z_st (.aload 0) 1 107 L S M) 180 108 M Q := T_at zk180 rfl
theorem zT180_108 : TT 180 108 L S M Q = TR (z_st (.fload 44) 3 108 L S M) 180 111 M Q := T_at zk180 rfl
theorem zT180_111 : TT 180 111 L S M Q = TR (z_st (.iload 1) 1 111 L S M) 180 112 M Q := T_at zk180 rfl
theorem zT180_112 : TT 180 112 L S M Q = TR (z_st (.aaload) 1 112 L S M) 180 113 M Q := T_at zk180 rfl
theorem zT180_113 : TT 180 113 L S M Q = TR (z_st (.getfield 32) 3 113 L S M) 180 116 M Q := T_at zk180 rfl
theorem zT180_116 : TT 180 116 L S M Q = TR (z_st (.iconst 1) 1 116 L S M) 180 117 M Q := T_at zk180 rfl
theorem zT180_117 : TT 180 117 L S M Q = TR (z_st (.isub) 1 117 L S M) 180 118 M Q := T_at zk180 rfl
theorem zT180_118 : TT 180 118 L S M Q = TR (z_st (.ret 0) 1 118 L S M) 180 119 M Q := T_at zk180 rfl
set_option maxRecDepth 100000 in
theorem zk181 : z_coL.getD 181 [] = zc181 := rfl
theorem zT181_0 : TT 181 0 L S M Q = TR (z_st (.iload 1) 1 0 L S M) 181 1 M Q := T_at zk181 rfl
theorem zT181_1 : TT 181 1 L S M Q = TR (z_st (.ifCond .lt 10) 3 1 L S M) 181 4 M Q := T_at zk181 rfl
theorem zT181_4 : TT 181 4 L S M Q = TR (z_st (.iload 1) 1 4 L S M) 181 5 M Q := T_at zk181 rfl
theorem zT181_5 : TT 181 5 L S M Q = TR (z_st (.iconst 6) 2 5 L S M) 181 7 M Q := T_at zk181 rfl
theorem zT181_7 : TT 181 7 L S M Q = TR (z_st (.if_icmp .le 13) 3 7 L S M) 181 10 M Q := T_at zk181 rfl
theorem zT181_10 : TT 181 10 L S M Q = TR (z_st (.iconst (-2)) 2 10 L S M) 181 12 M Q := T_at zk181 rfl
theorem zT181_12 : TT 181 12 L S M Q = TR (z_st (.ret 0) 1 12 L S M) 181 13 M Q := T_at zk181 rfl
theorem zT181_13 : TT 181 13 L S M Q = TR (z_st (.aload 0) 1 13 L S M) 181 14 M Q := T_at zk181 rfl
theorem zT181_14 : TT 181 14 L S M Q = TR (z_st (.getfield 46) 3 14 L S M) 181 17 M Q := T_at zk181 rfl
theorem zT181_17 : TT 181 17 L S M Q = TR (z_st (.istore 2) 1 17 L S M) 181 18 M Q := T_at zk181 rfl
theorem zT181_18 : TT 181 18 L S M Q = TR (z_st (.aload 0) 1 18 L S M) 181 19 M Q := T_at zk181 rfl
theorem zT181_19 : TT 181 19 L S M Q = TR (z_st (.iload 1) 1 19 L S M) 181 20 M Q := T_at zk181 rfl
theorem zT181_20 : TT 181 20 L S M Q = TR (z_st (.putfield 46) 3 20 L S M) 181 23 M Q := T_at zk181 rfl
theorem zT181_23 : TT 181 23 L S M Q = TR (z_st (.aload 0) 1 23 L S M) 181 24 M Q := T_at zk181 rfl
theorem zT181_24 : TT 181 24 L S M Q = TR (z_st (.invokevirtual 183) 3 24 L S M) 181 27 M Q := T_at zk181 rfl
theorem zT181_27 : TT 181 27 L S M Q = TR (z_st (.iload 2) 1 27 L S M) 181 28 M Q := T_at zk181 rfl
theorem zT181_28 : TT 181 28 L S M Q = TR (z_st (.ret 0) 1 28 L S M) 181 29 M Q := T_at zk181 rfl
set_option maxRecDepth 100000 in
theorem zk182 : z_coL.getD 182 [] = zc182 := rfl
theorem zT182_0 : TT 182 0 L S M Q = TR (z_st (.aload 0) 1 0 L S M) 182 1 M Q := T_at zk182 rfl
theorem zT182_1 : TT 182 1 L S M Q = TR (z_st (.getfield 47) 3 1 L S M) 182 4 M Q := T_at zk182 rfl
theorem zT182_4 : TT 182 4 L S M Q = TR (z_st (.iload 1) 1 4 L S M) 182 5 M Q := T_at zk182 rfl
theorem zT182_5 : TT 182 5 L S M Q = TR (z_st (.if_icmp .ne 11) 3 5 L S M) 182 8 M Q := T_at zk182 rfl
theorem zT182_8 : TT 182 8 L S M Q = TR (z_st (.iconst (-3)) 2 8 L S M) 182 10 M Q := T_at zk182 rfl
theorem zT182_10 : TT 182 10 L S M Q = TR (z_st (.ret 0) 1 10 L S M) 182 11 M Q := T_at zk182 rfl
theorem zT182_11 : TT 182 11 L S M Q = TR (z_st (.aload 0) 1 11 L S M) 182 12 M Q := T_at zk182 rfl
theorem zT182_12 : TT 182 12 L S M Q = TR (z_st (.iload 1) 1 12 L S M) 182 13 M Q := T_at zk182 rfl
theorem zT182_13 : TT 182 13 L S M Q = TR (z_st (.putfield 47) 3 13 L S M) 182 16 M Q := T_at zk182 rfl
theorem zT182_16 : TT 182 16 L S M Q = TR (z_st (.aload 0) 1 16 L S M) 182 17 M Q := T_at zk182 rfl
theorem zT182_17 : TT 182 17 L S M Q = TR (z_st (.invokevirtual 183) 3 17 L S M) 182 20 M Q := T_at zk182 rfl
theorem zT182_20 : TT 182 20 L S M Q = TR (z_st (.iconst 1) 1 20 L S M) 182 21 M Q := T_at zk182 rfl
theorem zT182_21 : TT 182 21 L S M Q = TR (z_st (.ret 0) 1 21 L S M) 182 22 M Q := T_at zk182 rfl
set_option maxRecDepth 100000 in
theorem zk183 : z_coL.getD 183 [] = zc183 := rfl
theorem zT183_0 : TT 183 0 L S M Q = TR (z_st (.iconst 0) 1 0 L S M) 183 1 M Q := T_at zk183 rfl
theorem zT183_1 : TT 183 1 L S M Q = TR (z_st (.istore 1) 1 1 L S M) 183 2 M Q := T_at zk183 rfl
theorem zT183_2 : TT 183 2 L S M Q = TR (z_st (.iload 1) 1 2 L S M) 183 3 M Q := T_at zk183 rfl
theorem zT183_3 : TT 183 3 L S M Q = TR (z_st (.iconst 3) 1 3 L S M) 183 4 M Q := T_at zk183 rfl
theorem zT183_4 : TT 183 4 L S M Q = TR (z_st (.if_icmp .ge 23) 3 4 L S M) 183 7 M Q := T_at zk183 rfl
theorem zT183_7 : TT 183 7 L S M Q = TR (z_st (.aload 0) 1 7 L S M) 183 8 M Q := T_at zk183 rfl
theorem zT183_8 : TT 183 8 L S M Q = TR (z_st (.fload 44) 3 8 L S M) 183 11 M Q := T_at zk183 rfl
theorem zT183_11 : TT 183 11 L S M Q = TR (z_st (.iload 1) 1 11 L S M) 183 12 M Q := T_at zk183 rfl
theorem zT183_12 : TT 183 12 L S M Q = TR (z_st (.aaload) 1 12 L S M) 183 13 M Q := T_at zk183 rfl
theorem zT183_13 : TT 183 13 L S M Q = TR (z_st (.iconst 0) 1 13 L S M) 183 14 M Q := T_at zk183 rfl
theorem zT183_14 : TT 183 14 L S M Q = TR (z_st (.putfield 33) 3 14 L S M) 183 17 M Q := T_at zk183 rfl
theorem zT183_17 : TT 183 17 L S M Q = TR (z_st (.iinc 1 1) 3 17 L S M) 183 20 M Q := T_at zk183 rfl
theorem zT183_20 : TT 183 20 L S M Q = TR (z_st (.goto 2) 3 20 L S M) 183 23 M Q := T_at zk183 rfl
theorem zT183_23 : TT 183 23 L S M Q = TR (z_st (.aload 0) 1 23 L S M) 183 24 M Q := T_at zk183 rfl
theorem zT183_24 : TT 183 24 L S M Q = TR (z_st (.iconst 0) 1 24 L S M) 183 25 M Q := T_at zk183 rfl
theorem zT183_25 : TT 183 25 L S M Q = TR (z_st (.putfield 49) 3 25 L S M) 183 28 M Q := T_at zk183 rfl
theorem zT183_28 : TT 183 28 L S M Q = TR (z_st (.return_) 1 28 L S M) 183 29 M Q := T_at zk183 rfl
set_option maxRecDepth 100000 in
theorem zk184 : z_coL.getD 184 [] = zc184 := rfl
theorem zT184_0 : TT 184 0 L S M Q = TR (z_st (.iload 1) 1 0 L S M) 184 1 M Q := T_at zk184 rfl
theorem zT184_1 : TT 184 1 L S M Q = TR (z_st (.ifCond .lt 16) 3 1 L S M) 184 4 M Q := T_at zk184 rfl
theorem zT184_4 : TT 184 4 L S M Q = TR (z_st (.iload 1) 1 4 L S M) 184 5 M Q := T_at zk184 rfl
theorem zT184_5 : TT 184 5 L S M Q = TR (z_st (.aload 0) 1 5 L S M) 184 6 M Q := T_at zk184 rfl
theorem zT184_6 : TT 184 6 L S M Q = TR (z_st (.getfield 43) 3 6 L S M) 184 9 M Q := T_at zk184 rfl
theorem zT184_9 : TT 184 9 L S M Q = TR (z_st (.if_icmp .ge 16) 3 9 L S M) 184 12 M Q := T_at zk184 rfl
theorem zT184_12 : TT 184 12 L S M Q = TR (z_st (.iconst 1) 1 12 L S M) 184 13 M Q := T_at zk184 rfl
theorem zT184_13 : TT 184 13 L S M Q = TR (z_st (.goto 17) 3 13 L S M) 184 16 M Q := T_at zk184 rfl
theorem zT184_16 : TT 184 16 L S M Q = TR (z_st (.iconst 0) 1 16 L S M) 184 17 M Q := T_at zk184 rfl
theorem zT184_17 : TT 184 17 L S M Q = TR (z_st (.ret 1) 1 17 L S M) 184 18 M Q := T_at zk184 rfl
set_option maxRecDepth 100000 in
theorem zk185 : z_coL.getD 185 [] = zc185 := rfl
theorem zT185_0 : TT 185 0 L S M Q = TR (z_st (.aload 0) 1 0 L S M) 185 1 M Q := T_at zk185 rfl
theorem zT185_1 : TT 185 1 L S M Q = TR (z_st (.iload 1) 1 1 L S M) 185 2 M Q := T_at zk185 rfl
theorem zT185_2 : TT 185 2 L S M Q = TR (z_st (.invokevirtual 184) 3 2 L S M) 185 5 M Q := T_at zk185 rfl
theorem zT185_5 : TT 185 5 L S M Q = TR (z_st (.ifCond .eq 17) 3 5 L S M) 185 8 M Q := T_at zk185 rfl
theorem zT185_8 : TT 185 8 L S M Q = TR (z_st (.aload 0) 1 8 L S M) 185 9 M Q := T_at zk185 rfl
theorem zT185_9 : TT 185 9 L S M Q = TR (z_st (.fload 41) 3 9 L S M) 185 12 M Q := T_at zk185 rfl
theorem zT185_12 : TT 185 12 L S M Q = TR (z_st (.iload 1) 1 12 L S M) 185 13 M Q := T_at zk185 rfl
theorem zT185_13 : TT 185 13 L S M Q = TR (z_st (.iaload) 1 13 L S M) 185 14 M Q := T_at zk185 rfl
theorem zT185_14 : TT 185 14 L S M Q = TR (z_st (.goto 18) 3 14 L S M) 185 17 M Q := T_at zk185 rfl
theorem zT185_17 : TT 185 17 L S M Q = TR (z_st (.iconst (-1)) 1 17 L S M) 185 18 M Q := T_at zk185 rfl
theorem zT185_18 : TT 185 18 L S M Q = TR (z_st (.ret 0) 1 18 L S M) 185 19 M Q := T_at zk185 rfl
set_option maxRecDepth 100000 in
theorem zk186 : z_coL.getD 186 [] = zc186 := rfl
theorem zT186_0 : TT 186 0 L S M Q = TR (z_st (.aload 0) 1 0 L S M) 186 1 M Q := T_at zk186 rfl
theorem zT186_1 : TT 186 1 L S M Q = TR (z_st (.iload 1) 1 1 L S M) 186 2 M Q := T_at zk186 rfl
theorem zT186_2 : TT 186 2 L S M Q = TR (z_st (.invokevirtual 184) 3 2 L S M) 186 5 M Q := T_at zk186 rfl
theorem zT186_5 : TT 186 5 L S M Q = TR (z_st (.ifCond .eq 17) 3 5 L S M) 186 8 M Q := T_at zk186 rfl
theorem zT186_8 : TT 186 8 L S M Q = TR (z_st (.aload 0) 1 8 L S M) 186 9 M Q := T_at zk186 rfl
theorem zT186_9 : TT 186 9 L S M Q = TR (z_st (.fload 42) 3 9 L S M) 186 12 M Q := T_at zk186 rfl
theorem zT186_12 : TT 186 12 L S M Q = TR (z_st (.iload 1) 1 12 L S M) 186 13 M Q := T_at zk186 rfl
theorem zT186_13 : TT 186 13 L S M Q = TR (z_st (.iaload) 1 13 L S M) 186 14 M Q := T_at zk186 rfl
theorem zT186_14 : TT 186 14 L S M Q = TR (z_st (.goto 18) 3 14 L S M) 186 17 M Q := T_at zk186 rfl
theorem zT186_17 : TT 186 17 L S M Q = TR (z_st (.iconst 0) 1 17 L S M) 186 18 M Q := T_at zk186 rfl
theorem zT186_18 : TT 186 18 L S M Q = TR (z_st (.ret 0) 1 18 L S M) 186 19 M Q := T_at zk186 rfl
set_option maxRecDepth 100000 in
theorem zk187 : z_coL.getD 187 [] = zc187 := rfl
theorem zT187_0 : TT 187 0 L S M Q = TR (z_st (.iload 1) 1 0 L S M) 187 1 M Q := T_at zk187 rfl
theorem zT187_1 : TT 187 1 L S M Q = TR (z_st (.ifCond .lt 16) 3 1 L S M) 187 4 M Q := T_at zk187 rfl
theorem zT187_4 : TT 187 4 L S M Q = TR (z_st (.iload 1) 1 4 L S M) 187 5 M Q := T_at zk187 rfl
theorem zT187_5 : TT 187 5 L S M Q = TR (z_st (.aload 0) 1 5 L S M) 187 6 M Q := T_at zk187 rfl
theorem zT187_6 : TT 187 6 L S M Q = TR (z_st (.getfield 45) 3 6 L S M) 187 9 M Q := T_at zk187 rfl
theorem zT187_9 : TT 187 9 L S M Q = TR (z_st (.if_icmp .ge 16) 3 9 L S M) 187 12 M Q := T_at zk187 rfl
theorem zT187_12 : TT 187 12 L S M Q = TR (z_st (.iconst 1) 1 12 L S M) 187 13 M Q := T_at zk187 rfl
theorem zT187_13 : TT 187 13 L S M Q = TR (z_st (.goto 17) 3 13 L S M) 187 16 M Q := T_at zk187 rfl
theorem zT187_16 : TT 187 16 L S M Q = TR (z_st (.iconst 0) 1 16 L S M) 187 17 M Q := T_at zk187 rfl
theorem zT187_17 : TT 187 17 L S M Q = TR (z_st (.ret 1) 1 17 L S M) 187 18 M Q := T_at zk187 rfl
set_option maxRecDepth 100000 in
theorem zk188 : z_coL.getD 188 [] = zc188 := rfl
theorem zT188_0 : TT 188 0 L S M Q = TR (z_st (.aload 0) 1 0 L S M) 188 1 M Q := T_at zk188 rfl
theorem zT188_1 : TT 188 1 L S M Q = TR (z_st (.fload 44) 3 1 L S M) 188 4 M Q := T_at zk188 rfl
theorem zT188_4 : TT 188 4 L S M Q = TR (z_st (.iload 1) 1 4 L S M) 188 5 M Q := T_at zk188 rfl
theorem zT188_5 : TT 188 5 L S M Q = TR (z_st (.ifCond .lt 17) 3 5 L S M) 188 8 M Q := T_at zk188 rfl
theorem zT188_8 : TT 188 8 L S M Q = TR (z_st (.iload 1) 1 8 L S M) 188 9 M Q := T_at zk188 rfl
theorem zT188_9 : TT 188 9 L S M Q = TR (z_st (.iconst 3) 1 9 L S M) 188 10 M Q := T_at zk188 rfl
theorem zT188_10 : TT 188 10 L S M Q = TR (z_st (.if_icmp .ge 17) 3 10 L S M) 188 13 M Q := T_at zk188 rfl
theorem zT188_13 : TT 188 13 L S M Q = TR (z_st (.iload 1) 1 13 L S M) 188 14 M Q := T_at zk188 rfl
theorem zT188_14 : TT 188 14 L S M Q = TR (z_st (.goto 18) 3 14 L S M) 188 17 M Q := T_at zk188 rfl
theorem zT188_17 : TT 188 17 L S M Q = TR (z_st (.iconst 0) 1 17 L S M) 188 18 M Q := T_at zk188 rfl
theorem zT188_18 : TT 188 18 L S M Q = TR (z_st (.aaload) 1 18 L S M) 188 19 M Q := T_at zk188 rfl
theorem zT188_19 : TT 188 19 L S M Q = TR (z_st (.areturn) 1 19 L S M) 188 20 M Q := T_at zk188 rfl
set_option maxRecDepth 100000 in
theorem zk189 : z_coL.getD 189 [] = zc189 := rfl
theorem zT189_0 : TT 189 0 L S M Q = TR (z_st (.iconst 1) 1 0 L S M) 189 1 M Q := T_at zk189 rfl
theorem zT189_1 : TT 189 1 L S M Q = TR (z_st (.aload 0) 1 1 L S M) 189 2 M Q := T_at zk189 rfl
theorem zT189_2 : TT 189 2 L S M Q = TR (z_st (.getfield 45) 3 2 L S M) 189 5 M Q := T_at zk189 rfl
theorem zT189_5 : TT 189 5 L S M Q = TR (z_st (.ishl) 1 5 L S M) 189 6 M Q := T_at zk189 rfl
theorem zT189_6 : TT 189 6 L S M Q = TR (z_st (.iconst 1) 1 6 L S M) 189 7 M Q := T_at zk189 rfl
theorem zT189_7 : TT 189 7 L S M Q = TR (z_st (.isub) 1 7 L S M) 189 8 M Q := T_at zk189 rfl
theorem zT189_8 : TT 189 8 L S M Q = TR (z_st (.ret 0) 1 8 L S M) 189 9 M Q := T_at zk189 rfl
set_option maxRecDepth 100000 in
theorem zk190 : z_coL.getD 190 [] = zc190 := rfl
theorem zT190_0 : TT 190 0 L S M Q = TR (z_st (.iload 1) 1 0 L S M) 190 1 M Q := T_at zk190 rfl
theorem zT190_1 : TT 190 1 L S M Q = TR (z_st (.aload 0) 1 1 L S M) 190 2 M Q := T_at zk190 rfl
theorem zT190_2 : TT 190 2 L S M Q = TR (z_st (.invokevirtual 189) 3 2 L S M) 190 5 M Q := T_at zk190 rfl
theorem zT190_5 : TT 190 5 L S M Q = TR (z_st (.iconst (-1)) 1 5 L S M) 190 6 M Q := T_at zk190 rfl
theorem zT190_6 : TT 190 6 L S M Q = TR (z_st (.ixor) 1 6 L S M) 190 7 M Q := T_at zk190 rfl
theorem zT190_7 : TT 190 7 L S M Q = TR (z_st (.iand) 1 7 L S M) 190 8 M Q := T_at zk190 rfl
theorem zT190_8 : TT 190 8 L S M Q = TR (z_st (.ifCond .ne 15) 3 8 L S M) 190 11 M Q := T_at zk190 rfl
theorem zT190_11 : TT 190 11 L S M Q = TR (z_st (.iconst 1) 1 11 L S M) 190 12 M Q := T_at zk190 rfl
theorem zT190_12 : TT 190 12 L S M Q = TR (z_st (.goto 16) 3 12 L S M) 190 15 M Q := T_at zk190 rfl
theorem zT190_15 : TT 190 15 L S M Q = TR (z_st (.iconst 0) 1 15 L S M) 190 16 M Q := T_at zk190 rfl
theorem zT190_16 : TT 190 16 L S M Q = TR (z_st (.ret 1) 1 16 L S M) 190 17 M Q := T_at zk190 rfl
set_option maxRecDepth 100000 in
theorem zk191 : z_coL.getD 191 [] = zc191 := rfl
theorem zT191_0 : TT 191 0 L S M Q = TR (z_st (.iconst 0) 1 0 L S M) 191 1 M Q := T_at zk191 rfl
theorem zT191_1 : TT 191 1 L S M Q = TR (z_st (.istore 2) 1 1 L S M) 191 2 M Q := T_at zk191 rfl
theorem zT191_2 : TT 191 2 L S M Q = TR (z_st (.iload 2) 1 2 L S M) 191 3 M Q := T_at zk191 rfl
theorem zT191_3 : TT 191 3 L S M Q = TR (z_st (.aload 0) 1 3 L S M) 191 4 M Q := T_at zk191 rfl
theorem zT191_4 : TT 191 4 L S M Q = TR (z_st (.getfield 45) 3 4 L S M) 191 7 M Q := T_at zk191 rfl
theorem zT191_7 : TT 191 7 L S M Q = TR (z_st (.if_icmp .ge 38) 3 7 L S M) 191 10 M Q := T_at zk191 rfl
theorem zT191_10 : TT 191 10 L S M Q = TR (z_st (.iload 1) 1 10 L S M) 191 11 M Q := T_at zk191 rfl
theorem zT191_11 : TT 191 11 L S M Q = TR (z_st (.iload 2) 1 11 L S M) 191 12 M Q := T_at zk191 rfl
theorem zT191_12 : TT 191 12 L S M Q = TR (z_st (.invokestatic 119) 3 12 L S M) 191 15 M Q := T_at zk191 rfl
theorem zT191_15 : TT 191 15 L S M Q = TR (z_st (.ifCond .eq 32) 3 15 L S M) 191 18 M Q := T_at zk191 rfl
theorem zT191_18 : TT 191 18 L S M Q = TR (z_st (.aload 0) 1 18 L S M) 191 19 M Q := T_at zk191 rfl
theorem zT191_19 : TT 191 19 L S M Q = TR (z_st (.fload 44) 3 19 L S M) 191 22 M Q := T_at zk191 rfl
theorem zT191_22 : TT 191 22 L S M Q = TR (z_st (.iload 2) 1 22 L S M) 191 23 M Q := T_at zk191 rfl
theorem zT191_23 : TT 191 23 L S M Q = TR (z_st (.aaload) 1 23 L S M) 191 24 M Q := T_at zk191 rfl
theorem zT191_24 : TT 191 24 L S M Q = TR (z_st (.invokevirtual 157) 3 24 L S M) 191 27 M Q := T_at zk191 rfl
theorem zT191_27 : TT 191 27 L S M Q = TR (z_st (.ifCond .eq 32) 3 27 L S M) 191 30 M Q := T_at zk191 rfl
theorem zT191_30 : TT 191 30 L S M Q = TR (z_st (.iconst 1) 1 30 L S M) 191 31 M Q := T_at zk191 rfl
theorem zT191_31 : TT 191 31 L S M Q = TR (z_st (.ret 1) 1 31 L S M) 191 32 M Q := T_at zk191 rfl
theorem zT191_32 : TT 191 32 L S M Q = TR (z_st (.iinc 2 1) 3 32 L S M) 191 35 M Q := T_at zk191 rfl
theorem zT191_35 : TT 191 35 L S M Q = TR (z_st (.goto 2) 3 35 L S M) 191 38 M Q := T_at zk191 rfl
theorem zT191_38 : TT 191 38 L S M Q = TR (z_st (.iconst 0) 1 38 L S M) 191 39 M Q := T_at zk191 rfl
theorem zT191_39 : TT 191 39 L S M Q = TR (z_st (.ret 1) 1 39 L S M) 191 40 M Q := T_at zk191 rfl
set_option maxRecDepth 100000 in
theorem zk192 : z_coL.getD 192 [] = zc192 := rfl
theorem zT192_0 : TT 192 0 L S M Q = TR (z_st (.iconst 0) 1 0 L S M) 192 1 M Q := T_at zk192 rfl
theorem zT192_1 : TT 192 1 L S M Q = TR (z_st (.istore 1) 1 1 L S M) 192 2 M Q := T_at zk192 rfl
theorem zT192_2 : TT 192 2 L S M Q = TR (z_st (.iconst 0) 1 2 L S M) 192 3 M Q := T_at zk192 rfl
theorem zT192_3 : TT 192 3 L S M Q = TR (z_st (.istore 2) 1 3 L S M) 192 4 M Q := T_at zk192 rfl
theorem zT192_4 : TT 192 4 L S M Q = TR (z_st (.iload 2) 1 4 L S M) 192 5 M Q := T_at zk192 rfl
theorem zT192_5 : TT 192 5 L S M Q = TR (z_st (.aload 0) 1 5 L S M) 192 6 M Q := T_at zk192 rfl
theorem zT192_6 : TT 192 6 L S M Q = TR (z_st (.getfield 45) 3 6 L S M) 192 9 M Q := T_at zk192 rfl
theorem zT192_9 : TT 192 9 L S M Q = TR (z_st (.if_icmp .ge 38) 3 9 L S M) 192 12 M Q := T_at zk192 rfl
theorem zT192_12 : TT 192 12 L S M Q = TR (z_st (.iload 1) 1 12 L S M) 192 13 M Q := T_at zk192 rfl
theorem zT192_13 : TT 192 13 L S M Q = TR (z_st (.aload 0) 1 13 L S M) 192 14 M Q := T_at zk192 rfl
theorem zT192_14 : TT 192 14 L S M Q = TR (z_st (.fload 44) 3 14 L S M) 192 17 M Q := T_at zk192 rfl
theorem zT192_17 : TT 192 17 L S M Q = TR (z_st (.iload 2) 1 17 L S M) 192 18 M Q := T_at zk192 rfl
theorem zT192_18 : TT 192 18 L S M Q = TR (z_st (.aaload) 1 18 L S M) 192 19 M Q := T_at zk192 rfl
theorem zT192_19 : TT 192 19 L S M Q = TR (z_st (.invokevirtual 157) 3 19 L S M) 192 22 M Q := T_at zk192 rfl
theorem zT192_22 : TT 192 22 L S M Q = TR (z_st (.ifCond .eq 29) 3 22 L S M) 192 25 M Q := T_at zk192 rfl
theorem zT192_25 : TT 192 25 L S M Q = TR (z_st (.iconst 1) 1 25 L S M) 192 26 M Q := T_at zk192 rfl
theorem zT192_26 : TT 192 26 L S M Q = TR (z_st (.goto 30) 3 26 L S M) 192 29 M Q := T_at zk192 rfl
theorem zT192_29 : TT 192 29 L S M Q = TR (z_st (.iconst 0) 1 29 L S M) 192 30 M Q := T_at zk192 rfl
theorem zT192_30 : TT 192 30 L S M Q = TR (z_st (.iadd) 1 30 L S M) 192 31 M Q := T_at zk192 rfl
theorem zT192_31 : TT 192 31 L S M Q = TR (z_st (.istore 1) 1 31 L S M) 192 32 M Q := T_at zk192 rfl
theorem zT192_32 : TT 192 32 L S M Q = TR (z_st (.iinc 2 1) 3 32 L S M) 192 35 M Q := T_at zk192 rfl
theorem zT192_35 : TT 192 35 L S M Q = TR (z_st (.goto 4) 3 35 L S M) 192 38 M Q := T_at zk192 rfl
theorem zT192_38 : TT 192 38 L S M Q = TR (z_st (.iload 1) 1 38 L S M) 192 39 M Q := T_at zk192 rfl
theorem zT192_39 : TT 192 39 L S M Q = TR (z_st (.ret 0) 1 39 L S M) 192 40 M Q := T_at zk192 rfl
set_option maxRecDepth 100000 in
theorem zk193 : z_coL.getD 193 [] = zc193 := rfl
theorem zT193_0 : TT 193 0 L S M Q = TR (z_st (.iconst 0) 1 0 L S M) 193 1 M Q := T_at zk193 rfl
theorem zT193_1 : TT 193 1 L S M Q = TR (z_st (.istore 1) 1 1 L S M) 193 2 M Q := T_at zk193 rfl
theorem zT193_2 : TT 193 2 L S M Q = TR (z_st (.iconst 0) 1 2 L S M) 193 3 M Q := T_at zk193 rfl
theorem zT193_3 : TT 193 3 L S M Q = TR (z_st (.istore 2) 1 3 L S M) 193 4 M Q := T_at zk193 rfl
theorem zT193_4 : TT 193 4 L S M Q = TR (z_st (.iload 2) 1 4 L S M) 193 5 M Q := T_at zk193 rfl
theorem zT193_5 : TT 193 5 L S M Q = TR (z_st (.aload 0) 1 5 L S M) 193 6 M Q := T_at zk193 rfl
theorem zT193_6 : TT 193 6 L S M Q = TR (z_st (.getfield 45) 3 6 L S M) 193 9 M Q := T_at zk193 rfl
theorem zT193_9 : TT 193 9 L S M Q = TR (z_st (.if_icmp .ge 45) 3 9 L S M) 193 12 M Q := T_at zk193 rfl
theorem zT193_12 : TT 193 12 L S M Q = TR (z_st (.aload 0) 1 12 L S M) 193 13 M Q := T_at zk193 rfl
theorem zT193_13 : TT 193 13 L S M Q = TR (z_st (.fload 44) 3 13 L S M) 193 16 M Q := T_at zk193 rfl
theorem zT193_16 : TT 193 16 L S M Q = TR (z_st (.iload 2) 1 16 L S M) 193 17 M Q := T_at zk193 rfl
theorem zT193_17 : TT 193 17 L S M Q = TR (z_st (.aaload) 1 17 L S M) 193 18 M Q := T_at zk193 rfl
theorem zT193_18 : TT 193 18 L S M Q = TR (z_st (.aload 0) 1 18 L S M) 193 19 M Q := T_at zk193 rfl
theorem zT193_19 : TT 193 19 L S M Q = TR (z_st (.fload 44) 3 19 L S M) 193 22 M Q := T_at zk193 rfl
theorem zT193_22 : TT 193 22 L S M Q = TR (z_st (.iload 2) 1 22 L S M) 193 23 M Q := T_at zk193 rfl
theorem zT193_23 : TT 193 23 L S M Q = TR (z_st (.aaload) 1 23 L S M) 193 24 M Q := T_at zk193 rfl
theorem zT193_24 : TT 193 24 L S M Q = TR (z_st (.getfield 33) 3 24 L S M) 193 27 M Q := T_at zk193 rfl
theorem zT193_27 : TT 193 27 L S M Q = TR (z_st (.invokevirtual 159) 3 27 L S M) 193 30 M Q := T_at zk193 rfl
theorem zT193_30 : TT 193 30 L S M Q = TR (z_st (.ifCond .le 39) 3 30 L S M) 193 33 M Q := T_at zk193 rfl
theorem zT193_33 : TT 193 33 L S M Q = TR (z_st (.iload 1) 1 33 L S M) 193 34 M Q := T_at zk193 rfl
theorem zT193_34 : TT 193 34 L S M Q = TR (z_st (.iconst 1) 1 34 L S M) 193 35 M Q := T_at zk193 rfl
theorem zT193_35 : TT 193 35 L S M Q = TR (z_st (.iload 2) 1 35 L S M) 193 36 M Q := T_at zk193 rfl
theorem zT193_36 : TT 193 36 L S M Q = TR (z_st (.ishl) 1 36 L S M) 193 37 M Q := T_at zk193 rfl
theorem zT193_37 : TT 193 37 L S M Q = TR (z_st (.ior) 1 37 L S M) 193 38 M Q := T_at zk193 rfl
theorem zT193_38 : TT 193 38 L S M Q = TR (z_st (.istore 1) 1 38 L S M) 193 39 M Q := T_at zk193 rfl
theorem zT193_39 : TT 193 39 L S M Q = TR (z_st (.iinc 2 1) 3 39 L S M) 193 42 M Q := T_at zk193 rfl
theorem zT193_42 : TT 193 42 L S M Q = TR (z_st (.goto 4) 3 42 L S M) 193 45 M Q := T_at zk193 rfl
theorem zT193_45 : TT 193 45 L S M Q = TR (z_st (.iload 1) 1 45 L S M) 193 46 M Q := T_at zk193 rfl
theorem zT193_46 : TT 193 46 L S M Q = TR (z_st (.ret 0) 1 46 L S M) 193 47 M Q := T_at zk193 rfl
set_option maxRecDepth 100000 in
theorem zk194 : z_coL.getD 194 [] = zc194 := rfl
theorem zT194_0 : TT 194 0 L S M Q = TR (z_st (.iconst 63) 2 0 L S M) 194 2 M Q := T_at zk194 rfl
theorem zT194_2 : TT 194 2 L S M Q = TR (z_st (.istore 2) 1 2 L S M) 194 3 M Q := T_at zk194 rfl
theorem zT194_3 : TT 194 3 L S M Q = TR (z_st (.iconst 0) 1 3 L S M) 194 4 M Q := T_at zk194 rfl
theorem zT194_4 : TT 194 4 L S M Q = TR (z_st (.istore 3) 1 4 L S M) 194 5 M Q := T_at zk194 rfl
theorem zT194_5 : TT 194 5 L S M Q = TR (z_st (.iload 3) 1 5 L S M) 194 6 M Q := T_at zk194 rfl
theorem zT194_6 : TT 194 6 L S M Q = TR (z_st (.aload 0) 1 6 L S M) 194 7 M Q := T_at zk194 rfl
theorem zT194_7 : TT 194 7 L S M Q = TR (z_st (.getfield 45) 3 7 L S M) 194 10 M Q := T_at zk194 rfl
theorem zT194_10 : TT 194 10 L S M Q = TR (z_st (.if_icmp .ge 63) 3 10 L S M) 194 13 M Q := T_at zk194 rfl
theorem zT194_13 : TT 194 13 L S M Q = TR (z_st (.iload 1) 1 13 L S M) 194 14 M Q := T_at zk194 rfl
theorem zT194_14 : TT 194 14 L S M Q = TR (z_st (.iload 3) 1 14 L S M) 194 15 M Q := T_at zk194 rfl
theorem zT194_15 : TT 194 15 L S M Q = TR (z_st (.invokestatic 119) 3 15 L S M) 194 18 M Q := T_at zk194 rfl
theorem zT194_18 : TT 194 18 L S M Q = TR (z_st (.ifCond .eq 57) 3 18 L S M) 194 21 M Q := T_at zk194 rfl
theorem zT194_21 : TT 194 21 L S M Q = TR (z_st (.aload 0) 1 21 L S M) 194 22 M Q := T_at zk194 rfl
theorem zT194_22 : TT 194 22 L S M Q = TR (z_st (.fload 44) 3 22 L S M) 194 25 M Q := T_at zk194 rfl
theorem zT194_25 : TT 194 25 L S M Q = TR (z_st (.iload 3) 1 25 L S M) 194 26 M Q := T_at zk194 rfl
theorem zT194_26 : TT 194 26 L S M Q = TR (z_st (.aaload) 1 26 L S M) 194 27 M Q := T_at zk194 rfl
theorem zT194_27 : TT 194 27 L S M Q = TR (z_st (.invokevirtual 157) 3 27 L S M) 194 30 M Q := T_at zk194 rfl
theorem zT194_30 : TT 194 30 L S M Q = TR (z_st (.ifCond .ne 57) 3 30 L S M) 194 33 M Q := T_at zk194 rfl
theorem zT194_33 : TT 194 33 L S M Q = TR (z_st (.iload 2) 1 33 L S M) 194 34 M Q := T_at zk194 rfl
theorem zT194_34 : TT 194 34 L S M Q = TR (z_st (.iload 3) 1 34 L S M) 194 35 M Q := T_at zk194 rfl
theorem zT194_35 : TT 194 35 L S M Q = TR (z_st (.aload 0) 1 35 L S M) 194 36 M Q := T_at zk194 rfl
theorem zT194_36 : TT 194 36 L S M Q = TR (z_st (.fload 44) 3 36 L S M) 194 39 M Q := T_at zk194 rfl
theorem zT194_39 : TT 194 39 L S M Q = TR (z_st (.iload 3) 1 39 L S M) 194 40 M Q := T_at zk194 rfl
theorem zT194_40 : TT 194 40 L S M Q = TR (z_st (.aaload) 1 40 L S M) 194 41 M Q := T_at zk194 rfl
theorem zT194_41 : TT 194 41 L S M Q = TR (z_st (.aload 0) 1 41 L S M) 194 42 M Q := T_at zk194 rfl
theorem zT194_42 : TT 194 42 L S M Q = TR (z_st (.fload 44) 3 42 L S M) 194 45 M Q := T_at zk194 rfl
theorem zT194_45 : TT 194 45 L S M Q = TR (z_st (.iload 3) 1 45 L S M) 194 46 M Q := T_at zk194 rfl
theorem zT194_46 : TT 194 46 L S M Q = TR (z_st (.aaload) 1 46 L S M) 194 47 M Q := T_at zk194 rfl
theorem zT194_47 : TT 194 47 L S M Q = TR (z_st (.getfield 33) 3 47 L S M) 194 50 M Q := T_at zk194 rfl
theorem zT194_50 : TT 194 50 L S M Q = TR (z_st (.invokevirtual 158) 3 50 L S M) 194 53 M Q := T_at zk194 rfl
theorem zT194_53 : TT 194 53 L S M Q = TR (z_st (.invokestatic 120) 3 53 L S M) 194 56 M Q := T_at zk194 rfl
theorem zT194_56 : TT 194 56 L S M Q = TR (z_st (.istore 2) 1 56 L S M) 194 57 M Q := T_at zk194 rfl
theorem zT194_57 : TT 194 57 L S M Q = TR (z_st (.iinc 3 1) 3 57 L S M) 194 60 M Q := T_at zk194 rfl
theorem zT194_60 : TT 194 60 L S M Q = TR (z_st (.goto 5) 3 60 L S M) 194 63 M Q := T_at zk194 rfl
theorem zT194_63 : TT 194 63 L S M Q = TR (z_st (.iload 2) 1 63 L S M) 194 64 M Q := T_at zk194 rfl
theorem zT194_64 : TT 194 64 L S M Q = TR (z_st (.ret 0) 1 64 L S M) 194 65 M Q := T_at zk194 rfl
set_option maxRecDepth 100000 in
theorem zk195 : z_coL.getD 195 [] = zc195 := rfl
theorem zT195_0 : TT 195 0 L S M Q = TR (z_st (.aload 0) 1 0 L S M) 195 1 M Q := T_at zk195 rfl
theorem zT195_1 : TT 195 1 L S M Q = TR (z_st (.getfield 49) 3 1 L S M) 195 4 M Q := T_at zk195 rfl
theorem zT195_4 : TT 195 4 L S M Q = TR (z_st (.iconst 45) 2 4 L S M) 195 6 M Q := T_at zk195 rfl
theorem zT195_6 : TT 195 6 L S M Q = TR (z_st (.if_icmp .lt 10) 3 6 L S M) 195 9 M Q := T_at zk195 rfl
theorem zT195_9 : TT 195 9 L S M Q = TR (z_st (.return_) 1 9 L S M) 195 10 M Q := T_at zk195 rfl
theorem zT195_10 : TT 195 10 L S M Q = TR (z_st (.aload 0) 1 10 L S M) 195 11 M Q := T_at zk195 rfl
theorem zT195_11 : TT 195 11 L S M Q = TR (z_st (.fload 48) 3 11 L S M) 195 14 M Q := T_at zk195 rfl
theorem zT195_14 : TT 195 14 L S M Q = TR (z_st (.aload 0) 1 14 L S M) 195 15 M Q := T_at zk195 rfl
theorem zT195_15 : TT 195 15 L S M Q = TR (z_st (.getfield 49) 3 15 L S M) 195 18 M Q := T_at zk195 rfl
theorem zT195_18 : TT 195 18 L S M Q = TR (z_st (.iload 1) 1 18 L S M) 195 19 M Q := T_at zk195 rfl
theorem zT195_19 : TT 195 19 L S M Q = TR (z_st (.iastore) 1 19 L S M) 195 20 M Q := T_at zk195 rfl
theorem zT195_20 : TT 195 20 L S M Q = TR (z_st (.aload 0) 1 20 L S M) 195 21 M Q := T_at zk195 rfl
theorem zT195_21 : TT 195 21 L S M Q = TR (z_st (.dup) 1 21 L S M) 195 22 M Q := T_at zk195 rfl
theorem zT195_22 : TT 195 22 L S M Q = TR (z_st (.getfield 49) 3 22 L S M) 195 25 M Q := T_at zk195 rfl
theorem zT195_25 : TT 195 25 L S M Q = TR (z_st (.iconst 1) 1 25 L S M) 195 26 M Q := T_at zk195 rfl
theorem zT195_26 : TT 195 26 L S M Q = TR (z_st (.iadd) 1 26 L S M) 195 27 M Q := T_at zk195 rfl
theorem zT195_27 : TT 195 27 L S M Q = TR (z_st (.putfield 49) 3 27 L S M) 195 30 M Q := T_at zk195 rfl
theorem zT195_30 : TT 195 30 L S M Q = TR (z_st (.aload 0) 1 30 L S M) 195 31 M Q := T_at zk195 rfl
theorem zT195_31 : TT 195 31 L S M Q = TR (z_st (.iload 1) 1 31 L S M) 195 32 M Q := T_at zk195 rfl
theorem zT195_32 : TT 195 32 L S M Q = TR (z_st (.iconst 1) 1 32 L S M) 195 33 M Q := T_at zk195 rfl
theorem zT195_33 : TT 195 33 L S M Q = TR (z_st (.invokevirtual 197) 3 33 L S M) 195 36 M Q := T_at zk195 rfl
theorem zT195_36 : TT 195 36 L S M Q = TR (z_st (.return_) 1 36 L S M) 195 37 M Q := T_at zk195 rfl
set_option maxRecDepth 100000 in
theorem zk196 : z_coL.getD 196 [] = zc196 := rfl
theorem zT196_0 : TT 196 0 L S M Q = TR (z_st (.aload 0) 1 0 L S M) 196 1 M Q := T_at zk196 rfl
theorem zT196_1 : TT 196 1 L S M Q = TR (z_st (.getfield 49) 3 1 L S M) 196 4 M Q := T_at zk196 rfl
theorem zT196_4 : TT 196 4 L S M Q = TR (z_st (.ifCond .le 16) 3 4 L S M) 196 7 M Q := T_at zk196 rfl
theorem zT196_7 : TT 196 7 L S M Q = TR (z_st (.aload 0) 1 7 L S M) 196 8 M Q := T_at zk196 rfl
theorem zT196_8 : TT 196 8 L S M Q = TR (z_st (.getfield 49) 3 8 L S M) 196 11 M Q := T_at zk196 rfl
theorem zT196_11 : TT 196 11 L S M Q = TR (z_st (.iconst 45) 2 11 L S M) 196 13 M Q := T_at zk196 rfl
theorem zT196_13 : TT 196 13 L S M Q = TR (z_st (.if_icmp .le 18) 3 13 L S M) 196 16 M Q := T_at zk196 rfl
theorem zT196_16 : TT 196 16 L S M Q = TR (z_st (.iconst 0) 1 16 L S M) 196 17 M Q := T_at zk196 rfl
theorem zT196_17 : TT 196 17 L S M Q = TR (z_st (.ret 1) 1 17 L S M) 196 18 M Q := T_at zk196 rfl
theorem zT196_18 : TT 196 18 L S M Q = TR (z_st (.aload 0) 1 18 L S M) 196 19 M Q := T_at zk196 rfl
theorem zT196_19 : TT 196 19 L S M Q = TR (z_st (.dup) 1 19 L S M) 196 20 M Q := T_at zk196 rfl
theorem zT196_20 : TT 196 20 L S M Q = TR (z_st (.getfield 49) 3 20 L S M) 196 23 M Q := T_at zk196 rfl
theorem zT196_23 : TT 196 23 L S M Q = TR (z_st (.iconst 1) 1 23 L S M) 196 24 M Q := T_at zk196 rfl
theorem zT196_24 : TT 196 24 L S M Q = TR (z_st (.isub) 1 24 L S M) 196 25 M Q := T_at zk196 rfl
theorem zT196_25 : TT 196 25 L S M Q = TR (z_st (.putfield 49) 3 25 L S M) 196 28 M Q := T_at zk196 rfl
theorem zT196_28 : TT 196 28 L S M Q = TR (z_st (.aload 0) 1 28 L S M) 196 29 M Q := T_at zk196 rfl
theorem zT196_29 : TT 196 29 L S M Q = TR (z_st (.aload 0) 1 29 L S M) 196 30 M Q := T_at zk196 rfl
theorem zT196_30 : TT 196 30 L S M Q = TR (z_st (.fload 48) 3 30 L S M) 196 33 M Q := T_at zk196 rfl
theorem zT196_33 : TT 196 33 L S M Q = TR (z_st (.aload 0) 1 33 L S M) 196 34 M Q := T_at zk196 rfl
theorem zT196_34 : TT 196 34 L S M Q = TR (z_st (.getfield 49) 3 34 L S M) 196 37 M Q := T_at zk196 rfl
theorem zT196_37 : TT 196 37 L S M Q = TR (z_st (.iaload) 1 37 L S M) 196 38 M Q := T_at zk196 rfl
theorem zT196_38 : TT 196 38 L S M Q = TR (z_st (.iconst (-1)) 1 38 L S M) 196 39 M Q := T_at zk196 rfl
theorem zT196_39 : TT 196 39 L S M Q = TR (z_st (.invokevirtual 197) 3 39 L S M) 196 42 M Q := T_at zk196 rfl
theorem zT196_42 : TT 196 42 L S M Q = TR (z_st (.iconst 1) 1 42 L S M) 196 43 M Q := T_at zk196 rfl
theorem zT196_43 : TT 196 43 L S M Q = TR (z_st (.ret 1) 1 43 L S M) 196 44 M Q := T_at zk196 rfl
set_option maxRecDepth 100000 in
theorem zk197 : z_coL.getD 197 [] = zc197 := rfl
theorem zT197_0 : TT 197 0 L S M Q = TR (z_st (.iconst 0) 1 0 L S M) 197 1 M Q := T_at zk197 rfl
theorem zT197_1 : TT 197 1 L S M Q = TR (z_st (.istore 3) 1 1 L S M) 197 2 M Q := T_at zk197 rfl
theorem zT197_2 : TT 197 2 L S M Q = TR (z_st (.iload 3) 1 2 L S M) 197 3 M Q := T_at zk197 rfl
theorem zT197_3 : TT 197 3 L S M Q = TR (z_st (.aload 0) 1 3 L S M) 197 4 M Q := T_at zk197 rfl
theorem zT197_4 : TT 197 4 L S M Q = TR (z_st (.getfield 45) 3 4 L S M) 197 7 M Q := T_at zk197 rfl
theorem zT197_7 : TT 197 7 L S M Q = TR (z_st (.if_icmp .ge 39) 3 7 L S M) 197 10 M Q := T_at zk197 rfl
theorem zT197_10 : TT 197 10 L S M Q = TR (z_st (.iload 1) 1 10 L S M) 197 11 M Q := T_at zk197 rfl
theorem zT197_11 : TT 197 11 L S M Q = TR (z_st (.iload 3) 1 11 L S M) 197 12 M Q := T_at zk197 rfl
theorem zT197_12 : TT 197 12 L S M Q = TR (z_st (.invokestatic 119) 3 12 L S M) 197 15 M Q := T_at zk197 rfl
theorem zT197_15 : TT 197 15 L S M Q = TR (z_st (.ifCond .eq 33) 3 15 L S M) 197 18 M Q := T_at zk197 rfl
theorem zT197_18 : TT 197 18 L S M Q = TR (z_st (.aload 0) 1 18 L S M) 197 19 M Q := T_at zk197 rfl
theorem zT197_19 : TT 197 19 L S M Q = TR (z_st (.fload 44) 3 19 L S M) 197 22 M Q := T_at zk197 rfl
theorem zT197_22 : TT 197 22 L S M Q = TR (z_st (.iload 3) 1 22 L S M) 197 23 M Q := T_at zk197 rfl
theorem zT197_23 : TT 197 23 L S M Q = TR (z_st (.aaload) 1 23 L S M) 197 24 M Q := T_at zk197 rfl
theorem zT197_24 : TT 197 24 L S M Q = TR (z_st (.dup) 1 24 L S M) 197 25 M Q := T_at zk197 rfl
theorem zT197_25 : TT 197 25 L S M Q = TR (z_st (.getfield 33) 3 25 L S M) 197 28 M Q := T_at zk197 rfl
theorem zT197_28 : TT 197 28 L S M Q = TR (z_st (.iload 2) 1 28 L S M) 197 29 M Q := T_at zk197 rfl
theorem zT197_29 : TT 197 29 L S M Q = TR (z_st (.iadd) 1 29 L S M) 197 30 M Q := T_at zk197 rfl
theorem zT197_30 : TT 197 30 L S M Q = TR (z_st (.putfield 33) 3 30 L S M) 197 33 M Q := T_at zk197 rfl
theorem zT197_33 : TT 197 33 L S M Q = TR (z_st (.iinc 3 1) 3 33 L S M) 197 36 M Q := T_at zk197 rfl
theorem zT197_36 : TT 197 36 L S M Q = TR (z_st (.goto 2) 3 36 L S M) 197 39 M Q := T_at zk197 rfl
theorem zT197_39 : TT 197 39 L S M Q = TR (z_st (.return_) 1 39 L S M) 197 40 M Q := T_at zk197 rfl
set_option maxRecDepth 100000 in
theorem zk198 : z_coL.getD 198 [] = zc198 := rfl
theorem zT198_0 : TT 198 0 L S M Q = TR (z_st (.ldc2_w 31) 3 0 L S M) 198 3 M Q := T_at zk198 rfl
theorem zT198_3 : TT 198 3 L S M Q = TR (z_st (.lload 1) 1 3 L S M) 198 4 M Q := T_at zk198 rfl
theorem zT198_4 : TT 198 4 L S M Q = TR (z_st (.lmul) 1 4 L S M) 198 5 M Q := T_at zk198 rfl
theorem zT198_5 : TT 198 5 L S M Q = TR (z_st (.aload 0) 1 5 L S M) 198 6 M Q := T_at zk198 rfl
theorem zT198_6 : TT 198 6 L S M Q = TR (z_st (.getfield 47) 3 6 L S M) 198 9 M Q := T_at zk198 rfl
theorem zT198_9 : TT 198 9 L S M Q = TR (z_st (.ifCond .eq 16) 3 9 L S M) 198 12 M Q := T_at zk198 rfl
theorem zT198_12 : TT 198 12 L S M Q = TR (z_st (.iconst 1) 1 12 L S M) 198 13 M Q := T_at zk198 rfl
theorem zT198_13 : TT 198 13 L S M Q = TR (z_st (.goto 17) 3 13 L S M) 198 16 M Q := T_at zk198 rfl
theorem zT198_16 : TT 198 16 L S M Q = TR (z_st (.iconst 0) 1 16 L S M) 198 17 M Q := T_at zk198 rfl
theorem zT198_17 : TT 198 17 L S M Q = TR (z_st (.i2l) 1 17 L S M) 198 18 M Q := T_at zk198 rfl
theorem zT198_18 : TT 198 18 L S M Q = TR (z_st (.ladd) 1 18 L S M) 198 19 M Q := T_at zk198 rfl
theorem zT198_19 : TT 198 19 L S M Q = TR (z_st (.lstore 3) 1 19 L S M) 198 20 M Q := T_at zk198 rfl
theorem zT198_20 : TT 198 20 L S M Q = TR (z_st (.iconst 0) 1 20 L S M) 198 21 M Q := T_at zk198 rfl
theorem zT198_21 : TT 198 21 L S M Q = TR (z_st (.istore 5) 2 21 L S M) 198 23 M Q := T_at zk198 rfl
theorem zT198_23 : TT 198 23 L S M Q = TR (z_st (.iload 5) 2 23 L S M) 198 25 M Q := T_at zk198 rfl
theorem zT198_25 : TT 198 25 L S M Q = TR (z_st (.aload 0) 1 25 L S M) 198 26 M Q := T_at zk198 rfl
theorem zT198_26 : TT 198 26 L S M Q = TR (z_st (.getfield 43) 3 26 L S M) 198 29 M Q := T_at zk198 rfl
theorem zT198_29 : TT 198 29 L S M Q = TR (z_st (.if_icmp .ge 68) 3 29 L S M) 198 32 M Q := T_at zk198 rfl
theorem zT198_32 : TT 198 32 L S M Q = TR (z_st (.ldc2_w 31) 3 32 L S M) 198 35 M Q := T_at zk198 rfl
theorem zT198_35 : TT 198 35 L S M Q = TR (z_st (.lload 3) 1 35 L S M) 198 36 M Q := T_at zk198 rfl
theorem zT198_36 : TT 198 36 L S M Q = TR (z_st (.lmul) 1 36 L S M) 198 37 M Q := T_at zk198 rfl
theorem zT198_37 : TT 198 37 L S M Q = TR (z_st (.aload 0) 1 37 L S M) 198 38 M Q := T_at zk198 rfl
theorem zT198_38 : TT 198 38 L S M Q = TR (z_st (.fload 41) 3 38 L S M) 198 41 M Q := T_at zk198 rfl
theorem zT198_41 : TT 198 41 L S M Q = TR (z_st (.iload 5) 2 41 L S M) 198 43 M Q := T_at zk198 rfl
theorem zT198_43 : TT 198 43 L S M Q = TR (z_st (.iaload) 1 43 L S M) 198 44 M Q := T_at zk198 rfl
theorem zT198_44 : TT 198 44 L S M Q = TR (z_st (.i2l) 1 44 L S M) 198 45 M Q := T_at zk198 rfl
theorem zT198_45 : TT 198 45 L S M Q = TR (z_st (.ladd) 1 45 L S M) 198 46 M Q := T_at zk198 rfl
theorem zT198_46 : TT 198 46 L S M Q = TR (z_st (.lstore 3) 1 46 L S M) 198 47 M Q := T_at zk198 rfl
theorem zT198_47 : TT 198 47 L S M Q = TR (z_st (.ldc2_w 31) 3 47 L S M) 198 50 M Q := T_at zk198 rfl
theorem zT198_50 : TT 198 50 L S M Q = TR (z_st (.lload 3) 1 50 L S M) 198 51 M Q := T_at zk198 rfl
theorem zT198_51 : TT 198 51 L S M Q = TR (z_st (.lmul) 1 51 L S M) 198 52 M Q := T_at zk198 rfl
theorem zT198_52 : TT 198 52 L S M Q = TR (z_st (.aload 0) 1 52 L S M) 198 53 M Q := T_at zk198 rfl
theorem zT198_53 : TT 198 53 L S M Q = TR (z_st (.fload 42) 3 53 L S M) 198 56 M Q := T_at zk198 rfl
theorem zT198_56 : TT 198 56 L S M Q = TR (z_st (.iload 5) 2 56 L S M) 198 58 M Q := T_at zk198 rfl
theorem zT198_58 : TT 198 58 L S M Q = TR (z_st (.iaload) 1 58 L S M) 198 59 M Q := T_at zk198 rfl
theorem zT198_59 : TT 198 59 L S M Q = TR (z_st (.i2l) 1 59 L S M) 198 60 M Q := T_at zk198 rfl
theorem zT198_60 : TT 198 60 L S M Q = TR (z_st (.ladd) 1 60 L S M) 198 61 M Q := T_at zk198 rfl
theorem zT198_61 : TT 198 61 L S M Q = TR (z_st (.lstore 3) 1 61 L S M) 198 62 M Q := T_at zk198 rfl
theorem zT198_62 : TT 198 62 L S M Q = TR (z_st (.iinc 5 1) 3 62 L S M) 198 65 M Q := T_at zk198 rfl
theorem zT198_65 : TT 198 65 L S M Q = TR (z_st (.goto 23) 3 65 L S M) 198 68 M Q := T_at zk198 rfl
theorem zT198_68 : TT 198 68 L S M Q = TR (z_st (.iconst 0) 1 68 L S M) 198 69 M Q := T_at zk198 rfl
theorem zT198_69 : TT 198 69 L S M Q = TR (z_st (.istore 5) 2 69 L S M) 198 71 M Q := T_at zk198 rfl
theorem zT198_71 : TT 198 71 L S M Q = TR (z_st (.iload 5) 2 71 L S M) 198 73 M Q := T_at zk198 rfl
theorem zT198_73 : TT 198 73 L S M Q = TR (z_st (.aload 0) 1 73 L S M) 198 74 M Q := T_at zk198 rfl
theorem zT198_74 : TT 198 74 L S M Q = TR (z_st (.getfield 45) 3 74 L S M) 198 77 M Q := T_at zk198 rfl
theorem zT198_77 : TT 198 77 L S M Q = TR (z_st (.if_icmp .ge 98) 3 77 L S M) 198 80 M Q := T_at zk198 rfl
theorem zT198_80 : TT 198 80 L S M Q = TR (z_st (.aload 0) 1 80 L S M) 198 81 M Q := T_at zk198 rfl
theorem zT198_81 : TT 198 81 L S M Q = TR (z_st (.fload 44) 3 81 L S M) 198 84 M Q := T_at zk198 rfl
theorem zT198_84 : TT 198 84 L S M Q = TR (z_st (.iload 5) 2 84 L S M) 198 86 M Q := T_at zk198 rfl
theorem zT198_86 : TT 198 86 L S M Q = TR (z_st (.aaload) 1 86 L S M) 198 87 M Q := T_at zk198 rfl
theorem zT198_87 : TT 198 87 L S M Q = TR (z_st (.lload 3) 1 87 L S M) 198 88 M Q := T_at zk198 rfl
theorem zT198_88 : TT 198 88 L S M Q = TR (z_st (.invokevirtual 160) 3 88 L S M) 198 91 M Q := T_at zk198 rfl
theorem zT198_91 : TT 198 91 L S M Q = TR (z_st (.lstore 3) 1 91 L S M) 198 92 M Q := T_at zk198 rfl
theorem zT198_92 : TT 198 92 L S M Q = TR (z_st (.iinc 5 1) 3 92 L S M) 198 95 M Q := T_at zk198 rfl
theorem zT198_95 : TT 198 95 L S M Q = TR (z_st (.goto 71) 3 95 L S M) 198 98 M Q := T_at zk198 rfl
theorem zT198_98 : TT 198 98 L S M Q = TR (z_st (.lload 3) 1 98 L S M) 198 99 M Q := T_at zk198 rfl
theorem zT198_99 : TT 198 99 L S M Q = TR (z_st (.lreturn) 1 99 L S M) 198 100 M Q := T_at zk198 rfl
set_option maxRecDepth 100000 in
theorem zk199 : z_coL.getD 199 [] = zc199 := rfl
theorem zT199_0 : TT 199 0 L S M Q = TR (z_st (.aload 0) 1 0 L S M) 199 1 M Q := T_at zk199 rfl
theorem zT199_1 : TT 199 1 L S M Q = TR (z_st (.athrow) 3 1 L S M) 199 4 M Q := T_at zk199 rfl
theorem zT199_4 : TT 199 4 L S M Q = TR (z_st (.aload 0) 1 4 L S M) 199 5 M Q := T_at zk199 rfl
theorem zT199_5 : TT 199 5 L S M Q = TR (z_st (.iconst 8) 2 5 L S M) 199 7 M Q := T_at zk199 rfl
theorem zT199_7 : TT 199 7 L S M Q = TR (z_st (.newarray .int) 2 7 L S M) 199 9 M Q := T_at zk199 rfl
theorem zT199_9 : TT 199 9 L S M Q = TR (z_st (.fstore 50) 3 9 L S M) 199 12 M Q := T_at zk199 rfl
theorem zT199_12 : TT 199 12 L S M Q = TR (z_st (.aload 0) 1 12 L S M) 199 13 M Q := T_at zk199 rfl
theorem zT199_13 : TT 199 13 L S M Q = TR (z_st (.iload 1) 1 13 L S M) 199 14 M Q := T_at zk199 rfl
theorem zT199_14 : TT 199 14 L S M Q = TR (z_st (.invokevirtual 200) 3 14 L S M) 199 17 M Q := T_at zk199 rfl
theorem zT199_17 : TT 199 17 L S M Q = TR (z_st (.return_) 1 17 L S M) 199 18 M Q := T_at zk199 rfl
set_option maxRecDepth 100000 in
theorem zk200 : z_coL.getD 200 [] = zc200 := rfl
theorem zT200_0 : TT 200 0 L S M Q = TR (z_st (.aload 0) 1 0 L S M) 200 1 M Q := T_at zk200 rfl
theorem zT200_1 : TT 200 1 L S M Q = TR (z_st (.fload 50) 3 1 L S M) 200 4 M Q := T_at zk200 rfl
theorem zT200_4 : TT 200 4 L S M Q = TR (z_st (.iconst 0) 1 4 L S M) 200 5 M Q := T_at zk200 rfl
theorem zT200_5 : TT 200 5 L S M Q = TR (z_st (.iload 1) 1 5 L S M) 200 6 M Q := T_at zk200 rfl
theorem zT200_6 : TT 200 6 L S M Q = TR (z_st (.iastore) 1 6 L S M) 200 7 M Q := T_at zk200 rfl
theorem zT200_7 : TT 200 7 L S M Q = TR (z_st (.aload 0) 1 7 L S M) 200 8 M Q := T_at zk200 rfl
theorem zT200_8 : TT 200 8 L S M Q = TR (z_st (.iload 1) 1 8 L S M) 200 9 M Q := T_at zk200 rfl
theorem zT200_9 : TT 200 9 L S M Q = TR (z_st (.ifCond .ne 16) 3 9 L S M) 200 12 M Q := T_at zk200 rfl
theorem zT200_12 : TT 200 12 L S M Q = TR (z_st (.iconst 0) 1 12 L S M) 200 13 M Q := T_at zk200 rfl
theorem zT200_13 : TT 200 13 L S M Q = TR (z_st (.goto 17) 3 13 L S M) 200 16 M Q := T_at zk200 rfl
theorem zT200_16 : TT 200 16 L S M Q = TR (z_st (.iconst 1) 1 16 L S M) 200 17 M Q := T_at zk200 rfl
theorem zT200_17 : TT 200 17 L S M Q = TR (z_st (.putfield 51) 3 17 L S M) 200 20 M Q := T_at zk200 rfl
theorem zT200_20 : TT 200 20 L S M Q = TR (z_st (.return_) 1 20 L S M) 200 21 M Q := T_at zk200 rfl
set_option maxRecDepth 100000 in
theorem zk201 : z_coL.getD 201 [] = zc201 := rfl
theorem zT201_0 : TT 201 0 L S M Q = TR (z_st (.aload 0) 1 0 L S M) 201 1 M Q := T_at zk201 rfl
theorem zT201_1 : TT 201 1 L S M Q = TR (z_st (.getfield 51) 3 1 L S M) 201 4 M Q := T_at zk201 rfl
theorem zT201_4 : TT 201 4 L S M Q = TR (z_st (.ifCond .ne 11) 3 4 L S M) 201 7 M Q := T_at zk201 rfl
theorem zT201_7 : TT 201 7 L S M Q = TR (z_st (.iconst 1) 1 7 L S M) 201 8 M Q := T_at zk201 rfl
theorem zT201_8 : TT 201 8 L S M Q = TR (z_st (.goto 12) 3 8 L S M) 201 11 M Q := T_at zk201 rfl
theorem zT201_11 : TT 201 11 L S M Q = TR (z_st (.iconst 0) 1 11 L S M) 201 12 M Q := T_at zk201 rfl
theorem zT201_12 : TT 201 12 L S M Q = TR (z_st (.ret 1) 1 12 L S M) 201 13 M Q := T_at zk201 rfl
set_option maxRecDepth 100000 in
theorem zk202 : z_coL.getD 202 [] = zc202 := rfl
theorem zT202_0 : TT 202 0 L S M Q = TR (z_st (.iload 1) 1 0 L S M) 202 1 M Q := T_at zk202 rfl
theorem zT202_1 : TT 202 1 L S M Q = TR (z_st (.ifCond .ne 10) 3 1 L S M) 202 4 M Q := T_at zk202 rfl
theorem zT202_4 : TT 202 4 L S M Q = TR (z_st (.aload 0) 1 4 L S M) 202 5 M Q := T_at zk202 rfl
theorem zT202_5 : TT 202 5 L S M Q = TR (z_st (.iconst 0) 1 5 L S M) 202 6 M Q := T_at zk202 rfl
theorem zT202_6 : TT 202 6 L S M Q = TR (z_st (.invokevirtual 200) 3 6 L S M) 202 9 M Q := T_at zk202 rfl
theorem zT202_9 : TT 202 9 L S M Q = TR (z_st (.return_) 1 9 L S M) 202 10 M Q := T_at zk202 rfl
theorem zT202_10 : TT 202 10 L S M Q = TR (z_st (.ldc2_w 0) 1 10 L S M) 202 11 M Q := T_at zk202 rfl
theorem zT202_11 : TT 202 11 L S M Q = TR (z_st (.lstore 2) 1 11 L S M) 202 12 M Q := T_at zk202 rfl
theorem zT202_12 : TT 202 12 L S M Q = TR (z_st (.iconst 0) 1 12 L S M) 202 13 M Q := T_at zk202 rfl
theorem zT202_13 : TT 202 13 L S M Q = TR (z_st (.istore 4) 2 13 L S M) 202 15 M Q := T_at zk202 rfl
theorem zT202_15 : TT 202 15 L S M Q = TR (z_st (.iload 4) 2 15 L S M) 202 17 M Q := T_at zk202 rfl
theorem zT202_17 : TT 202 17 L S M Q = TR (z_st (.aload 0) 1 17 L S M) 202 18 M Q := T_at zk202 rfl
theorem zT202_18 : TT 202 18 L S M Q = TR (z_st (.getfield 51) 3 18 L S M) 202 21 M Q := T_at zk202 rfl
theorem zT202_21 : TT 202 21 L S M Q = TR (z_st (.if_icmp .ge 70) 3 21 L S M) 202 24 M Q := T_at zk202 rfl
theorem zT202_24 : TT 202 24 L S M Q = TR (z_st (.iload 4) 2 24 L S M) 202 26 M Q := T_at zk202 rfl
theorem zT202_26 : TT 202 26 L S M Q = TR (z_st (.iconst 8) 2 26 L S M) 202 28 M Q := T_at zk202 rfl
theorem zT202_28 : TT 202 28 L S M Q = TR (z_st (.if_icmp .ge 70) 3 28 L S M) 202 31 M Q := T_at zk202 rfl
theorem zT202_31 : TT 202 31 L S M Q = TR (z_st (.lload 2) 1 31 L S M) 202 32 M Q := T_at zk202 rfl
theorem zT202_32 : TT 202 32 L S M Q = TR (z_st (.aload 0) 1 32 L S M) 202 33 M Q := T_at zk202 rfl
theorem zT202_33 : TT 202 33 L S M Q = TR (z_st (.fload 50) 3 33 L S M) 202 36 M Q := T_at zk202 rfl
theorem zT202_36 : TT 202 36 L S M Q = TR (z_st (.iload 4) 2 36 L S M) 202 38 M Q := T_at zk202 rfl
theorem zT202_38 : TT 202 38 L S M Q = TR (z_st (.iaload) 1 38 L S M) 202 39 M Q := T_at zk202 rfl
theorem zT202_39 : TT 202 39 L S M Q = TR (z_st (.i2l) 1 39 L S M) 202 40 M Q := T_at zk202 rfl
theorem zT202_40 : TT 202 40 L S M Q = TR (z_st (.iload 1) 1 40 L S M) 202 41 M Q := T_at zk202 rfl
theorem zT202_41 : TT 202 41 L S M Q = TR (z_st (.i2l) 1 41 L S M) 202 42 M Q := T_at zk202 rfl
theorem zT202_42 : TT 202 42 L S M Q = TR (z_st (.lmul) 1 42 L S M) 202 43 M Q := T_at zk202 rfl
theorem zT202_43 : TT 202 43 L S M Q = TR (z_st (.ladd) 1 43 L S M) 202 44 M Q := T_at zk202 rfl
theorem zT202_44 : TT 202 44 L S M Q = TR (z_st (.lstore 2) 1 44 L S M) 202 45 M Q := T_at zk202 rfl
theorem zT202_45 : TT 202 45 L S M Q = TR (z_st (.aload 0) 1 45 L S M) 202 46 M Q := T_at zk202 rfl
theorem zT202_46 : TT 202 46 L S M Q = TR (z_st (.fload 50) 3 46 L S M) 202 49 M Q := T_at zk202 rfl
theorem zT202_49 : TT 202 49 L S M Q = TR (z_st (.iload 4) 2 49 L S M) 202 51 M Q := T_at zk202 rfl
theorem zT202_51 : TT 202 51 L S M Q = TR (z_st (.lload 2) 1 51 L S M) 202 52 M Q := T_at zk202 rfl
theorem zT202_52 : TT 202 52 L S M Q = TR (z_st (.ldc2_w 1073741824) 3 52 L S M) 202 55 M Q := T_at zk202 rfl
theorem zT202_55 : TT 202 55 L S M Q = TR (z_st (.lrem) 1 55 L S M) 202 56 M Q := T_at zk202 rfl
theorem zT202_56 : TT 202 56 L S M Q = TR (z_st (.l2i) 1 56 L S M) 202 57 M Q := T_at zk202 rfl
theorem zT202_57 : TT 202 57 L S M Q = TR (z_st (.iastore) 1 57 L S M) 202 58 M Q := T_at zk202 rfl
theorem zT202_58 : TT 202 58 L S M Q = TR (z_st (.lload 2) 1 58 L S M) 202 59 M Q := T_at zk202 rfl
theorem zT202_59 : TT 202 59 L S M Q = TR (z_st (.ldc2_w 1073741824) 3 59 L S M) 202 62 M Q := T_at zk202 rfl
theorem zT202_62 : TT 202 62 L S M Q = TR (z_st (.ldiv) 1 62 L S M) 202 63 M Q := T_at zk202 rfl
theorem zT202_63 : TT 202 63 L S M Q = TR (z_st (.lstore 2) 1 63 L S M) 202 64 M Q := T_at zk202 rfl
theorem zT202_64 : TT 202 64 L S M Q = TR (z_st (.iinc 4 1) 3 64 L S M) 202 67 M Q := T_at zk202 rfl
theorem zT202_67 : TT 202 67 L S M Q = TR (z_st (.goto 15) 3 67 L S M) 202 70 M Q := T_at zk202 rfl
theorem zT202_70 : TT 202 70 L S M Q = TR (z_st (.lload 2) 1 70 L S M) 202 71 M Q := T_at zk202 rfl
theorem zT202_71 : TT 202 71 L S M Q = TR (z_st (.ldc2_w 0) 1 71 L S M) 202 72 M Q := T_at zk202 rfl
theorem zT202_72 : TT 202 72 L S M Q = TR (z_st (.lcmp) 1 72 L S M) 202 73 M Q := T_at zk202 rfl
theorem zT202_73 : TT 202 73 L S M Q = TR (z_st (.ifCond .le 106) 3 73 L S M) 202 76 M Q := T_at zk202 rfl
theorem zT202_76 : TT 202 76 L S M Q = TR (z_st (.aload 0) 1 76 L S M) 202 77 M Q := T_at zk202 rfl
theorem zT202_77 : TT 202 77 L S M Q = TR (z_st (.getfield 51) 3 77 L S M) 202 80 M Q := T_at zk202 rfl
theorem zT202_80 : TT 202 80 L S M Q = TR (z_st (.iconst 8) 2 80 L S M) 202 82 M Q := T_at zk202 rfl
theorem zT202_82 : TT 202 82 L S M Q = TR (z_st (.if_icmp .ge 106) 3 82 L S M) 202 85 M Q := T_at zk202 rfl
theorem zT202_85 : TT 202 85 L S M Q = TR (z_st (.aload 0) 1 85 L S M) 202 86 M Q := T_at zk202 rfl
theorem zT202_86 : TT 202 86 L S M Q = TR (z_st (.fload 50) 3 86 L S M) 202 89 M Q := T_at zk202 rfl
theorem zT202_89 : TT 202 89 L S M Q = TR (z_st (.aload 0) 1 89 L S M) 202 90 M Q := T_at zk202 rfl
theorem zT202_90 : TT 202 90 L S M Q = TR (z_st (.getfield 51) 3 90 L S M) 202 93 M Q := T_at zk202 rfl
theorem zT202_93 : TT 202 93 L S M Q = TR (z_st (.lload 2) 1 93 L S M) 202 94 M Q := T_at zk202 rfl
theorem zT202_94 : TT 202 94 L S M Q = TR (z_st (.l2i) 1 94 L S M) 202 95 M Q := T_at zk202 rfl
theorem zT202_95 : TT 202 95 L S M Q = TR (z_st (.iastore) 1 95 L S M) 202 96 M Q := T_at zk202 rfl
theorem zT202_96 : TT 202 96 L S M Q = TR (z_st (.aload 0) 1 96 L S M) 202 97 M Q := T_at zk202 rfl
theorem zT202_97 : TT 202 97 L S M Q = TR (z_st (.dup) 1 97 L S M) 202 98 M Q := T_at zk202 rfl
theorem zT202_98 : TT 202 98 L S M Q = TR (z_st (.getfield 51) 3 98 L S M) 202 101 M Q := T_at zk202 rfl
theorem zT202_101 : TT 202 101 L S M Q = TR (z_st (.iconst 1) 1 101 L S M) 202 102 M Q := T_at zk202 rfl
theorem zT202_102 : TT 202 102 L S M Q = TR (z_st (.iadd) 1 102 L S M) 202 103 M Q := T_at zk202 rfl
theorem zT202_103 : TT 202 103 L S M Q = TR (z_st (.putfield 51) 3 103 L S M) 202 106 M Q := T_at zk202 rfl
theorem zT202_106 : TT 202 106 L S M Q = TR (z_st (.return_) 1 106 L S M) 202 107 M Q := T_at zk202 rfl
set_option maxRecDepth 100000 in
theorem zk203 : z_coL.getD 203 [] = zc203 := rfl
theorem zT203_0 : TT 203 0 L S M Q = TR (z_st (.iload 1) 1 0 L S M) 203 1 M Q := T_at zk203 rfl
theorem zT203_1 : TT 203 1 L S M Q = TR (z_st (.ifCond .lt 27) 3 1 L S M) 203 4 M Q := T_at zk203 rfl
theorem zT203_4 : TT 203 4 L S M Q = TR (z_st (.iload 1) 1 4 L S M) 203 5 M Q := T_at zk203 rfl
theorem zT203_5 : TT 203 5 L S M Q = TR (z_st (.aload 0) 1 5 L S M) 203 6 M Q := T_at zk203 rfl
theorem zT203_6 : TT 203 6 L S M Q = TR (z_st (.getfield 51) 3 6 L S M) 203 9 M Q := T_at zk203 rfl
theorem zT203_9 : TT 203 9 L S M Q = TR (z_st (.if_icmp .ge 27) 3 9 L S M) 203 12 M Q := T_at zk203 rfl
theorem zT203_12 : TT 203 12 L S M Q = TR (z_st (.iload 1) 1 12 L S M) 203 13 M Q := T_at zk203 rfl
theorem zT203_13 : TT 203 13 L S M Q = TR (z_st (.iconst 8) 2 13 L S M) 203 15 M Q := T_at zk203 rfl
theorem zT203_15 : TT 203 15 L S M Q = TR (z_st (.if_icmp .ge 27) 3 15 L S M) 203 18 M Q := T_at zk203 rfl
theorem zT203_18 : TT 203 18 L S M Q = TR (z_st (.aload 0) 1 18 L S M) 203 19 M Q := T_at zk203 rfl
theorem zT203_19 : TT 203 19 L S M Q = TR (z_st (.fload 50) 3 19 L S M) 203 22 M Q := T_at zk203 rfl
theorem zT203_22 : TT 203 22 L S M Q = TR (z_st (.iload 1) 1 22 L S M) 203 23 M Q := T_at zk203 rfl
theorem zT203_23 : TT 203 23 L S M Q = TR (z_st (.iaload) 1 23 L S M) 203 24 M Q := T_at zk203 rfl
theorem zT203_24 : TT 203 24 L S M Q = TR (z_st (.goto 28) 3 24 L S M) 203 27 M Q := T_at zk203 rfl
theorem zT203_27 : TT 203 27 L S M Q = TR (z_st (.iconst (-1)) 1 27 L S M) 203 28 M Q := T_at zk203 rfl
theorem zT203_28 : TT 203 28 L S M Q = TR (z_st (.ret 0) 1 28 L S M) 203 29 M Q := T_at zk203 rfl
set_option maxRecDepth 100000 in
theorem zk204 : z_coL.getD 204 [] = zc204 := rfl
theorem zT204_0 : TT 204 0 L S M Q = TR (z_st (.lload 1) 1 0 L S M) 204 1 M Q := T_at zk204 rfl
theorem zT204_1 : TT 204 1 L S M Q = TR (z_st (.lstore 3) 1 1 L S M) 204 2 M Q := T_at zk204 rfl
theorem zT204_2 : TT 204 2 L S M Q = TR (z_st (.iconst 0) 1 2 L S M) 204 3 M Q := T_at zk204 rfl
theorem zT204_3 : TT 204 3 L S M Q = TR (z_st (.istore 5) 2 3 L S M) 204 5 M Q := T_at zk204 rfl
theorem zT204_5 : TT 204 5 L S M Q = TR (z_st (.iload 5) 2 5 L S M) 204 7 M Q := T_at zk204 rfl
theorem zT204_7 : TT 204 7 L S M Q = TR (z_st (.aload 0) 1 7 L S M) 204 8 M Q := T_at zk204 rfl
theorem zT204_8 : TT 204 8 L S M Q = TR (z_st (.getfield 51) 3 8 L S M) 204 11 M Q := T_at zk204 rfl
theorem zT204_11 : TT 204 11 L S M Q = TR (z_st (.if_icmp .ge 42) 3 11 L S M) 204 14 M Q := T_at zk204 rfl
theorem zT204_14 : TT 204 14 L S M Q = TR (z_st (.iload 5) 2 14 L S M) 204 16 M Q := T_at zk204 rfl
theorem zT204_16 : TT 204 16 L S M Q = TR (z_st (.iconst 8) 2 16 L S M) 204 18 M Q := T_at zk204 rfl
theorem zT204_18 : TT 204 18 L S M Q = TR (z_st (.if_icmp .ge 42) 3 18 L S M) 204 21 M Q := T_at zk204 rfl
theorem zT204_21 : TT 204 21 L S M Q = TR (z_st (.ldc2_w 31) 3 21 L S M) 204 24 M Q := T_at zk204 rfl
theorem zT204_24 : TT 204 24 L S M Q = TR (z_st (.lload 3) 1 24 L S M) 204 25 M Q := T_at zk204 rfl
theorem zT204_25 : TT 204 25 L S M Q = TR (z_st (.lmul) 1 25 L S M) 204 26 M Q := T_at zk204 rfl
theorem zT204_26 : TT 204 26 L S M Q = TR (z_st (.aload 0) 1 26 L S M) 204 27 M Q := T_at zk204 rfl
theorem zT204_27 : TT 204 27 L S M Q = TR (z_st (.fload 50) 3 27 L S M) 204 30 M Q := T_at zk204 rfl
theorem zT204_30 : TT 204 30 L S M Q = TR (z_st (.iload 5) 2 30 L S M) 204 32 M Q := T_at zk204 rfl
theorem zT204_32 : TT 204 32 L S M Q = TR (z_st (.iaload) 1 32 L S M) 204 33 M Q := T_at zk204 rfl
theorem zT204_33 : TT 204 33 L S M Q = TR (z_st (.i2l) 1 33 L S M) 204 34 M Q := T_at zk204 rfl
theorem zT204_34 : TT 204 34 L S M Q = TR (z_st (.ladd) 1 34 L S M) 204 35 M Q := T_at zk204 rfl
theorem zT204_35 : TT 204 35 L S M Q = TR (z_st (.lstore 3) 1 35 L S M) 204 36 M Q := T_at zk204 rfl
theorem zT204_36 : TT 204 36 L S M Q = TR (z_st (.iinc 5 1) 3 36 L S M) 204 39 M Q := T_at zk204 rfl
theorem zT204_39 : TT 204 39 L S M Q = TR (z_st (.goto 5) 3 39 L S M) 204 42 M Q := T_at zk204 rfl
theorem zT204_42 : TT 204 42 L S M Q = TR (z_st (.lload 3) 1 42 L S M) 204 43 M Q := T_at zk204 rfl
theorem zT204_43 : TT 204 43 L S M Q = TR (z_st (.lreturn) 1 43 L S M) 204 44 M Q := T_at zk204 rfl
set_option maxRecDepth 100000 in
theorem zk205 : z_coL.getD 205 [] = zc205 := rfl
theorem zT205_0 : TT 205 0 L S M Q = TR (z_st (.aload 0) 1 0 L S M) 205 1 M Q := T_at zk205 rfl
theorem zT205_1 : TT 205 1 L S M Q = TR (z_st (.athrow) 3 1 L S M) 205 4 M Q := T_at zk205 rfl
theorem zT205_4 : TT 205 4 L S M Q = TR (z_st (.aload 0) 1 4 L S M) 205 5 M Q := T_at zk205 rfl
theorem zT205_5 : TT 205 5 L S M Q = TR (z_st (.new 9) 3 5 L S M) 205 8 M Q := T_at zk205 rfl
theorem zT205_8 : TT 205 8 L S M Q = TR (z_st (.dup) 1 8 L S M) 205 9 M Q := T_at zk205 rfl
theorem zT205_9 : TT 205 9 L S M Q = TR (z_st (.invokespecial 228) 3 9 L S M) 205 12 M Q := T_at zk205 rfl
theorem zT205_12 : TT 205 12 L S M Q = TR (z_st (.fstore 54) 3 12 L S M) 205 15 M Q := T_at zk205 rfl
theorem zT205_15 : TT 205 15 L S M Q = TR (z_st (.aload 0) 1 15 L S M) 205 16 M Q := T_at zk205 rfl
theorem zT205_16 : TT 205 16 L S M Q = TR (z_st (.iconst 3) 1 16 L S M) 205 17 M Q := T_at zk205 rfl
theorem zT205_17 : TT 205 17 L S M Q = TR (z_st (.newarray .int) 2 17 L S M) 205 19 M Q := T_at zk205 rfl
theorem zT205_19 : TT 205 19 L S M Q = TR (z_st (.fstore 57) 3 19 L S M) 205 22 M Q := T_at zk205 rfl
theorem zT205_22 : TT 205 22 L S M Q = TR (z_st (.aload 0) 1 22 L S M) 205 23 M Q := T_at zk205 rfl
theorem zT205_23 : TT 205 23 L S M Q = TR (z_st (.iconst 3) 1 23 L S M) 205 24 M Q := T_at zk205 rfl
theorem zT205_24 : TT 205 24 L S M Q = TR (z_st (.newarray .int) 2 24 L S M) 205 26 M Q := T_at zk205 rfl
theorem zT205_26 : TT 205 26 L S M Q = TR (z_st (.fstore 58) 3 26 L S M) 205 29 M Q := T_at zk205 rfl
theorem zT205_29 : TT 205 29 L S M Q = TR (z_st (.aload 0) 1 29 L S M) 205 30 M Q := T_at zk205 rfl
theorem zT205_30 : TT 205 30 L S M Q = TR (z_st (.iconst 48) 2 30 L S M) 205 32 M Q := T_at zk205 rfl
theorem zT205_32 : TT 205 32 L S M Q = TR (z_st (.newarray .int) 2 32 L S M) 205 34 M Q := T_at zk205 rfl
theorem zT205_34 : TT 205 34 L S M Q = TR (z_st (.fstore 59) 3 34 L S M) 205 37 M Q := T_at zk205 rfl
theorem zT205_37 : TT 205 37 L S M Q = TR (z_st (.aload 0) 1 37 L S M) 205 38 M Q := T_at zk205 rfl
theorem zT205_38 : TT 205 38 L S M Q = TR (z_st (.iconst 48) 2 38 L S M) 205 40 M Q := T_at zk205 rfl
theorem zT205_40 : TT 205 40 L S M Q = TR (z_st (.newarray .boolean) 2 40 L S M) 205 42 M Q := T_at zk205 rfl
theorem zT205_42 : TT 205 42 L S M Q = TR (z_st (.fstore 60) 3 42 L S M) 205 45 M Q := T_at zk205 rfl
theorem zT205_45 : TT 205 45 L S M Q = TR (z_st (.aload 0) 1 45 L S M) 205 46 M Q := T_at zk205 rfl
theorem zT205_46 : TT 205 46 L S M Q = TR (z_st (.iconst 64) 2 46 L S M) 205 48 M Q := T_at zk205 rfl
theorem zT205_48 : TT 205 48 L S M Q = TR (z_st (.newarray .boolean) 2 48 L S M) 205 50 M Q := T_at zk205 rfl
theorem zT205_50 : TT 205 50 L S M Q = TR (z_st (.fstore 61) 3 50 L S M) 205 53 M Q := T_at zk205 rfl
theorem zT205_53 : TT 205 53 L S M Q = TR (z_st (.aload 0) 1 53 L S M) 205 54 M Q := T_at zk205 rfl
theorem zT205_54 : TT 205 54 L S M Q = TR (z_st (.iconst 64) 2 54 L S M) 205 56 M Q := T_at zk205 rfl
theorem zT205_56 : TT 205 56 L S M Q = TR (z_st (.newarray .int) 2 56 L S M) 205 58 M Q := T_at zk205 rfl
theorem zT205_58 : TT 205 58 L S M Q = TR (z_st (.fstore 62) 3 58 L S M) 205 61 M Q := T_at zk205 rfl
theorem zT205_61 : TT 205 61 L S M Q = TR (z_st (.aload 0) 1 61 L S M) 205 62 M Q := T_at zk205 rfl
theorem zT205_62 : TT 205 62 L S M Q = TR (z_st (.iconst 4096) 3 62 L S M) 205 65 M Q := T_at zk205 rfl
theorem zT205_65 : TT 205 65 L S M Q = TR (z_st (.newarray .int) 2 65 L S M) 205 67 M Q := T_at zk205 rfl
theorem zT205_67 : TT 205 67 L S M Q = TR (z_st (.fstore 63) 3 67 L S M) 205 70 M Q := T_at zk205 rfl
theorem zT205_70 : TT 205 70 L S M Q = TR (z_st (.aload 0) 1 70 L S M) 205 71 M Q := T_at zk205 rfl
theorem zT205_71 : TT 205 71 L S M Q = TR (z_st (.iconst 4096) 3 71 L S M) 205 74 M Q := T_at zk205 rfl
theorem zT205_74 : TT 205 74 L S M Q = TR (z_st (.newarray .int) 2 74 L S M) 205 76 M Q := T_at zk205 rfl
theorem zT205_76 : TT 205 76 L S M Q = TR (z_st (.fstore 65) 3 76 L S M) 205 79 M Q := T_at zk205 rfl
theorem zT205_79 : TT 205 79 L S M Q = TR (z_st (.aload 0) 1 79 L S M) 205 80 M Q := T_at zk205 rfl
theorem zT205_80 : TT 205 80 L S M Q = TR (z_st (.iconst 4096) 3 80 L S M) 205 83 M Q := T_at zk205 rfl
theorem zT205_83 : TT 205 83 L S M Q = TR (z_st (.newarray .int) 2 83 L S M) 205 85 M Q := T_at zk205 rfl
theorem zT205_85 : TT 205 85 L S M Q = TR (z_st (.fstore 66) 3 85 L S M) 205 88 M Q := T_at zk205 rfl
theorem zT205_88 : TT 205 88 L S M Q = TR (z_st (.aload 0) 1 88 L S M) 205 89 M Q := T_at zk205 rfl
theorem zT205_89 : TT 205 89 L S M Q = TR (z_st (.iconst 4096) 3 89 L S M) 205 92 M Q := T_at zk205 rfl
theorem zT205_92 : TT 205 92 L S M Q = TR (z_st (.newarray .int) 2 92 L S M) 205 94 M Q := T_at zk205 rfl
theorem zT205_94 : TT 205 94 L S M Q = TR (z_st (.fstore 67) 3 94 L S M) 205 97 M Q := T_at zk205 rfl
theorem zT205_97 : TT 205 97 L S M Q = TR (z_st (.aload 0) 1 97 L S M) 205 98 M Q := T_at zk205 rfl
theorem zT205_98 : TT 205 98 L S M Q = TR (z_st (.aload 1) 1 98 L S M) 205 99 M Q := T_at zk205 rfl
theorem zT205_99 : TT 205 99 L S M Q = TR (z_st (.fstore 52) 3 99 L S M) 205 102 M Q := T_at zk205 rfl
theorem zT205_102 : TT 205 102 L S M Q = TR (z_st (.aload 0) 1 102 L S M) 205 103 M Q := T_at zk205 rfl
theorem zT205_103 : TT 205 103 L S M Q = TR (z_st (.aload 2) 1 103 L S M) 205 104 M Q := T_at zk205 rfl
theorem zT205_104 : TT 205 104 L S M Q = TR (z_st (.fstore 53) 3 104 L S M) 205 107 M Q := T_at zk205 rfl
theorem zT205_107 : TT 205 107 L S M Q = TR (z_st (.return_) 1 107 L S M) 205 108 M Q := T_at zk205 rfl
set_option maxRecDepth 100000 in
theorem zk206 : z_coL.getD 206 [] = zc206 := rfl
theorem zT206_0 : TT 206 0 L S M Q = TR (z_st (.aload 0) 1 0 L S M) 206 1 M Q := T_at zk206 rfl
theorem zT206_1 : TT 206 1 L S M Q = TR (z_st (.iconst 0) 1 1 L S M) 206 2 M Q := T_at zk206 rfl
theorem zT206_2 : TT 206 2 L S M Q = TR (z_st (.putfield 55) 3 2 L S M) 206 5 M Q := T_at zk206 rfl
theorem zT206_5 : TT 206 5 L S M Q = TR (z_st (.return_) 1 5 L S M) 206 6 M Q := T_at zk206 rfl
set_option maxRecDepth 100000 in
theorem zk207 : z_coL.getD 207 [] = zc207 := rfl
theorem zT207_0 : TT 207 0 L S M Q = TR (z_st (.aload 0) 1 0 L S M) 207 1 M Q := T_at zk207 rfl
theorem zT207_1 : TT 207 1 L S M Q = TR (z_st (.getfield 55) 3 1 L S M) 207 4 M Q := T_at zk207 rfl
theorem zT207_4 : TT 207 4 L S M Q = TR (z_st (.ifCond .ne 38) 3 4 L S M) 207 7 M Q := T_at zk207 rfl
theorem zT207_7 : TT 207 7 L S M Q = TR (z_st (.aload 0) 1 7 L S M) 207 8 M Q := T_at zk207 rfl
theorem zT207_8 : TT 207 8 L S M Q = TR (z_st (.fload 53) 3 8 L S M) 207 11 M Q := T_at zk207 rfl
theorem zT207_11 : TT 207 11 L S M Q = TR (z_st (.aload 0) 1 11 L S M) 207 12 M Q := T_at zk207 rfl
theorem zT207_12 : TT 207 12 L S M Q = TR (z_st (.fload 52) 3 12 L S M) 207 15 M Q := T_at zk207 rfl
theorem zT207_15 : TT 207 15 L S M Q = TR (z_st (.getfield 47) 3 15 L S M) 207 18 M Q := T_at zk207 rfl
theorem zT207_18 : TT 207 18 L S M Q = TR (z_st (.invokevirtual 138) 3 18 L S M) 207 21 M Q := T_at zk207 rfl
theorem zT207_21 : TT 207 21 L S M Q = TR (z_st (.aload 0) 1 21 L S M) 207 22 M Q := T_at zk207 rfl
theorem zT207_22 : TT 207 22 L S M Q = TR (z_st (.aload 0) 1 22 L S M) 207 23 M Q := T_at zk207 rfl
theorem zT207_23 : TT 207 23 L S M Q = TR (z_st (.invokevirtual 209) 3 23 L S M) 207 26 M Q := T_at zk207 rfl
theorem zT207_26 : TT 207 26 L S M Q = TR (z_st (.putfield 56) 3 26 L S M) 207 29 M Q := T_at zk207 rfl
theorem zT207_29 : TT 207 29 L S M Q = TR (z_st (.aload 0) 1 29 L S M) 207 30 M Q := T_at zk207 rfl
theorem zT207_30 : TT 207 30 L S M Q = TR (z_st (.invokevirtual 224) 3 30 L S M) 207 33 M Q := T_at zk207 rfl
theorem zT207_33 : TT 207 33 L S M Q = TR (z_st (.aload 0) 1 33 L S M) 207 34 M Q := T_at zk207 rfl
theorem zT207_34 : TT 207 34 L S M Q = TR (z_st (.iconst 1) 1 34 L S M) 207 35 M Q := T_at zk207 rfl
theorem zT207_35 : TT 207 35 L S M Q = TR (z_st (.putfield 55) 3 35 L S M) 207 38 M Q := T_at zk207 rfl
theorem zT207_38 : TT 207 38 L S M Q = TR (z_st (.aload 0) 1 38 L S M) 207 39 M Q := T_at zk207 rfl
theorem zT207_39 : TT 207 39 L S M Q = TR (z_st (.getfield 56) 3 39 L S M) 207 42 M Q := T_at zk207 rfl
theorem zT207_42 : TT 207 42 L S M Q = TR (z_st (.ret 0) 1 42 L S M) 207 43 M Q := T_at zk207 rfl
set_option maxRecDepth 100000 in
theorem zk208 : z_coL.getD 208 [] = zc208 := rfl
theorem zT208_0 : TT 208 0 L S M Q = TR (z_st (.aload 0) 1 0 L S M) 208 1 M Q := T_at zk208 rfl
theorem zT208_1 : TT 208 1 L S M Q = TR (z_st (.iconst 0) 1 1 L S M) 208 2 M Q := T_at zk208 rfl
theorem zT208_2 : TT 208 2 L S M Q = TR (z_st (.putfield 55) 3 2 L S M) 208 5 M Q := T_at zk208 rfl
theorem zT208_5 : TT 208 5 L S M Q = TR (z_st (.aload 0) 1 5 L S M) 208 6 M Q := T_at zk208 rfl
theorem zT208_6 : TT 208 6 L S M Q = TR (z_st (.invokevirtual 209) 3 6 L S M) 208 9 M Q := T_at zk208 rfl
theorem zT208_9 : TT 208 9 L S M Q = TR (z_st (.ret 0) 1 9 L S M) 208 10 M Q := T_at zk208 rfl
set_option maxRecDepth 100000 in
theorem zk209 : z_coL.getD 209 [] = zc209 := rfl
theorem zT209_0 : TT 209 0 L S M Q = TR (z_st (.aload 0) 1 0 L S M) 209 1 M Q := T_at zk209 rfl
theorem zT209_1 : TT 209 1 L S M Q = TR (z_st (.invokevirtual 210) 3 1 L S M) 209 4 M Q := T_at zk209 rfl
theorem zT209_4 : TT 209 4 L S M Q = TR (z_st (.aload 0) 1 4 L S M) 209 5 M Q := T_at zk209 rfl
theorem zT209_5 : TT 209 5 L S M Q = TR (z_st (.invokevirtual 211) 3 5 L S M) 209 8 M Q := T_at zk209 rfl
theorem zT209_8 : TT 209 8 L S M Q = TR (z_st (.aload 0) 1 8 L S M) 209 9 M Q := T_at zk209 rfl
theorem zT209_9 : TT 209 9 L S M Q = TR (z_st (.invokevirtual 215) 3 9 L S M) 209 12 M Q := T_at zk209 rfl
theorem zT209_12 : TT 209 12 L S M Q = TR (z_st (.aload 0) 1 12 L S M) 209 13 M Q := T_at zk209 rfl
theorem zT209_13 : TT 209 13 L S M Q = TR (z_st (.invokevirtual 221) 3 13 L S M) 209 16 M Q := T_at zk209 rfl
theorem zT209_16 : TT 209 16 L S M Q = TR (z_st (.aload 0) 1 16 L S M) 209 17 M Q := T_at zk209 rfl
theorem zT209_17 : TT 209 17 L S M Q = TR (z_st (.iconst 7) 2 17 L S M) 209 19 M Q := T_at zk209 rfl
theorem zT209_19 : TT 209 19 L S M Q = TR (z_st (.invokevirtual 223) 3 19 L S M) 209 22 M Q := T_at zk209 rfl
theorem zT209_22 : TT 209 22 L S M Q = TR (z_st (.ret 0) 1 22 L S M) 209 23 M Q := T_at zk209 rfl
set_option maxRecDepth 100000 in
theorem zk210 : z_coL.getD 210 [] = zc210 := rfl
theorem zT210_0 : TT 210 0 L S M Q = TR (z_st (.iconst 0) 1 0 L S M) 210 1 M Q := T_at zk210 rfl
theorem zT210_1 : TT 210 1 L S M Q = TR (z_st (.istore 1) 1 1 L S M) 210 2 M Q := T_at zk210 rfl
theorem zT210_2 : TT 210 2 L S M Q = TR (z_st (.iload 1) 1 2 L S M) 210 3 M Q := T_at zk210 rfl
theorem zT210_3 : TT 210 3 L S M Q = TR (z_st (.iconst 3) 1 3 L S M) 210 4 M Q := T_at zk210 rfl
theorem zT210_4 : TT 210 4 L S M Q = TR (z_st (.if_icmp .ge 130) 3 4 L S M) 210 7 M Q := T_at zk210 rfl
theorem zT210_7 : TT 210 7 L S M Q = TR (z_st (.aload 0) 1 7 L S M) 210 8 M Q := T_at zk210 rfl
theorem zT210_8 : TT 210 8 L S M Q = TR (z_st (.fload 52) 3 8 L S M) 210 11 M Q := T_at zk210 rfl
theorem zT210_11 : TT 210 11 L S M Q = TR (z_st (.iload 1) 1 11 L S M) 210 12 M Q := T_at zk210 rfl
theorem zT210_12 : TT 210 12 L S M Q = TR (z_st (.invokevirtual 188) 3 12 L S M) 210 15 M Q := T_at zk210 rfl
theorem zT210_15 : TT 210 15 L S M Q = TR (z_st (.astore 2) 1 15 L S M) 210 16 M Q := T_at zk210 rfl
theorem zT210_16 : TT 210 16 L S M Q = TR (z_st (.aload 0) 1 16 L S M) 210 17 M Q := T_at zk210 rfl
theorem zT210_17 : TT 210 17 L S M Q = TR (z_st (.fload 57) 3 17 L S M) 210 20 M Q := T_at zk210 rfl
theorem zT210_20 : TT 210 20 L S M Q = TR (z_st (.iload 1) 1 20 L S M) 210 21 M Q := T_at zk210 rfl
theorem zT210_21 : TT 210 21 L S M Q = TR (z_st (.aload 2) 1 21 L S M) 210 22 M Q := T_at zk210 rfl
theorem zT210_22 : TT 210 22 L S M Q = TR (z_st (.getfield 33) 3 22 L S M) 210 25 M Q := T_at zk210 rfl
theorem zT210_25 : TT 210 25 L S M Q = TR (z_st (.iconst 15) 2 25 L S M) 210 27 M Q := T_at zk210 rfl
theorem zT210_27 : TT 210 27 L S M Q = TR (z_st (.fsub) 3 27 L S M) 210 30 M Q := T_at zk210 rfl
theorem zT210_30 : TT 210 30 L S M Q = TR (z_st (.iastore) 1 30 L S M) 210 31 M Q := T_at zk210 rfl
theorem zT210_31 : TT 210 31 L S M Q = TR (z_st (.aload 0) 1 31 L S M) 210 32 M Q := T_at zk210 rfl
theorem zT210_32 : TT 210 32 L S M Q = TR (z_st (.fload 58) 3 32 L S M) 210 35 M Q := T_at zk210 rfl
theorem zT210_35 : TT 210 35 L S M Q = TR (z_st (.iload 1) 1 35 L S M) 210 36 M Q := T_at zk210 rfl
theorem zT210_36 : TT 210 36 L S M Q = TR (z_st (.aload 2) 1 36 L S M) 210 37 M Q := T_at zk210 rfl
theorem zT210_37 : TT 210 37 L S M Q = TR (z_st (.invokevirtual 152) 3 37 L S M) 210 40 M Q := T_at zk210 rfl
theorem zT210_40 : TT 210 40 L S M Q = TR (z_st (.iconst 15) 2 40 L S M) 210 42 M Q := T_at zk210 rfl
theorem zT210_42 : TT 210 42 L S M Q = TR (z_st (.fsub) 3 42 L S M) 210 45 M Q := T_at zk210 rfl
theorem zT210_45 : TT 210 45 L S M Q = TR (z_st (.iastore) 1 45 L S M) 210 46 M Q := T_at zk210 rfl
theorem zT210_46 : TT 210 46 L S M Q = TR (z_st (.iconst 0) 1 46 L S M) 210 47 M Q := T_at zk210 rfl
theorem zT210_47 : TT 210 47 L S M Q = TR (z_st (.istore 3) 1 47 L S M) 210 48 M Q := T_at zk210 rfl
theorem zT210_48 : TT 210 48 L S M Q = TR (z_st (.iload 3) 1 48 L S M) 210 49 M Q := T_at zk210 rfl
theorem zT210_49 : TT 210 49 L S M Q = TR (z_st (.iconst 16) 2 49 L S M) 210 51 M Q := T_at zk210 rfl
theorem zT210_51 : TT 210 51 L S M Q = TR (z_st (.if_icmp .ge 124) 3 51 L S M) 210 54 M Q := T_at zk210 rfl
theorem zT210_54 : TT 210 54 L S M Q = TR (z_st (.aload 0) 1 54 L S M) 210 55 M Q := T_at zk210 rfl
theorem zT210_55 : TT 210 55 L S M Q = TR (z_st (.fload 59) 3 55 L S M) 210 58 M Q := T_at zk210 rfl
theorem zT210_58 : TT 210 58 L S M Q = TR (z_st (.iload 1) 1 58 L S M) 210 59 M Q := T_at zk210 rfl
theorem zT210_59 : TT 210 59 L S M Q = TR (z_st (.iconst 16) 2 59 L S M) 210 61 M Q := T_at zk210 rfl
theorem zT210_61 : TT 210 61 L S M Q = TR (z_st (.imul) 1 61 L S M) 210 62 M Q := T_at zk210 rfl
theorem zT210_62 : TT 210 62 L S M Q = TR (z_st (.iload 3) 1 62 L S M) 210 63 M Q := T_at zk210 rfl
theorem zT210_63 : TT 210 63 L S M Q = TR (z_st (.iadd) 1 63 L S M) 210 64 M Q := T_at zk210 rfl
theorem zT210_64 : TT 210 64 L S M Q = TR (z_st (.iload 3) 1 64 L S M) 210 65 M Q := T_at zk210 rfl
theorem zT210_65 : TT 210 65 L S M Q = TR (z_st (.aload 0) 1 65 L S M) 210 66 M Q := T_at zk210 rfl
theorem zT210_66 : TT 210 66 L S M Q = TR (z_st (.fload 58) 3 66 L S M) 210 69 M Q := T_at zk210 rfl
theorem zT210_69 : TT 210 69 L S M Q = TR (z_st (.iload 1) 1 69 L S M) 210 70 M Q := T_at zk210 rfl
theorem zT210_70 : TT 210 70 L S M Q = TR (z_st (.iaload) 1 70 L S M) 210 71 M Q := T_at zk210 rfl
theorem zT210_71 : TT 210 71 L S M Q = TR (z_st (.if_icmp .ge 82) 3 71 L S M) 210 74 M Q := T_at zk210 rfl
theorem zT210_74 : TT 210 74 L S M Q = TR (z_st (.aload 2) 1 74 L S M) 210 75 M Q := T_at zk210 rfl
theorem zT210_75 : TT 210 75 L S M Q = TR (z_st (.iload 3) 1 75 L S M) 210 76 M Q := T_at zk210 rfl
theorem zT210_76 : TT 210 76 L S M Q = TR (z_st (.invokevirtual 158) 3 76 L S M) 210 79 M Q := T_at zk210 rfl
theorem zT210_79 : TT 210 79 L S M Q = TR (z_st (.goto 83) 3 79 L S M) 210 82 M Q := T_at zk210 rfl
theorem zT210_82 : TT 210 82 L S M Q = TR (z_st (.iconst 3) 1 82 L S M) 210 83 M Q := T_at zk210 rfl
theorem zT210_83 : TT 210 83 L S M Q = TR (z_st (.iastore) 1 83 L S M) 210 84 M Q := T_at zk210 rfl
theorem zT210_84 : TT 210 84 L S M Q = TR (z_st (.aload 0) 1 84 L S M) 210 85 M Q := T_at zk210 rfl
theorem zT210_85 : TT 210 85 L S M Q = TR (z_st (.fload 60) 3 85 L S M) 210 88 M Q := T_at zk210 rfl
theorem zT210_88 : TT 210 88 L S M Q = TR (z_st (.iload 1) 1 88 L S M) 210 89 M Q := T_at zk210 rfl
theorem zT210_89 : TT 210 89 L S M Q = TR (z_st (.iconst 16) 2 89 L S M) 210 91 M Q := T_at zk210 rfl
theorem zT210_91 : TT 210 91 L S M Q = TR (z_st (.imul) 1 91 L S M) 210 92 M Q := T_at zk210 rfl
theorem zT210_92 : TT 210 92 L S M Q = TR (z_st (.iload 3) 1 92 L S M) 210 93 M Q := T_at zk210 rfl
theorem zT210_93 : TT 210 93 L S M Q = TR (z_st (.iadd) 1 93 L S M) 210 94 M Q := T_at zk210 rfl
theorem zT210_94 : TT 210 94 L S M Q = TR (z_st (.iload 3) 1 94 L S M) 210 95 M Q := T_at zk210 rfl
theorem zT210_95 : TT 210 95 L S M Q = TR (z_st (.aload 0) 1 95 L S M) 210 96 M Q := T_at zk210 rfl
theorem zT210_96 : TT 210 96 L S M Q = TR (z_st (.fload 58) 3 96 L S M) 210 99 M Q := T_at zk210 rfl
theorem zT210_99 : TT 210 99 L S M Q = TR (z_st (.iload 1) 1 99 L S M) 210 100 M Q := T_at zk210 rfl
theorem zT210_100 : TT 210 100 L S M Q = TR (z_st (.iaload) 1 100 L S M) 210 101 M Q := T_at zk210 rfl
theorem zT210_101 : TT 210 101 L S M Q = TR (z_st (.if_icmp .ge 116) 3 101 L S M) 210 104 M Q := T_at zk210 rfl
theorem zT210_104 : TT 210 104 L S M Q = TR (z_st (.aload 2) 1 104 L S M) 210 105 M Q := T_at zk210 rfl
theorem zT210_105 : TT 210 105 L S M Q = TR (z_st (.iload 3) 1 105 L S M) 210 106 M Q := T_at zk210 rfl
theorem zT210_106 : TT 210 106 L S M Q = TR (z_st (.invokevirtual 159) 3 106 L S M) 210 109 M Q := T_at zk210 rfl
theorem zT210_109 : TT 210 109 L S M Q = TR (z_st (.ifCond .le 116) 3 109 L S M) 210 112 M Q := T_at zk210 rfl
theorem zT210_112 : TT 210 112 L S M Q = TR (z_st (.iconst 1) 1 112 L S M) 210 113 M Q := T_at zk210 rfl
theorem zT210_113 : TT 210 113 L S M Q = TR (z_st (.goto 117) 3 113 L S M) 210 116 M Q := T_at zk210 rfl
theorem zT210_116 : TT 210 116 L S M Q = TR (z_st (.iconst 0) 1 116 L S M) 210 117 M Q := T_at zk210 rfl
theorem zT210_117 : TT 210 117 L S M Q = TR (z_st (.bastore) 1 117 L S M) 210 118 M Q := T_at zk210 rfl
theorem zT210_118 : TT 210 118 L S M Q = TR (z_st (.iinc 3 1) 3 118 L S M) 210 121 M Q := T_at zk210 rfl
theorem zT210_121 : TT 210 121 L S M Q = TR (z_st (.goto 48) 3 121 L S M) 210 124 M Q := T_at zk210 rfl
theorem zT210_124 : TT 210 124 L S M Q = TR (z_st (.iinc 1 1) 3 124 L S M) 210 127 M Q := T_at zk210 rfl
theorem zT210_127 : TT 210 127 L S M Q = TR (z_st (.goto 2) 3 127 L S M) 210 130 M Q := T_at zk210 rfl
theorem zT210_130 : TT 210 130 L S M Q = TR (z_st (.return_) 1 130 L S M) 210 131 M Q := T_at zk210 rfl
set_option maxRecDepth 100000 in
theorem zk211 : z_coL.getD 211 [] = zc211 := rfl
theorem zT211_0 : TT 211 0 L S M Q = TR (z_st (.iconst 0) 1 0 L S M) 211 1 M Q := T_at zk211 rfl
theorem zT211_1 : TT 211 1 L S M Q = TR (z_st (.istore 1) 1 1 L S M) 211 2 M Q := T_at zk211 rfl
theorem zT211_2 : TT 211 2 L S M Q = TR (z_st (.iload 1) 1 2 L S M) 211 3 M Q := T_at zk211 rfl
theorem zT211_3 : TT 211 3 L S M Q = TR (z_st (.iconst 64) 2 3 L S M) 211 5 M Q := T_at zk211 rfl
theorem zT211_5 : TT 211 5 L S M Q = TR (z_st (.if_icmp .ge 28) 3 5 L S M) 211 8 M Q := T_at zk211 rfl
theorem zT211_8 : TT 211 8 L S M Q = TR (z_st (.aload 0) 1 8 L S M) 211 9 M Q := T_at zk211 rfl
theorem zT211_9 : TT 211 9 L S M Q = TR (z_st (.fload 61) 3 9 L S M) 211 12 M Q := T_at zk211 rfl
theorem zT211_12 : TT 211 12 L S M Q = TR (z_st (.iload 1) 1 12 L S M) 211 13 M Q := T_at zk211 rfl
theorem zT211_13 : TT 211 13 L S M Q = TR (z_st (.aload 0) 1 13 L S M) 211 14 M Q := T_at zk211 rfl
theorem zT211_14 : TT 211 14 L S M Q = TR (z_st (.fload 53) 3 14 L S M) 211 17 M Q := T_at zk211 rfl
theorem zT211_17 : TT 211 17 L S M Q = TR (z_st (.iload 1) 1 17 L S M) 211 18 M Q := T_at zk211 rfl
theorem zT211_18 : TT 211 18 L S M Q = TR (z_st (.invokevirtual 142) 3 18 L S M) 211 21 M Q := T_at zk211 rfl
theorem zT211_21 : TT 211 21 L S M Q = TR (z_st (.bastore) 1 21 L S M) 211 22 M Q := T_at zk211 rfl
theorem zT211_22 : TT 211 22 L S M Q = TR (z_st (.iinc 1 1) 3 22 L S M) 211 25 M Q := T_at zk211 rfl
theorem zT211_25 : TT 211 25 L S M Q = TR (z_st (.goto 2) 3 25 L S M) 211 28 M Q := T_at zk211 rfl
theorem zT211_28 : TT 211 28 L S M Q = TR (z_st (.iconst 0) 1 28 L S M) 211 29 M Q := T_at zk211 rfl
theorem zT211_29 : TT 211 29 L S M Q = TR (z_st (.istore 1) 1 29 L S M) 211 30 M Q := T_at zk211 rfl
theorem zT211_30 : TT 211 30 L S M Q = TR (z_st (.iload 1) 1 30 L S M) 211 31 M Q := T_at zk211 rfl
theorem zT211_31 : TT 211 31 L S M Q = TR (z_st (.iconst 64) 2 31 L S M) 211 33 M Q := T_at zk211 rfl
theorem zT211_33 : TT 211 33 L S M Q = TR (z_st (.if_icmp .ge 94) 3 33 L S M) 211 36 M Q := T_at zk211 rfl
theorem zT211_36 : TT 211 36 L S M Q = TR (z_st (.iconst 0) 1 36 L S M) 211 37 M Q := T_at zk211 rfl
theorem zT211_37 : TT 211 37 L S M Q = TR (z_st (.istore 2) 1 37 L S M) 211 38 M Q := T_at zk211 rfl
theorem zT211_38 : TT 211 38 L S M Q = TR (z_st (.iconst 0) 1 38 L S M) 211 39 M Q := T_at zk211 rfl
theorem zT211_39 : TT 211 39 L S M Q = TR (z_st (.istore 3) 1 39 L S M) 211 40 M Q := T_at zk211 rfl
theorem zT211_40 : TT 211 40 L S M Q = TR (z_st (.iload 3) 1 40 L S M) 211 41 M Q := T_at zk211 rfl
theorem zT211_41 : TT 211 41 L S M Q = TR (z_st (.iconst 8) 2 41 L S M) 211 43 M Q := T_at zk211 rfl
theorem zT211_43 : TT 211 43 L S M Q = TR (z_st (.if_icmp .ge 81) 3 43 L S M) 211 46 M Q := T_at zk211 rfl
theorem zT211_46 : TT 211 46 L S M Q = TR (z_st (.iload 1) 1 46 L S M) 211 47 M Q := T_at zk211 rfl
theorem zT211_47 : TT 211 47 L S M Q = TR (z_st (.iload 3) 1 47 L S M) 211 48 M Q := T_at zk211 rfl
theorem zT211_48 : TT 211 48 L S M Q = TR (z_st (.invokestatic 212) 3 48 L S M) 211 51 M Q := T_at zk211 rfl
theorem zT211_51 : TT 211 51 L S M Q = TR (z_st (.ifCond .eq 75) 3 51 L S M) 211 54 M Q := T_at zk211 rfl
theorem zT211_54 : TT 211 54 L S M Q = TR (z_st (.aload 0) 1 54 L S M) 211 55 M Q := T_at zk211 rfl
theorem zT211_55 : TT 211 55 L S M Q = TR (z_st (.fload 61) 3 55 L S M) 211 58 M Q := T_at zk211 rfl
theorem zT211_58 : TT 211 58 L S M Q = TR (z_st (.iload 1) 1 58 L S M) 211 59 M Q := T_at zk211 rfl
theorem zT211_59 : TT 211 59 L S M Q = TR (z_st (.ldc 4) 3 59 L S M) 211 62 M Q := T_at zk211 rfl
theorem zT211_62 : TT 211 62 L S M Q = TR (z_st (.iload 3) 1 62 L S M) 211 63 M Q := T_at zk211 rfl
theorem zT211_63 : TT 211 63 L S M Q = TR (z_st (.iaload) 1 63 L S M) 211 64 M Q := T_at zk211 rfl
theorem zT211_64 : TT 211 64 L S M Q = TR (z_st (.ior) 1 64 L S M) 211 65 M Q := T_at zk211 rfl
theorem zT211_65 : TT 211 65 L S M Q = TR (z_st (.baload) 1 65 L S M) 211 66 M Q := T_at zk211 rfl
theorem zT211_66 : TT 211 66 L S M Q = TR (z_st (.ifCond .eq 75) 3 66 L S M) 211 69 M Q := T_at zk211 rfl
theorem zT211_69 : TT 211 69 L S M Q = TR (z_st (.iload 2) 1 69 L S M) 211 70 M Q := T_at zk211 rfl
theorem zT211_70 : TT 211 70 L S M Q = TR (z_st (.iconst 1) 1 70 L S M) 211 71 M Q := T_at zk211 rfl
theorem zT211_71 : TT 211 71 L S M Q = TR (z_st (.iload 3) 1 71 L S M) 211 72 M Q := T_at zk211 rfl
theorem zT211_72 : TT 211 72 L S M Q = TR (z_st (.ishl) 1 72 L S M) 211 73 M Q := T_at zk211 rfl
theorem zT211_73 : TT 211 73 L S M Q = TR (z_st (.ior) 1 73 L S M) 211 74 M Q := T_at zk211 rfl
theorem zT211_74 : TT 211 74 L S M Q = TR (z_st (.istore 2) 1 74 L S M) 211 75 M Q := T_at zk211 rfl
theorem zT211_75 : TT 211 75 L S M Q = TR (z_st (.iinc 3 1) 3 75 L S M) 211 78 M Q := T_at zk211 rfl
theorem zT211_78 : TT 211 78 L S M Q = TR (z_st (.goto 40) 3 78 L S M) 211 81 M Q := T_at zk211 rfl
theorem zT211_81 : TT 211 81 L S M Q = TR (z_st (.aload 0) 1 81 L S M) 211 82 M Q := T_at zk211 rfl
theorem zT211_82 : TT 211 82 L S M Q = TR (z_st (.fload 62) 3 82 L S M) 211 85 M Q := T_at zk211 rfl
theorem zT211_85 : TT 211 85 L S M Q = TR (z_st (.iload 1) 1 85 L S M) 211 86 M Q := T_at zk211 rfl
theorem zT211_86 : TT 211 86 L S M Q = TR (z_st (.iload 2) 1 86 L S M) 211 87 M Q := T_at zk211 rfl
theorem zT211_87 : TT 211 87 L S M Q = TR (z_st (.iastore) 1 87 L S M) 211 88 M Q := T_at zk211 rfl
theorem zT211_88 : TT 211 88 L S M Q = TR (z_st (.iinc 1 1) 3 88 L S M) 211 91 M Q := T_at zk211 rfl
theorem zT211_91 : TT 211 91 L S M Q = TR (z_st (.goto 30) 3 91 L S M) 211 94 M Q := T_at zk211 rfl
theorem zT211_94 : TT 211 94 L S M Q = TR (z_st (.return_) 1 94 L S M) 211 95 M Q := T_at zk211 rfl
set_option maxRecDepth 100000 in
theorem zk212 : z_coL.getD 212 [] = zc212 := rfl
theorem zT212_0 : TT 212 0 L S M Q = TR (z_st (.iconst 0) 1 0 L S M) 212 1 M Q := T_at zk212 rfl
theorem zT212_1 : TT 212 1 L S M Q = TR (z_st (.istore 2) 1 1 L S M) 212 2 M Q := T_at zk212 rfl
theorem zT212_2 : TT 212 2 L S M Q = TR (z_st (.iload 2) 1 2 L S M) 212 3 M Q := T_at zk212 rfl
theorem zT212_3 : TT 212 3 L S M Q = TR (z_st (.iconst 3) 1 3 L S M) 212 4 M Q := T_at zk212 rfl
theorem zT212_4 : TT 212 4 L S M Q = TR (z_st (.if_icmp .ge 32) 3 4 L S M) 212 7 M Q := T_at zk212 rfl
theorem zT212_7 : TT 212 7 L S M Q = TR (z_st (.iload 1) 1 7 L S M) 212 8 M Q := T_at zk212 rfl
theorem zT212_8 : TT 212 8 L S M Q = TR (z_st (.iload 2) 1 8 L S M) 212 9 M Q := T_at zk212 rfl
theorem zT212_9 : TT 212 9 L S M Q = TR (z_st (.invokestatic 119) 3 9 L S M) 212 12 M Q := T_at zk212 rfl
theorem zT212_12 : TT 212 12 L S M Q = TR (z_st (.ifCond .eq 26) 3 12 L S M) 212 15 M Q := T_at zk212 rfl
theorem zT212_15 : TT 212 15 L S M Q = TR (z_st (.iload 0) 1 15 L S M) 212 16 M Q := T_at zk212 rfl
theorem zT212_16 : TT 212 16 L S M Q = TR (z_st (.iload 2) 1 16 L S M) 212 17 M Q := T_at zk212 rfl
theorem zT212_17 : TT 212 17 L S M Q = TR (z_st (.invokestatic 121) 3 17 L S M) 212 20 M Q := T_at zk212 rfl
theorem zT212_20 : TT 212 20 L S M Q = TR (z_st (.iconst 3) 1 20 L S M) 212 21 M Q := T_at zk212 rfl
theorem zT212_21 : TT 212 21 L S M Q = TR (z_st (.if_icmp .ne 26) 3 21 L S M) 212 24 M Q := T_at zk212 rfl
theorem zT212_24 : TT 212 24 L S M Q = TR (z_st (.iconst 0) 1 24 L S M) 212 25 M Q := T_at zk212 rfl
theorem zT212_25 : TT 212 25 L S M Q = TR (z_st (.ret 1) 1 25 L S M) 212 26 M Q := T_at zk212 rfl
theorem zT212_26 : TT 212 26 L S M Q = TR (z_st (.iinc 2 1) 3 26 L S M) 212 29 M Q := T_at zk212 rfl
theorem zT212_29 : TT 212 29 L S M Q = TR (z_st (.goto 2) 3 29 L S M) 212 32 M Q := T_at zk212 rfl
theorem zT212_32 : TT 212 32 L S M Q = TR (z_st (.iconst 1) 1 32 L S M) 212 33 M Q := T_at zk212 rfl
theorem zT212_33 : TT 212 33 L S M Q = TR (z_st (.ret 1) 1 33 L S M) 212 34 M Q := T_at zk212 rfl
set_option maxRecDepth 100000 in
theorem zk213 : z_coL.getD 213 [] = zc213 := rfl
theorem zT213_0 : TT 213 0 L S M Q = TR (z_st (.iload 0) 1 0 L S M) 213 1 M Q := T_at zk213 rfl
theorem zT213_1 : TT 213 1 L S M Q = TR (z_st (.iload 1) 1 1 L S M) 213 2 M Q := T_at zk213 rfl
theorem zT213_2 : TT 213 2 L S M Q = TR (z_st (.iconst 4) 1 2 L S M) 213 3 M Q := T_at zk213 rfl
theorem zT213_3 : TT 213 3 L S M Q = TR (z_st (.ishl) 1 3 L S M) 213 4 M Q := T_at zk213 rfl
theorem zT213_4 : TT 213 4 L S M Q = TR (z_st (.ior) 1 4 L S M) 213 5 M Q := T_at zk213 rfl
theorem zT213_5 : TT 213 5 L S M Q = TR (z_st (.iload 2) 1 5 L S M) 213 6 M Q := T_at zk213 rfl
theorem zT213_6 : TT 213 6 L S M Q = TR (z_st (.iconst 8) 2 6 L S M) 213 8 M Q := T_at zk213 rfl
theorem zT213_8 : TT 213 8 L S M Q = TR (z_st (.ishl) 1 8 L S M) 213 9 M Q := T_at zk213 rfl
theorem zT213_9 : TT 213 9 L S M Q = TR (z_st (.ior) 1 9 L S M) 213 10 M Q := T_at zk213 rfl
theorem zT213_10 : TT 213 10 L S M Q = TR (z_st (.ret 0) 1 10 L S M) 213 11 M Q := T_at zk213 rfl
set_option maxRecDepth 100000 in
theorem zk214 : z_coL.getD 214 [] = zc214 := rfl
theorem zT214_0 : TT 214 0 L S M Q = TR (z_st (.iload 0) 1 0 L S M) 214 1 M Q := T_at zk214 rfl
theorem zT214_1 : TT 214 1 L S M Q = TR (z_st (.iconst 4) 1 1 L S M) 214 2 M Q := T_at zk214 rfl
theorem zT214_2 : TT 214 2 L S M Q = TR (z_st (.iload 1) 1 2 L S M) 214 3 M Q := T_at zk214 rfl
theorem zT214_3 : TT 214 3 L S M Q = TR (z_st (.imul) 1 3 L S M) 214 4 M Q := T_at zk214 rfl
theorem zT214_4 : TT 214 4 L S M Q = TR (z_st (.ishr) 1 4 L S M) 214 5 M Q := T_at zk214 rfl
theorem zT214_5 : TT 214 5 L S M Q = TR (z_st (.iconst 15) 2 5 L S M) 214 7 M Q := T_at zk214 rfl
theorem zT214_7 : TT 214 7 L S M Q = TR (z_st (.iand) 1 7 L S M) 214 8 M Q := T_at zk214 rfl
theorem zT214_8 : TT 214 8 L S M Q = TR (z_st (.ret 0) 1 8 L S M) 214 9 M Q := T_at zk214 rfl
set_option maxRecDepth 100000 in
theorem zk215 : z_coL.getD 215 [] = zc215 := rfl
theorem zT215_0 : TT 215 0 L S M Q = TR (z_st (.aload 0) 1 0 L S M) 215 1 M Q := T_at zk215 rfl
theorem zT215_1 : TT 215 1 L S M Q = TR (z_st (.iconst 0) 1 1 L S M) 215 2 M Q := T_at zk215 rfl
theorem zT215_2 : TT 215 2 L S M Q = TR (z_st (.putfield 64) 3 2 L S M) 215 5 M Q := T_at zk215 rfl
theorem zT215_5 : TT 215 5 L S M Q = TR (z_st (.aload 0) 1 5 L S M) 215 6 M Q := T_at zk215 rfl
theorem zT215_6 : TT 215 6 L S M Q = TR (z_st (.fload 57) 3 6 L S M) 215 9 M Q := T_at zk215 rfl
theorem zT215_9 : TT 215 9 L S M Q = TR (z_st (.iconst 2) 1 9 L S M) 215 10 M Q := T_at zk215 rfl
theorem zT215_10 : TT 215 10 L S M Q = TR (z_st (.iaload) 1 10 L S M) 215 11 M Q := T_at zk215 rfl
theorem zT215_11 : TT 215 11 L S M Q = TR (z_st (.istore 1) 1 11 L S M) 215 12 M Q := T_at zk215 rfl
theorem zT215_12 : TT 215 12 L S M Q = TR (z_st (.iload 1) 1 12 L S M) 215 13 M Q := T_at zk215 rfl
theorem zT215_13 : TT 215 13 L S M Q = TR (z_st (.aload 0) 1 13 L S M) 215 14 M Q := T_at zk215 rfl
theorem zT215_14 : TT 215 14 L S M Q = TR (z_st (.fload 58) 3 14 L S M) 215 17 M Q := T_at zk215 rfl
theorem zT215_17 : TT 215 17 L S M Q = TR (z_st (.iconst 2) 1 17 L S M) 215 18 M Q := T_at zk215 rfl
theorem zT215_18 : TT 215 18 L S M Q = TR (z_st (.iaload) 1 18 L S M) 215 19 M Q := T_at zk215 rfl
theorem zT215_19 : TT 215 19 L S M Q = TR (z_st (.if_icmp .gt 132) 3 19 L S M) 215 22 M Q := T_at zk215 rfl
theorem zT215_22 : TT 215 22 L S M Q = TR (z_st (.aload 0) 1 22 L S M) 215 23 M Q := T_at zk215 rfl
theorem zT215_23 : TT 215 23 L S M Q = TR (z_st (.fload 57) 3 23 L S M) 215 26 M Q := T_at zk215 rfl
theorem zT215_26 : TT 215 26 L S M Q = TR (z_st (.iconst 1) 1 26 L S M) 215 27 M Q := T_at zk215 rfl
theorem zT215_27 : TT 215 27 L S M Q = TR (z_st (.iaload) 1 27 L S M) 215 28 M Q := T_at zk215 rfl
theorem zT215_28 : TT 215 28 L S M Q = TR (z_st (.istore 2) 1 28 L S M) 215 29 M Q := T_at zk215 rfl
theorem zT215_29 : TT 215 29 L S M Q = TR (z_st (.iload 2) 1 29 L S M) 215 30 M Q := T_at zk215 rfl
theorem zT215_30 : TT 215 30 L S M Q = TR (z_st (.aload 0) 1 30 L S M) 215 31 M Q := T_at zk215 rfl
theorem zT215_31 : TT 215 31 L S M Q = TR (z_st (.fload 58) 3 31 L S M) 215 34 M Q := T_at zk215 rfl
theorem zT215_34 : TT 215 34 L S M Q = TR (z_st (.iconst 1) 1 34 L S M) 215 35 M Q := T_at zk215 rfl
theorem zT215_35 : TT 215 35 L S M Q = TR (z_st (.iaload) 1 35 L S M) 215 36 M Q := T_at zk215 rfl
theorem zT215_36 : TT 215 36 L S M Q = TR (z_st (.if_icmp .gt 126) 3 36 L S M) 215 39 M Q := T_at zk215 rfl
theorem zT215_39 : TT 215 39 L S M Q = TR (z_st (.aload 0) 1 39 L S M) 215 40 M Q := T_at zk215 rfl
theorem zT215_40 : TT 215 40 L S M Q = TR (z_st (.fload 57) 3 40 L S M) 215 43 M Q := T_at zk215 rfl
theorem zT215_43 : TT 215 43 L S M Q = TR (z_st (.iconst 0) 1 43 L S M) 215 44 M Q := T_at zk215 rfl
theorem zT215_44 : TT 215 44 L S M Q = TR (z_st (.iaload) 1 44 L S M) 215 45 M Q := T_at zk215 rfl
theorem zT215_45 : TT 215 45 L S M Q = TR (z_st (.istore 3) 1 45 L S M) 215 46 M Q := T_at zk215 rfl
theorem zT215_46 : TT 215 46 L S M Q = TR (z_st (.iload 3) 1 46 L S M) 215 47 M Q := T_at zk215 rfl
theorem zT215_47 : TT 215 47 L S M Q = TR (z_st (.aload 0) 1 47 L S M) 215 48 M Q := T_at zk215 rfl
theorem zT215_48 : TT 215 48 L S M Q = TR (z_st (.fload 58) 3 48 L S M) 215 51 M Q := T_at zk215 rfl
theorem zT215_51 : TT 215 51 L S M Q = TR (z_st (.iconst 0) 1 51 L S M) 215 52 M Q := T_at zk215 rfl
theorem zT215_52 : TT 215 52 L S M Q = TR (z_st (.iaload) 1 52 L S M) 215 53 M Q := T_at zk215 rfl
theorem zT215_53 : TT 215 53 L S M Q = TR (z_st (.if_icmp .gt 120) 3 53 L S M) 215 56 M Q := T_at zk215 rfl
theorem zT215_56 : TT 215 56 L S M Q = TR (z_st (.iload 3) 1 56 L S M) 215 57 M Q := T_at zk215 rfl
theorem zT215_57 : TT 215 57 L S M Q = TR (z_st (.iload 2) 1 57 L S M) 215 58 M Q := T_at zk215 rfl
theorem zT215_58 : TT 215 58 L S M Q = TR (z_st (.iload 1) 1 58 L S M) 215 59 M Q := T_at zk215 rfl
theorem zT215_59 : TT 215 59 L S M Q = TR (z_st (.invokestatic 213) 3 59 L S M) 215 62 M Q := T_at zk215 rfl
theorem zT215_62 : TT 215 62 L S M Q = TR (z_st (.istore 4) 2 62 L S M) 215 64 M Q := T_at zk215 rfl
theorem zT215_64 : TT 215 64 L S M Q = TR (z_st (.aload 0) 1 64 L S M) 215 65 M Q := T_at zk215 rfl
theorem zT215_65 : TT 215 65 L S M Q = TR (z_st (.fload 63) 3 65 L S M) 215 68 M Q := T_at zk215 rfl
theorem zT215_68 : TT 215 68 L S M Q = TR (z_st (.aload 0) 1 68 L S M) 215 69 M Q := T_at zk215 rfl
theorem zT215_69 : TT 215 69 L S M Q = TR (z_st (.getfield 64) 3 69 L S M) 215 72 M Q := T_at zk215 rfl
theorem zT215_72 : TT 215 72 L S M Q = TR (z_st (.iload 4) 2 72 L S M) 215 74 M Q := T_at zk215 rfl
theorem zT215_74 : TT 215 74 L S M Q = TR (z_st (.iastore) 1 74 L S M) 215 75 M Q := T_at zk215 rfl
theorem zT215_75 : TT 215 75 L S M Q = TR (z_st (.aload 0) 1 75 L S M) 215 76 M Q := T_at zk215 rfl
theorem zT215_76 : TT 215 76 L S M Q = TR (z_st (.dup) 1 76 L S M) 215 77 M Q := T_at zk215 rfl
theorem zT215_77 : TT 215 77 L S M Q = TR (z_st (.getfield 64) 3 77 L S M) 215 80 M Q := T_at zk215 rfl
theorem zT215_80 : TT 215 80 L S M Q = TR (z_st (.iconst 1) 1 80 L S M) 215 81 M Q := T_at zk215 rfl
theorem zT215_81 : TT 215 81 L S M Q = TR (z_st (.iadd) 1 81 L S M) 215 82 M Q := T_at zk215 rfl
theorem zT215_82 : TT 215 82 L S M Q = TR (z_st (.putfield 64) 3 82 L S M) 215 85 M Q := T_at zk215 rfl
theorem zT215_85 : TT 215 85 L S M Q = TR (z_st (.aload 0) 1 85 L S M) 215 86 M Q := T_at zk215 rfl
theorem zT215_86 : TT 215 86 L S M Q = TR (z_st (.fload 65) 3 86 L S M) 215 89 M Q := T_at zk215 rfl
theorem zT215_89 : TT 215 89 L S M Q = TR (z_st (.iload 4) 2 89 L S M) 215 91 M Q := T_at zk215 rfl
theorem zT215_91 : TT 215 91 L S M Q = TR (z_st (.aload 0) 1 91 L S M) 215 92 M Q := T_at zk215 rfl
theorem zT215_92 : TT 215 92 L S M Q = TR (z_st (.fload 62) 3 92 L S M) 215 95 M Q := T_at zk215 rfl
theorem zT215_95 : TT 215 95 L S M Q = TR (z_st (.aload 0) 1 95 L S M) 215 96 M Q := T_at zk215 rfl
theorem zT215_96 : TT 215 96 L S M Q = TR (z_st (.iload 4) 2 96 L S M) 215 98 M Q := T_at zk215 rfl
theorem zT215_98 : TT 215 98 L S M Q = TR (z_st (.invokevirtual 216) 3 98 L S M) 215 101 M Q := T_at zk215 rfl
theorem zT215_101 : TT 215 101 L S M Q = TR (z_st (.iaload) 1 101 L S M) 215 102 M Q := T_at zk215 rfl
theorem zT215_102 : TT 215 102 L S M Q = TR (z_st (.ldc 5) 3 102 L S M) 215 105 M Q := T_at zk215 rfl
theorem zT215_105 : TT 215 105 L S M Q = TR (z_st (.aload 0) 1 105 L S M) 215 106 M Q := T_at zk215 rfl
theorem zT215_106 : TT 215 106 L S M Q = TR (z_st (.iload 4) 2 106 L S M) 215 108 M Q := T_at zk215 rfl
theorem zT215_108 : TT 215 108 L S M Q = TR (z_st (.invokevirtual 217) 3 108 L S M) 215 111 M Q := T_at zk215 rfl
theorem zT215_111 : TT 215 111 L S M Q = TR (z_st (.iaload) 1 111 L S M) 215 112 M Q := T_at zk215 rfl
theorem zT215_112 : TT 215 112 L S M Q = TR (z_st (.iand) 1 112 L S M) 215 113 M Q := T_at zk215 rfl
theorem zT215_113 : TT 215 113 L S M Q = TR (z_st (.iastore) 1 113 L S M) 215 114 M Q := T_at zk215 rfl
theorem zT215_114 : TT 215 114 L S M Q = TR (z_st (.iinc 3 1) 3 114 L S M) 215 117 M Q := T_at zk215 rfl
theorem zT215_117 : TT 215 117 L S M Q = TR (z_st (.goto 46) 3 117 L S M) 215 120 M Q := T_at zk215 rfl
theorem zT215_120 : TT 215 120 L S M Q = TR (z_st (.iinc 2 1) 3 120 L S M) 215 123 M Q := T_at zk215 rfl
theorem zT215_123 : TT 215 123 L S M Q = TR (z_st (.goto 29) 3 123 L S M) 215 126 M Q := T_at zk215 rfl
theorem zT215_126 : TT 215 126 L S M Q = TR (z_st (.iinc 1 1) 3 126 L S M) 215 129 M Q := T_at zk215 rfl
theorem zT215_129 : TT 215 129 L S M Q = TR (z_st (.goto 12) 3 129 L S M) 215 132 M Q := T_at zk215 rfl
theorem zT215_132 : TT 215 132 L S M Q = TR (z_st (.return_) 1 132 L S M) 215 133 M Q := T_at zk215 rfl
set_option maxRecDepth 100000 in
theorem zk216 : z_coL.getD 216 [] = zc216 := rfl
theorem zT216_0 : TT 216 0 L S M Q = TR (z_st (.iconst 0) 1 0 L S M) 216 1 M Q := T_at zk216 rfl
theorem zT216_1 : TT 216 1 L S M Q = TR (z_st (.istore 2) 1 1 L S M) 216 2 M Q := T_at zk216 rfl
theorem zT216_2 : TT 216 2 L S M Q = TR (z_st (.iconst 0) 1 2 L S M) 216 3 M Q := T_at zk216 rfl
theorem zT216_3 : TT 216 3 L S M Q = TR (z_st (.istore 3) 1 3 L S M) 216 4 M Q := T_at zk216 rfl
theorem zT216_4 : TT 216 4 L S M Q = TR (z_st (.iload 3) 1 4 L S M) 216 5 M Q := T_at zk216 rfl
theorem zT216_5 : TT 216 5 L S M Q = TR (z_st (.iconst 3) 1 5 L S M) 216 6 M Q := T_at zk216 rfl
theorem zT216_6 : TT 216 6 L S M Q = TR (z_st (.if_icmp .ge 37) 3 6 L S M) 216 9 M Q := T_at zk216 rfl
theorem zT216_9 : TT 216 9 L S M Q = TR (z_st (.iload 2) 1 9 L S M) 216 10 M Q := T_at zk216 rfl
theorem zT216_10 : TT 216 10 L S M Q = TR (z_st (.aload 0) 1 10 L S M) 216 11 M Q := T_at zk216 rfl
theorem zT216_11 : TT 216 11 L S M Q = TR (z_st (.fload 59) 3 11 L S M) 216 14 M Q := T_at zk216 rfl
theorem zT216_14 : TT 216 14 L S M Q = TR (z_st (.iload 3) 1 14 L S M) 216 15 M Q := T_at zk216 rfl
theorem zT216_15 : TT 216 15 L S M Q = TR (z_st (.iconst 16) 2 15 L S M) 216 17 M Q := T_at zk216 rfl
theorem zT216_17 : TT 216 17 L S M Q = TR (z_st (.imul) 1 17 L S M) 216 18 M Q := T_at zk216 rfl
theorem zT216_18 : TT 216 18 L S M Q = TR (z_st (.iload 1) 1 18 L S M) 216 19 M Q := T_at zk216 rfl
theorem zT216_19 : TT 216 19 L S M Q = TR (z_st (.iload 3) 1 19 L S M) 216 20 M Q := T_at zk216 rfl
theorem zT216_20 : TT 216 20 L S M Q = TR (z_st (.invokestatic 214) 3 20 L S M) 216 23 M Q := T_at zk216 rfl
theorem zT216_23 : TT 216 23 L S M Q = TR (z_st (.iadd) 1 23 L S M) 216 24 M Q := T_at zk216 rfl
theorem zT216_24 : TT 216 24 L S M Q = TR (z_st (.iaload) 1 24 L S M) 216 25 M Q := T_at zk216 rfl
theorem zT216_25 : TT 216 25 L S M Q = TR (z_st (.iconst 2) 1 25 L S M) 216 26 M Q := T_at zk216 rfl
theorem zT216_26 : TT 216 26 L S M Q = TR (z_st (.iload 3) 1 26 L S M) 216 27 M Q := T_at zk216 rfl
theorem zT216_27 : TT 216 27 L S M Q = TR (z_st (.imul) 1 27 L S M) 216 28 M Q := T_at zk216 rfl
theorem zT216_28 : TT 216 28 L S M Q = TR (z_st (.ishl) 1 28 L S M) 216 29 M Q := T_at zk216 rfl
theorem zT216_29 : TT 216 29 L S M Q = TR (z_st (.ior) 1 29 L S M) 216 30 M Q := T_at zk216 rfl
theorem zT216_30 : TT 216 30 L S M Q = TR (z_st (.istore 2) 1 30 L S M) 216 31 M Q := T_at zk216 rfl
theorem zT216_31 : TT 216 31 L S M Q = TR (z_st (.iinc 3 1) 3 31 L S M) 216 34 M Q := T_at zk216 rfl
theorem zT216_34 : TT 216 34 L S M Q = TR (z_st (.goto 4) 3 34 L S M) 216 37 M Q := T_at zk216 rfl
theorem zT216_37 : TT 216 37 L S M Q = TR (z_st (.iload 2) 1 37 L S M) 216 38 M Q := T_at zk216 rfl
theorem zT216_38 : TT 216 38 L S M Q = TR (z_st (.ret 0) 1 38 L S M) 216 39 M Q := T_at zk216 rfl
set_option maxRecDepth 100000 in
theorem zk217 : z_coL.getD 217 [] = zc217 := rfl
theorem zT217_0 : TT 217 0 L S M Q = TR (z_st (.iconst 0) 1 0 L S M) 217 1 M Q := T_at zk217 rfl
theorem zT217_1 : TT 217 1 L S M Q = TR (z_st (.istore 2) 1 1 L S M) 217 2 M Q := T_at zk217 rfl
theorem zT217_2 : TT 217 2 L S M Q = TR (z_st (.iconst 0) 1 2 L S M) 217 3 M Q := T_at zk217 rfl
theorem zT217_3 : TT 217 3 L S M Q = TR (z_st (.istore 3) 1 3 L S M) 217 4 M Q := T_at zk217 rfl
theorem zT217_4 : TT 217 4 L S M Q = TR (z_st (.iload 3) 1 4 L S M) 217 5 M Q := T_at zk217 rfl
theorem zT217_5 : TT 217 5 L S M Q = TR (z_st (.iconst 3) 1 5 L S M) 217 6 M Q := T_at zk217 rfl
theorem zT217_6 : TT 217 6 L S M Q = TR (z_st (.if_icmp .ge 43) 3 6 L S M) 217 9 M Q := T_at zk217 rfl
theorem zT217_9 : TT 217 9 L S M Q = TR (z_st (.iload 2) 1 9 L S M) 217 10 M Q := T_at zk217 rfl
theorem zT217_10 : TT 217 10 L S M Q = TR (z_st (.aload 0) 1 10 L S M) 217 11 M Q := T_at zk217 rfl
theorem zT217_11 : TT 217 11 L S M Q = TR (z_st (.fload 60) 3 11 L S M) 217 14 M Q := T_at zk217 rfl
theorem zT217_14 : TT 217 14 L S M Q = TR (z_st (.iload 3) 1 14 L S M) 217 15 M Q := T_at zk217 rfl
theorem zT217_15 : TT 217 15 L S M Q = TR (z_st (.iconst 16) 2 15 L S M) 217 17 M Q := T_at zk217 rfl
theorem zT217_17 : TT 217 17 L S M Q = TR (z_st (.imul) 1 17 L S M) 217 18 M Q := T_at zk217 rfl
theorem zT217_18 : TT 217 18 L S M Q = TR (z_st (.iload 1) 1 18 L S M) 217 19 M Q := T_at zk217 rfl
theorem zT217_19 : TT 217 19 L S M Q = TR (z_st (.iload 3) 1 19 L S M) 217 20 M Q := T_at zk217 rfl
theorem zT217_20 : TT 217 20 L S M Q = TR (z_st (.invokestatic 214) 3 20 L S M) 217 23 M Q := T_at zk217 rfl
theorem zT217_23 : TT 217 23 L S M Q = TR (z_st (.iadd) 1 23 L S M) 217 24 M Q := T_at zk217 rfl
theorem zT217_24 : TT 217 24 L S M Q = TR (z_st (.baload) 1 24 L S M) 217 25 M Q := T_at zk217 rfl
theorem zT217_25 : TT 217 25 L S M Q = TR (z_st (.ifCond .eq 34) 3 25 L S M) 217 28 M Q := T_at zk217 rfl
theorem zT217_28 : TT 217 28 L S M Q = TR (z_st (.iconst 1) 1 28 L S M) 217 29 M Q := T_at zk217 rfl
theorem zT217_29 : TT 217 29 L S M Q = TR (z_st (.iload 3) 1 29 L S M) 217 30 M Q := T_at zk217 rfl
theorem zT217_30 : TT 217 30 L S M Q = TR (z_st (.ishl) 1 30 L S M) 217 31 M Q := T_at zk217 rfl
theorem zT217_31 : TT 217 31 L S M Q = TR (z_st (.goto 35) 3 31 L S M) 217 34 M Q := T_at zk217 rfl
theorem zT217_34 : TT 217 34 L S M Q = TR (z_st (.iconst 0) 1 34 L S M) 217 35 M Q := T_at zk217 rfl
theorem zT217_35 : TT 217 35 L S M Q = TR (z_st (.ior) 1 35 L S M) 217 36 M Q := T_at zk217 rfl
theorem zT217_36 : TT 217 36 L S M Q = TR (z_st (.istore 2) 1 36 L S M) 217 37 M Q := T_at zk217 rfl
theorem zT217_37 : TT 217 37 L S M Q = TR (z_st (.iinc 3 1) 3 37 L S M) 217 40 M Q := T_at zk217 rfl
theorem zT217_40 : TT 217 40 L S M Q = TR (z_st (.goto 4) 3 40 L S M) 217 43 M Q := T_at zk217 rfl
theorem zT217_43 : TT 217 43 L S M Q = TR (z_st (.iload 2) 1 43 L S M) 217 44 M Q := T_at zk217 rfl
theorem zT217_44 : TT 217 44 L S M Q = TR (z_st (.ret 0) 1 44 L S M) 217 45 M Q := T_at zk217 rfl
set_option maxRecDepth 100000 in
theorem zk218 : z_coL.getD 218 [] = zc218 := rfl
theorem zT218_0 : TT 218 0 L S M Q = TR (z_st (.iload 0) 1 0 L S M) 218 1 M Q := T_at zk218 rfl
theorem zT218_1 : TT 218 1 L S M Q = TR (z_st (.ldc 3) 3 1 L S M) 218 4 M Q := T_at zk218 rfl
theorem zT218_4 : TT 218 4 L S M Q = TR (z_st (.iload 1) 1 4 L S M) 218 5 M Q := T_at zk218 rfl
theorem zT218_5 : TT 218 5 L S M Q = TR (z_st (.iaload) 1 5 L S M) 218 6 M Q := T_at zk218 rfl
theorem zT218_6 : TT 218 6 L S M Q = TR (z_st (.iadd) 1 6 L S M) 218 7 M Q := T_at zk218 rfl
theorem zT218_7 : TT 218 7 L S M Q = TR (z_st (.istore 2) 1 7 L S M) 218 8 M Q := T_at zk218 rfl
theorem zT218_8 : TT 218 8 L S M Q = TR (z_st (.iload 2) 1 8 L S M) 218 9 M Q := T_at zk218 rfl
theorem zT218_9 : TT 218 9 L S M Q = TR (z_st (.iconst 4096) 3 9 L S M) 218 12 M Q := T_at zk218 rfl
theorem zT218_12 : TT 218 12 L S M Q = TR (z_st (.if_icmp .ge 19) 3 12 L S M) 218 15 M Q := T_at zk218 rfl
theorem zT218_15 : TT 218 15 L S M Q = TR (z_st (.iload 2) 1 15 L S M) 218 16 M Q := T_at zk218 rfl
theorem zT218_16 : TT 218 16 L S M Q = TR (z_st (.goto 20) 3 16 L S M) 218 19 M Q := T_at zk218 rfl
theorem zT218_19 : TT 218 19 L S M Q = TR (z_st (.iload 0) 1 19 L S M) 218 20 M Q := T_at zk218 rfl
theorem zT218_20 : TT 218 20 L S M Q = TR (z_st (.ret 0) 1 20 L S M) 218 21 M Q := T_at zk218 rfl
set_option maxRecDepth 100000 in
theorem zk219 : z_coL.getD 219 [] = zc219 := rfl
theorem zT219_0 : TT 219 0 L S M Q = TR (z_st (.aload 0) 1 0 L S M) 219 1 M Q := T_at zk219 rfl
theorem zT219_1 : TT 219 1 L S M Q = TR (z_st (.fload 57) 3 1 L S M) 219 4 M Q := T_at zk219 rfl
theorem zT219_4 : TT 219 4 L S M Q = TR (z_st (.iconst 0) 1 4 L S M) 219 5 M Q := T_at zk219 rfl
theorem zT219_5 : TT 219 5 L S M Q = TR (z_st (.iaload) 1 5 L S M) 219 6 M Q := T_at zk219 rfl
theorem zT219_6 : TT 219 6 L S M Q = TR (z_st (.aload 0) 1 6 L S M) 219 7 M Q := T_at zk219 rfl
theorem zT219_7 : TT 219 7 L S M Q = TR (z_st (.fload 57) 3 7 L S M) 219 10 M Q := T_at zk219 rfl
theorem zT219_10 : TT 219 10 L S M Q = TR (z_st (.iconst 1) 1 10 L S M) 219 11 M Q := T_at zk219 rfl
theorem zT219_11 : TT 219 11 L S M Q = TR (z_st (.iaload) 1 11 L S M) 219 12 M Q := T_at zk219 rfl
theorem zT219_12 : TT 219 12 L S M Q = TR (z_st (.aload 0) 1 12 L S M) 219 13 M Q := T_at zk219 rfl
theorem zT219_13 : TT 219 13 L S M Q = TR (z_st (.fload 57) 3 13 L S M) 219 16 M Q := T_at zk219 rfl
theorem zT219_16 : TT 219 16 L S M Q = TR (z_st (.iconst 2) 1 16 L S M) 219 17 M Q := T_at zk219 rfl
theorem zT219_17 : TT 219 17 L S M Q = TR (z_st (.iaload) 1 17 L S M) 219 18 M Q := T_at zk219 rfl
theorem zT219_18 : TT 219 18 L S M Q = TR (z_st (.invokestatic 213) 3 18 L S M) 219 21 M Q := T_at zk219 rfl
theorem zT219_21 : TT 219 21 L S M Q = TR (z_st (.ret 0) 1 21 L S M) 219 22 M Q := T_at zk219 rfl
set_option maxRecDepth 100000 in
theorem zk220 : z_coL.getD 220 [] = zc220 := rfl
theorem zT220_0 : TT 220 0 L S M Q = TR (z_st (.aload 0) 1 0 L S M) 220 1 M Q := T_at zk220 rfl
theorem zT220_1 : TT 220 1 L S M Q = TR (z_st (.fload 58) 3 1 L S M) 220 4 M Q := T_at zk220 rfl
theorem zT220_4 : TT 220 4 L S M Q = TR (z_st (.iconst 0) 1 4 L S M) 220 5 M Q := T_at zk220 rfl
theorem zT220_5 : TT 220 5 L S M Q = TR (z_st (.iaload) 1 5 L S M) 220 6 M Q := T_at zk220 rfl
theorem zT220_6 : TT 220 6 L S M Q = TR (z_st (.aload 0) 1 6 L S M) 220 7 M Q := T_at zk220 rfl
theorem zT220_7 : TT 220 7 L S M Q = TR (z_st (.fload 58) 3 7 L S M) 220 10 M Q := T_at zk220 rfl
theorem zT220_10 : TT 220 10 L S M Q = TR (z_st (.iconst 1) 1 10 L S M) 220 11 M Q := T_at zk220 rfl
theorem zT220_11 : TT 220 11 L S M Q = TR (z_st (.iaload) 1 11 L S M) 220 12 M Q := T_at zk220 rfl
theorem zT220_12 : TT 220 12 L S M Q = TR (z_st (.aload 0) 1 12 L S M) 220 13 M Q := T_at zk220 rfl
theorem zT220_13 : TT 220 13 L S M Q = TR (z_st (.fload 58) 3 13 L S M) 220 16 M Q := T_at zk220 rfl
theorem zT220_16 : TT 220 16 L S M Q = TR (z_st (.iconst 2) 1 16 L S M) 220 17 M Q := T_at zk220 rfl
theorem zT220_17 : TT 220 17 L S M Q = TR (z_st (.iaload) 1 17 L S M) 220 18 M Q := T_at zk220 rfl
theorem zT220_18 : TT 220 18 L S M Q = TR (z_st (.invokestatic 213) 3 18 L S M) 220 21 M Q := T_at zk220 rfl
theorem zT220_21 : TT 220 21 L S M Q = TR (z_st (.ret 0) 1 21 L S M) 220 22 M Q := T_at zk220 rfl
set_option maxRecDepth 100000 in
theorem zk221 : z_coL.getD 221 [] = zc221 := rfl
theorem zT221_0 : TT 221 0 L S M Q = TR (z_st (.aload 0) 1 0 L S M) 221 1 M Q := T_at zk221 rfl
theorem zT221_1 : TT 221 1 L S M Q = TR (z_st (.getfield 64) 3 1 L S M) 221 4 M Q := T_at zk221 rfl
theorem zT221_4 : TT 221 4 L S M Q = TR (z_st (.iconst 1) 1 4 L S M) 221 5 M Q := T_at zk221 rfl
theorem zT221_5 : TT 221 5 L S M Q = TR (z_st (.isub) 1 5 L S M) 221 6 M Q := T_at zk221 rfl
theorem zT221_6 : TT 221 6 L S M Q = TR (z_st (.istore 1) 1 6 L S M) 221 7 M Q := T_at zk221 rfl
theorem zT221_7 : TT 221 7 L S M Q = TR (z_st (.iload 1) 1 7 L S M) 221 8 M Q := T_at zk221 rfl
theorem zT221_8 : TT 221 8 L S M Q = TR (z_st (.ifCond .lt 54) 3 8 L S M) 221 11 M Q := T_at zk221 rfl
theorem zT221_11 : TT 221 11 L S M Q = TR (z_st (.aload 0) 1 11 L S M) 221 12 M Q := T_at zk221 rfl
theorem zT221_12 : TT 221 12 L S M Q = TR (z_st (.fload 63) 3 12 L S M) 221 15 M Q := T_at zk221 rfl
theorem zT221_15 : TT 221 15 L S M Q = TR (z_st (.iload 1) 1 15 L S M) 221 16 M Q := T_at zk221 rfl
theorem zT221_16 : TT 221 16 L S M Q = TR (z_st (.iaload) 1 16 L S M) 221 17 M Q := T_at zk221 rfl
theorem zT221_17 : TT 221 17 L S M Q = TR (z_st (.istore 2) 1 17 L S M) 221 18 M Q := T_at zk221 rfl
theorem zT221_18 : TT 221 18 L S M Q = TR (z_st (.aload 0) 1 18 L S M) 221 19 M Q := T_at zk221 rfl
theorem zT221_19 : TT 221 19 L S M Q = TR (z_st (.fload 66) 3 19 L S M) 221 22 M Q := T_at zk221 rfl
theorem zT221_22 : TT 221 22 L S M Q = TR (z_st (.iload 2) 1 22 L S M) 221 23 M Q := T_at zk221 rfl
theorem zT221_23 : TT 221 23 L S M Q = TR (z_st (.iload 2) 1 23 L S M) 221 24 M Q := T_at zk221 rfl
theorem zT221_24 : TT 221 24 L S M Q = TR (z_st (.aload 0) 1 24 L S M) 221 25 M Q := T_at zk221 rfl
theorem zT221_25 : TT 221 25 L S M Q = TR (z_st (.invokevirtual 220) 3 25 L S M) 221 28 M Q := T_at zk221 rfl
theorem zT221_28 : TT 221 28 L S M Q = TR (z_st (.if_icmp .ne 35) 3 28 L S M) 221 31 M Q := T_at zk221 rfl
theorem zT221_31 : TT 221 31 L S M Q = TR (z_st (.iconst 0) 1 31 L S M) 221 32 M Q := T_at zk221 rfl
theorem zT221_32 : TT 221 32 L S M Q = TR (z_st (.goto 47) 3 32 L S M) 221 35 M Q := T_at zk221 rfl
theorem zT221_35 : TT 221 35 L S M Q = TR (z_st (.iconst 1) 1 35 L S M) 221 36 M Q := T_at zk221 rfl
theorem zT221_36 : TT 221 36 L S M Q = TR (z_st (.aload 0) 1 36 L S M) 221 37 M Q := T_at zk221 rfl
theorem zT221_37 : TT 221 37 L S M Q = TR (z_st (.aload 0) 1 37 L S M) 221 38 M Q := T_at zk221 rfl
theorem zT221_38 : TT 221 38 L S M Q = TR (z_st (.fload 66) 3 38 L S M) 221 41 M Q := T_at zk221 rfl
theorem zT221_41 : TT 221 41 L S M Q = TR (z_st (.iload 2) 1 41 L S M) 221 42 M Q := T_at zk221 rfl
theorem zT221_42 : TT 221 42 L S M Q = TR (z_st (.iconst 1) 1 42 L S M) 221 43 M Q := T_at zk221 rfl
theorem zT221_43 : TT 221 43 L S M Q = TR (z_st (.invokevirtual 222) 3 43 L S M) 221 46 M Q := T_at zk221 rfl
theorem zT221_46 : TT 221 46 L S M Q = TR (z_st (.iadd) 1 46 L S M) 221 47 M Q := T_at zk221 rfl
theorem zT221_47 : TT 221 47 L S M Q = TR (z_st (.iastore) 1 47 L S M) 221 48 M Q := T_at zk221 rfl
theorem zT221_48 : TT 221 48 L S M Q = TR (z_st (.iinc 1 (-1)) 3 48 L S M) 221 51 M Q := T_at zk221 rfl
theorem zT221_51 : TT 221 51 L S M Q = TR (z_st (.goto 7) 3 51 L S M) 221 54 M Q := T_at zk221 rfl
theorem zT221_54 : TT 221 54 L S M Q = TR (z_st (.return_) 1 54 L S M) 221 55 M Q := T_at zk221 rfl
set_option maxRecDepth 100000 in
theorem zk222 : z_coL.getD 222 [] = zc222 := rfl
theorem zT222_0 : TT 222 0 L S M Q = TR (z_st (.iconst 1000000) 2 0 L S M) 222 2 M Q := T_at zk222 rfl
theorem zT222_2 : TT 222 2 L S M Q = TR (z_st (.istore 4) 2 2 L S M) 222 4 M Q := T_at zk222 rfl
theorem zT222_4 : TT 222 4 L S M Q = TR (z_st (.aload 0) 1 4 L S M) 222 5 M Q := T_at zk222 rfl
theorem zT222_5 : TT 222 5 L S M Q = TR (z_st (.fload 65) 3 5 L S M) 222 8 M Q := T_at zk222 rfl
theorem zT222_8 : TT 222 8 L S M Q = TR (z_st (.iload 2) 1 8 L S M) 222 9 M Q := T_at zk222 rfl
theorem zT222_9 : TT 222 9 L S M Q = TR (z_st (.iaload) 1 9 L S M) 222 10 M Q := T_at zk222 rfl
theorem zT222_10 : TT 222 10 L S M Q = TR (z_st (.iload 3) 1 10 L S M) 222 11 M Q := T_at zk222 rfl
theorem zT222_11 : TT 222 11 L S M Q = TR (z_st (.ishr) 1 11 L S M) 222 12 M Q := T_at zk222 rfl
theorem zT222_12 : TT 222 12 L S M Q = TR (z_st (.istore 5) 2 12 L S M) 222 14 M Q := T_at zk222 rfl
theorem zT222_14 : TT 222 14 L S M Q = TR (z_st (.iload 3) 1 14 L S M) 222 15 M Q := T_at zk222 rfl
theorem zT222_15 : TT 222 15 L S M Q = TR (z_st (.istore 6) 2 15 L S M) 222 17 M Q := T_at zk222 rfl
theorem zT222_17 : TT 222 17 L S M Q = TR (z_st (.iload 6) 2 17 L S M) 222 19 M Q := T_at zk222 rfl
theorem zT222_19 : TT 222 19 L S M Q = TR (z_st (.iconst 8) 2 19 L S M) 222 21 M Q := T_at zk222 rfl
theorem zT222_21 : TT 222 21 L S M Q = TR (z_st (.if_icmp .ge 63) 3 21 L S M) 222 24 M Q := T_at zk222 rfl
theorem zT222_24 : TT 222 24 L S M Q = TR (z_st (.iload 5) 2 24 L S M) 222 26 M Q := T_at zk222 rfl
theorem zT222_26 : TT 222 26 L S M Q = TR (z_st (.ifCond .eq 63) 3 26 L S M) 222 29 M Q := T_at zk222 rfl
theorem zT222_29 : TT 222 29 L S M Q = TR (z_st (.iload 5) 2 29 L S M) 222 31 M Q := T_at zk222 rfl
theorem zT222_31 : TT 222 31 L S M Q = TR (z_st (.iconst 1) 1 31 L S M) 222 32 M Q := T_at zk222 rfl
theorem zT222_32 : TT 222 32 L S M Q = TR (z_st (.iand) 1 32 L S M) 222 33 M Q := T_at zk222 rfl
theorem zT222_33 : TT 222 33 L S M Q = TR (z_st (.ifCond .eq 51) 3 33 L S M) 222 36 M Q := T_at zk222 rfl
theorem zT222_36 : TT 222 36 L S M Q = TR (z_st (.iload 4) 2 36 L S M) 222 38 M Q := T_at zk222 rfl
theorem zT222_38 : TT 222 38 L S M Q = TR (z_st (.aload 1) 1 38 L S M) 222 39 M Q := T_at zk222 rfl
theorem zT222_39 : TT 222 39 L S M Q = TR (z_st (.iload 2) 1 39 L S M) 222 40 M Q := T_at zk222 rfl
theorem zT222_40 : TT 222 40 L S M Q = TR (z_st (.iload 6) 2 40 L S M) 222 42 M Q := T_at zk222 rfl
theorem zT222_42 : TT 222 42 L S M Q = TR (z_st (.invokestatic 218) 3 42 L S M) 222 45 M Q := T_at zk222 rfl
theorem zT222_45 : TT 222 45 L S M Q = TR (z_st (.iaload) 1 45 L S M) 222 46 M Q := T_at zk222 rfl
theorem zT222_46 : TT 222 46 L S M Q = TR (z_st (.fsub) 3 46 L S M) 222 49 M Q := T_at zk222 rfl
theorem zT222_49 : TT 222 49 L S M Q = TR (z_st (.istore 4) 2 49 L S M) 222 51 M Q := T_at zk222 rfl
theorem zT222_51 : TT 222 51 L S M Q = TR (z_st (.iload 5) 2 51 L S M) 222 53 M Q := T_at zk222 rfl
theorem zT222_53 : TT 222 53 L S M Q = TR (z_st (.iconst 1) 1 53 L S M) 222 54 M Q := T_at zk222 rfl
theorem zT222_54 : TT 222 54 L S M Q = TR (z_st (.ishr) 1 54 L S M) 222 55 M Q := T_at zk222 rfl
theorem zT222_55 : TT 222 55 L S M Q = TR (z_st (.istore 5) 2 55 L S M) 222 57 M Q := T_at zk222 rfl
theorem zT222_57 : TT 222 57 L S M Q = TR (z_st (.iinc 6 1) 3 57 L S M) 222 60 M Q := T_at zk222 rfl
theorem zT222_60 : TT 222 60 L S M Q = TR (z_st (.goto 17) 3 60 L S M) 222 63 M Q := T_at zk222 rfl
theorem zT222_63 : TT 222 63 L S M Q = TR (z_st (.iload 4) 2 63 L S M) 222 65 M Q := T_at zk222 rfl
theorem zT222_65 : TT 222 65 L S M Q = TR (z_st (.ret 0) 1 65 L S M) 222 66 M Q := T_at zk222 rfl
set_option maxRecDepth 100000 in
theorem zk223 : z_coL.getD 223 [] = zc223 := rfl
theorem zT223_0 : TT 223 0 L S M Q = TR (z_st (.iload 1) 1 0 L S M) 223 1 M Q := T_at zk223 rfl
theorem zT223_1 : TT 223 1 L S M Q = TR (z_st (.iconst 0) 1 1 L S M) 223 2 M Q := T_at zk223 rfl
theorem zT223_2 : TT 223 2 L S M Q = TR (z_st (.invokestatic 119) 3 2 L S M) 223 5 M Q := T_at zk223 rfl
theorem zT223_5 : TT 223 5 L S M Q = TR (z_st (.ifCond .eq 17) 3 5 L S M) 223 8 M Q := T_at zk223 rfl
theorem zT223_8 : TT 223 8 L S M Q = TR (z_st (.aload 0) 1 8 L S M) 223 9 M Q := T_at zk223 rfl
theorem zT223_9 : TT 223 9 L S M Q = TR (z_st (.fload 57) 3 9 L S M) 223 12 M Q := T_at zk223 rfl
theorem zT223_12 : TT 223 12 L S M Q = TR (z_st (.iconst 0) 1 12 L S M) 223 13 M Q := T_at zk223 rfl
theorem zT223_13 : TT 223 13 L S M Q = TR (z_st (.iaload) 1 13 L S M) 223 14 M Q := T_at zk223 rfl
theorem zT223_14 : TT 223 14 L S M Q = TR (z_st (.goto 23) 3 14 L S M) 223 17 M Q := T_at zk223 rfl
theorem zT223_17 : TT 223 17 L S M Q = TR (z_st (.aload 0) 1 17 L S M) 223 18 M Q := T_at zk223 rfl
theorem zT223_18 : TT 223 18 L S M Q = TR (z_st (.fload 58) 3 18 L S M) 223 21 M Q := T_at zk223 rfl
theorem zT223_21 : TT 223 21 L S M Q = TR (z_st (.iconst 0) 1 21 L S M) 223 22 M Q := T_at zk223 rfl
theorem zT223_22 : TT 223 22 L S M Q = TR (z_st (.iaload) 1 22 L S M) 223 23 M Q := T_at zk223 rfl
theorem zT223_23 : TT 223 23 L S M Q = TR (z_st (.istore 2) 1 23 L S M) 223 24 M Q := T_at zk223 rfl
theorem zT223_24 : TT 223 24 L S M Q = TR (z_st (.iload 1) 1 24 L S M) 223 25 M Q := T_at zk223 rfl
theorem zT223_25 : TT 223 25 L S M Q = TR (z_st (.iconst 1) 1 25 L S M) 223 26 M Q := T_at zk223 rfl
theorem zT223_26 : TT 223 26 L S M Q = TR (z_st (.invokestatic 119) 3 26 L S M) 223 29 M Q := T_at zk223 rfl
theorem zT223_29 : TT 223 29 L S M Q = TR (z_st (.ifCond .eq 41) 3 29 L S M) 223 32 M Q := T_at zk223 rfl
theorem zT223_32 : TT 223 32 L S M Q = TR (z_st (.aload 0) 1 32 L S M) 223 33 M Q := T_at zk223 rfl
theorem zT223_33 : TT 223 33 L S M Q = TR (z_st (.fload 57) 3 33 L S M) 223 36 M Q := T_at zk223 rfl
theorem zT223_36 : TT 223 36 L S M Q = TR (z_st (.iconst 1) 1 36 L S M) 223 37 M Q := T_at zk223 rfl
theorem zT223_37 : TT 223 37 L S M Q = TR (z_st (.iaload) 1 37 L S M) 223 38 M Q := T_at zk223 rfl
theorem zT223_38 : TT 223 38 L S M Q = TR (z_st (.goto 47) 3 38 L S M) 223 41 M Q := T_at zk223 rfl
theorem zT223_41 : TT 223 41 L S M Q = TR (z_st (.aload 0) 1 41 L S M) 223 42 M Q := T_at zk223 rfl
theorem zT223_42 : TT 223 42 L S M Q = TR (z_st (.fload 58) 3 42 L S M) 223 45 M Q := T_at zk223 rfl
theorem zT223_45 : TT 223 45 L S M Q = TR (z_st (.iconst 1) 1 45 L S M) 223 46 M Q := T_at zk223 rfl
theorem zT223_46 : TT 223 46 L S M Q = TR (z_st (.iaload) 1 46 L S M) 223 47 M Q := T_at zk223 rfl
theorem zT223_47 : TT 223 47 L S M Q = TR (z_st (.istore 3) 1 47 L S M) 223 48 M Q := T_at zk223 rfl
theorem zT223_48 : TT 223 48 L S M Q = TR (z_st (.iload 1) 1 48 L S M) 223 49 M Q := T_at zk223 rfl
theorem zT223_49 : TT 223 49 L S M Q = TR (z_st (.iconst 2) 1 49 L S M) 223 50 M Q := T_at zk223 rfl
theorem zT223_50 : TT 223 50 L S M Q = TR (z_st (.invokestatic 119) 3 50 L S M) 223 53 M Q := T_at zk223 rfl
theorem zT223_53 : TT 223 53 L S M Q = TR (z_st (.ifCond .eq 65) 3 53 L S M) 223 56 M Q := T_at zk223 rfl
theorem zT223_56 : TT 223 56 L S M Q = TR (z_st (.aload 0) 1 56 L S M) 223 57 M Q := T_at zk223 rfl
theorem zT223_57 : TT 223 57 L S M Q = TR (z_st (.fload 57) 3 57 L S M) 223 60 M Q := T_at zk223 rfl
theorem zT223_60 : TT 223 60 L S M Q = TR (z_st (.iconst 2) 1 60 L S M) 223 61 M Q := T_at zk223 rfl
theorem zT223_61 : TT 223 61 L S M Q = TR (z_st (.iaload) 1 61 L S M) 223 62 M Q := T_at zk223 rfl
theorem zT223_62 : TT 223 62 L S M Q = TR (z_st (.goto 71) 3 62 L S M) 223 65 M Q := T_at zk223 rfl
theorem zT223_65 : TT 223 65 L S M Q = TR (z_st (.aload 0) 1 65 L S M) 223 66 M Q := T_at zk223 rfl
theorem zT223_66 : TT 223 66 L S M Q = TR (z_st (.fload 58) 3 66 L S M) 223 69 M Q := T_at zk223 rfl
theorem zT223_69 : TT 223 69 L S M Q = TR (z_st (.iconst 2) 1 69 L S M) 223 70 M Q := T_at zk223 rfl
theorem zT223_70 : TT 223 70 L S M Q = TR (z_st (.iaload) 1 70 L S M) 223 71 M Q := T_at zk223 rfl
theorem zT223_71 : TT 223 71 L S M Q = TR (z_st (.istore 4) 2 71 L S M) 223 73 M Q := T_at zk223 rfl
theorem zT223_73 : TT 223 73 L S M Q = TR (z_st (.aload 0) 1 73 L S M) 223 74 M Q := T_at zk223 rfl
theorem zT223_74 : TT 223 74 L S M Q = TR (z_st (.fload 66) 3 74 L S M) 223 77 M Q := T_at zk223 rfl
theorem zT223_77 : TT 223 77 L S M Q = TR (z_st (.iload 2) 1 77 L S M) 223 78 M Q := T_at zk223 rfl
theorem zT223_78 : TT 223 78 L S M Q = TR (z_st (.iload 3) 1 78 L S M) 223 79 M Q := T_at zk223 rfl
theorem zT223_79 : TT 223 79 L S M Q = TR (z_st (.iload 4) 2 79 L S M) 223 81 M Q := T_at zk223 rfl
theorem zT223_81 : TT 223 81 L S M Q = TR (z_st (.invokestatic 213) 3 81 L S M) 223 84 M Q := T_at zk223 rfl
theorem zT223_84 : TT 223 84 L S M Q = TR (z_st (.iaload) 1 84 L S M) 223 85 M Q := T_at zk223 rfl
theorem zT223_85 : TT 223 85 L S M Q = TR (z_st (.istore 5) 2 85 L S M) 223 87 M Q := T_at zk223 rfl
theorem zT223_87 : TT 223 87 L S M Q = TR (z_st (.iload 5) 2 87 L S M) 223 89 M Q := T_at zk223 rfl
theorem zT223_89 : TT 223 89 L S M Q = TR (z_st (.iconst 1000000) 2 89 L S M) 223 91 M Q := T_at zk223 rfl
theorem zT223_91 : TT 223 91 L S M Q = TR (z_st (.if_icmp .ge 99) 3 91 L S M) 223 94 M Q := T_at zk223 rfl
theorem zT223_94 : TT 223 94 L S M Q = TR (z_st (.iload 5) 2 94 L S M) 223 96 M Q := T_at zk223 rfl
theorem zT223_96 : TT 223 96 L S M Q = TR (z_st (.goto 100) 3 96 L S M) 223 99 M Q := T_at zk223 rfl
theorem zT223_99 : TT 223 99 L S M Q = TR (z_st (.iconst (-1)) 1 99 L S M) 223 100 M Q := T_at zk223 rfl
theorem zT223_100 : TT 223 100 L S M Q = TR (z_st (.ret 0) 1 100 L S M) 223 101 M Q := T_at zk223 rfl
set_option maxRecDepth 100000 in
theorem zk224 : z_coL.getD 224 [] = zc224 := rfl
theorem zT224_0 : TT 224 0 L S M Q = TR (z_st (.aload 0) 1 0 L S M) 224 1 M Q := T_at zk224 rfl
theorem zT224_1 : TT 224 1 L S M Q = TR (z_st (.fload 54) 3 1 L S M) 224 4 M Q := T_at zk224 rfl
theorem zT224_4 : TT 224 4 L S M Q = TR (z_st (.invokevirtual 229) 3 4 L S M) 224 7 M Q := T_at zk224 rfl
theorem zT224_7 : TT 224 7 L S M Q = TR (z_st (.aload 0) 1 7 L S M) 224 8 M Q := T_at zk224 rfl
theorem zT224_8 : TT 224 8 L S M Q = TR (z_st (.invokevirtual 219) 3 8 L S M) 224 11 M Q := T_at zk224 rfl
theorem zT224_11 : TT 224 11 L S M Q = TR (z_st (.istore 1) 1 11 L S M) 224 12 M Q := T_at zk224 rfl
theorem zT224_12 : TT 224 12 L S M Q = TR (z_st (.iconst 0) 1 12 L S M) 224 13 M Q := T_at zk224 rfl
theorem zT224_13 : TT 224 13 L S M Q = TR (z_st (.istore 2) 1 13 L S M) 224 14 M Q := T_at zk224 rfl
theorem zT224_14 : TT 224 14 L S M Q = TR (z_st (.iload 2) 1 14 L S M) 224 15 M Q := T_at zk224 rfl
theorem zT224_15 : TT 224 15 L S M Q = TR (z_st (.aload 0) 1 15 L S M) 224 16 M Q := T_at zk224 rfl
theorem zT224_16 : TT 224 16 L S M Q = TR (z_st (.getfield 56) 3 16 L S M) 224 19 M Q := T_at zk224 rfl
theorem zT224_19 : TT 224 19 L S M Q = TR (z_st (.if_icmp .ge 84) 3 19 L S M) 224 22 M Q := T_at zk224 rfl
theorem zT224_22 : TT 224 22 L S M Q = TR (z_st (.aload 0) 1 22 L S M) 224 23 M Q := T_at zk224 rfl
theorem zT224_23 : TT 224 23 L S M Q = TR (z_st (.iload 1) 1 23 L S M) 224 24 M Q := T_at zk224 rfl
theorem zT224_24 : TT 224 24 L S M Q = TR (z_st (.invokevirtual 225) 3 24 L S M) 224 27 M Q := T_at zk224 rfl
theorem zT224_27 : TT 224 27 L S M Q = TR (z_st (.istore 3) 1 27 L S M) 224 28 M Q := T_at zk224 rfl
theorem zT224_28 : TT 224 28 L S M Q = TR (z_st (.aload 0) 1 28 L S M) 224 29 M Q := T_at zk224 rfl
theorem zT224_29 : TT 224 29 L S M Q = TR (z_st (.fload 53) 3 29 L S M) 224 32 M Q := T_at zk224 rfl
theorem zT224_32 : TT 224 32 L S M Q = TR (z_st (.aload 0) 1 32 L S M) 224 33 M Q := T_at zk224 rfl
theorem zT224_33 : TT 224 33 L S M Q = TR (z_st (.fload 52) 3 33 L S M) 224 36 M Q := T_at zk224 rfl
theorem zT224_36 : TT 224 36 L S M Q = TR (z_st (.getfield 47) 3 36 L S M) 224 39 M Q := T_at zk224 rfl
theorem zT224_39 : TT 224 39 L S M Q = TR (z_st (.invokevirtual 138) 3 39 L S M) 224 42 M Q := T_at zk224 rfl
theorem zT224_42 : TT 224 42 L S M Q = TR (z_st (.aload 0) 1 42 L S M) 224 43 M Q := T_at zk224 rfl
theorem zT224_43 : TT 224 43 L S M Q = TR (z_st (.fload 53) 3 43 L S M) 224 46 M Q := T_at zk224 rfl
theorem zT224_46 : TT 224 46 L S M Q = TR (z_st (.aload 0) 1 46 L S M) 224 47 M Q := T_at zk224 rfl
theorem zT224_47 : TT 224 47 L S M Q = TR (z_st (.iload 1) 1 47 L S M) 224 48 M Q := T_at zk224 rfl
theorem zT224_48 : TT 224 48 L S M Q = TR (z_st (.invokevirtual 216) 3 48 L S M) 224 51 M Q := T_at zk224 rfl
theorem zT224_51 : TT 224 51 L S M Q = TR (z_st (.ldc 4) 3 51 L S M) 224 54 M Q := T_at zk224 rfl
theorem zT224_54 : TT 224 54 L S M Q = TR (z_st (.iload 3) 1 54 L S M) 224 55 M Q := T_at zk224 rfl
theorem zT224_55 : TT 224 55 L S M Q = TR (z_st (.iaload) 1 55 L S M) 224 56 M Q := T_at zk224 rfl
theorem zT224_56 : TT 224 56 L S M Q = TR (z_st (.ior) 1 56 L S M) 224 57 M Q := T_at zk224 rfl
theorem zT224_57 : TT 224 57 L S M Q = TR (z_st (.invokevirtual 144) 3 57 L S M) 224 60 M Q := T_at zk224 rfl
theorem zT224_60 : TT 224 60 L S M Q = TR (z_st (.aload 0) 1 60 L S M) 224 61 M Q := T_at zk224 rfl
theorem zT224_61 : TT 224 61 L S M Q = TR (z_st (.fload 54) 3 61 L S M) 224 64 M Q := T_at zk224 rfl
theorem zT224_64 : TT 224 64 L S M Q = TR (z_st (.iload 3) 1 64 L S M) 224 65 M Q := T_at zk224 rfl
theorem zT224_65 : TT 224 65 L S M Q = TR (z_st (.aload 0) 1 65 L S M) 224 66 M Q := T_at zk224 rfl
theorem zT224_66 : TT 224 66 L S M Q = TR (z_st (.fload 53) 3 66 L S M) 224 69 M Q := T_at zk224 rfl
theorem zT224_69 : TT 224 69 L S M Q = TR (z_st (.invokevirtual 230) 3 69 L S M) 224 72 M Q := T_at zk224 rfl
theorem zT224_72 : TT 224 72 L S M Q = TR (z_st (.iload 1) 1 72 L S M) 224 73 M Q := T_at zk224 rfl
theorem zT224_73 : TT 224 73 L S M Q = TR (z_st (.iload 3) 1 73 L S M) 224 74 M Q := T_at zk224 rfl
theorem zT224_74 : TT 224 74 L S M Q = TR (z_st (.invokestatic 218) 3 74 L S M) 224 77 M Q := T_at zk224 rfl
theorem zT224_77 : TT 224 77 L S M Q = TR (z_st (.istore 1) 1 77 L S M) 224 78 M Q := T_at zk224 rfl
theorem zT224_78 : TT 224 78 L S M Q = TR (z_st (.iinc 2 1) 3 78 L S M) 224 81 M Q := T_at zk224 rfl
theorem zT224_81 : TT 224 81 L S M Q = TR (z_st (.goto 14) 3 81 L S M) 224 84 M Q := T_at zk224 rfl
theorem zT224_84 : TT 224 84 L S M Q = TR (z_st (.return_) 1 84 L S M) 224 85 M Q := T_at zk224 rfl
set_option maxRecDepth 100000 in
theorem zk225 : z_coL.getD 225 [] = zc225 := rfl
theorem zT225_0 : TT 225 0 L S M Q = TR (z_st (.iconst 1) 1 0 L S M) 225 1 M Q := T_at zk225 rfl
theorem zT225_1 : TT 225 1 L S M Q = TR (z_st (.istore 2) 1 1 L S M) 225 2 M Q := T_at zk225 rfl
theorem zT225_2 : TT 225 2 L S M Q = TR (z_st (.iload 2) 1 2 L S M) 225 3 M Q := T_at zk225 rfl
theorem zT225_3 : TT 225 3 L S M Q = TR (z_st (.iconst 8) 2 3 L S M) 225 5 M Q := T_at zk225 rfl
theorem zT225_5 : TT 225 5 L S M Q = TR (z_st (.if_icmp .ge 50) 3 5 L S M) 225 8 M Q := T_at zk225 rfl
theorem zT225_8 : TT 225 8 L S M Q = TR (z_st (.aload 0) 1 8 L S M) 225 9 M Q := T_at zk225 rfl
theorem zT225_9 : TT 225 9 L S M Q = TR (z_st (.fload 65) 3 9 L S M) 225 12 M Q := T_at zk225 rfl
theorem zT225_12 : TT 225 12 L S M Q = TR (z_st (.iload 1) 1 12 L S M) 225 13 M Q := T_at zk225 rfl
theorem zT225_13 : TT 225 13 L S M Q = TR (z_st (.iaload) 1 13 L S M) 225 14 M Q := T_at zk225 rfl
theorem zT225_14 : TT 225 14 L S M Q = TR (z_st (.iload 2) 1 14 L S M) 225 15 M Q := T_at zk225 rfl
theorem zT225_15 : TT 225 15 L S M Q = TR (z_st (.invokestatic 119) 3 15 L S M) 225 18 M Q := T_at zk225 rfl
theorem zT225_18 : TT 225 18 L S M Q = TR (z_st (.ifCond .eq 44) 3 18 L S M) 225 21 M Q := T_at zk225 rfl
theorem zT225_21 : TT 225 21 L S M Q = TR (z_st (.aload 0) 1 21 L S M) 225 22 M Q := T_at zk225 rfl
theorem zT225_22 : TT 225 22 L S M Q = TR (z_st (.fload 66) 3 22 L S M) 225 25 M Q := T_at zk225 rfl
theorem zT225_25 : TT 225 25 L S M Q = TR (z_st (.iload 1) 1 25 L S M) 225 26 M Q := T_at zk225 rfl
theorem zT225_26 : TT 225 26 L S M Q = TR (z_st (.iload 2) 1 26 L S M) 225 27 M Q := T_at zk225 rfl
theorem zT225_27 : TT 225 27 L S M Q = TR (z_st (.invokestatic 218) 3 27 L S M) 225 30 M Q := T_at zk225 rfl
theorem zT225_30 : TT 225 30 L S M Q = TR (z_st (.iaload) 1 30 L S M) 225 31 M Q := T_at zk225 rfl
theorem zT225_31 : TT 225 31 L S M Q = TR (z_st (.aload 0) 1 31 L S M) 225 32 M Q := T_at zk225 rfl
theorem zT225_32 : TT 225 32 L S M Q = TR (z_st (.fload 66) 3 32 L S M) 225 35 M Q := T_at zk225 rfl
theorem zT225_35 : TT 225 35 L S M Q = TR (z_st (.iload 1) 1 35 L S M) 225 36 M Q := T_at zk225 rfl
theorem zT225_36 : TT 225 36 L S M Q = TR (z_st (.iaload) 1 36 L S M) 225 37 M Q := T_at zk225 rfl
theorem zT225_37 : TT 225 37 L S M Q = TR (z_st (.iconst 1) 1 37 L S M) 225 38 M Q := T_at zk225 rfl
theorem zT225_38 : TT 225 38 L S M Q = TR (z_st (.isub) 1 38 L S M) 225 39 M Q := T_at zk225 rfl
theorem zT225_39 : TT 225 39 L S M Q = TR (z_st (.if_icmp .ne 44) 3 39 L S M) 225 42 M Q := T_at zk225 rfl
theorem zT225_42 : TT 225 42 L S M Q = TR (z_st (.iload 2) 1 42 L S M) 225 43 M Q := T_at zk225 rfl
theorem zT225_43 : TT 225 43 L S M Q = TR (z_st (.ret 0) 1 43 L S M) 225 44 M Q := T_at zk225 rfl
theorem zT225_44 : TT 225 44 L S M Q = TR (z_st (.iinc 2 1) 3 44 L S M) 225 47 M Q := T_at zk225 rfl
theorem zT225_47 : TT 225 47 L S M Q = TR (z_st (.goto 2) 3 47 L S M) 225 50 M Q := T_at zk225 rfl
theorem zT225_50 : TT 225 50 L S M Q = TR (z_st (.iconst 0) 1 50 L S M) 225 51 M Q := T_at zk225 rfl
theorem zT225_51 : TT 225 51 L S M Q = TR (z_st (.ret 0) 1 51 L S M) 225 52 M Q := T_at zk225 rfl
set_option maxRecDepth 100000 in
theorem zk226 : z_coL.getD 226 [] = zc226 := rfl
theorem zT226_0 : TT 226 0 L S M Q = TR (z_st (.iconst 0) 1 0 L S M) 226 1 M Q := T_at zk226 rfl
theorem zT226_1 : TT 226 1 L S M Q = TR (z_st (.istore 2) 1 1 L S M) 226 2 M Q := T_at zk226 rfl
theorem zT226_2 : TT 226 2 L S M Q = TR (z_st (.iload 2) 1 2 L S M) 226 3 M Q := T_at zk226 rfl
theorem zT226_3 : TT 226 3 L S M Q = TR (z_st (.aload 0) 1 3 L S M) 226 4 M Q := T_at zk226 rfl
theorem zT226_4 : TT 226 4 L S M Q = TR (z_st (.getfield 64) 3 4 L S M) 226 7 M Q := T_at zk226 rfl
theorem zT226_7 : TT 226 7 L S M Q = TR (z_st (.if_icmp .ge 46) 3 7 L S M) 226 10 M Q := T_at zk226 rfl
theorem zT226_10 : TT 226 10 L S M Q = TR (z_st (.aload 0) 1 10 L S M) 226 11 M Q := T_at zk226 rfl
theorem zT226_11 : TT 226 11 L S M Q = TR (z_st (.fload 67) 3 11 L S M) 226 14 M Q := T_at zk226 rfl
theorem zT226_14 : TT 226 14 L S M Q = TR (z_st (.aload 0) 1 14 L S M) 226 15 M Q := T_at zk226 rfl
theorem zT226_15 : TT 226 15 L S M Q = TR (z_st (.fload 63) 3 15 L S M) 226 18 M Q := T_at zk226 rfl
theorem zT226_18 : TT 226 18 L S M Q = TR (z_st (.iload 2) 1 18 L S M) 226 19 M Q := T_at zk226 rfl
theorem zT226_19 : TT 226 19 L S M Q = TR (z_st (.iaload) 1 19 L S M) 226 20 M Q := T_at zk226 rfl
theorem zT226_20 : TT 226 20 L S M Q = TR (z_st (.aload 0) 1 20 L S M) 226 21 M Q := T_at zk226 rfl
theorem zT226_21 : TT 226 21 L S M Q = TR (z_st (.fload 63) 3 21 L S M) 226 24 M Q := T_at zk226 rfl
theorem zT226_24 : TT 226 24 L S M Q = TR (z_st (.iload 2) 1 24 L S M) 226 25 M Q := T_at zk226 rfl
theorem zT226_25 : TT 226 25 L S M Q = TR (z_st (.iaload) 1 25 L S M) 226 26 M Q := T_at zk226 rfl
theorem zT226_26 : TT 226 26 L S M Q = TR (z_st (.aload 0) 1 26 L S M) 226 27 M Q := T_at zk226 rfl
theorem zT226_27 : TT 226 27 L S M Q = TR (z_st (.invokevirtual 220) 3 27 L S M) 226 30 M Q := T_at zk226 rfl
theorem zT226_30 : TT 226 30 L S M Q = TR (z_st (.if_icmp .ne 37) 3 30 L S M) 226 33 M Q := T_at zk226 rfl
theorem zT226_33 : TT 226 33 L S M Q = TR (z_st (.iconst 0) 1 33 L S M) 226 34 M Q := T_at zk226 rfl
theorem zT226_34 : TT 226 34 L S M Q = TR (z_st (.goto 39) 3 34 L S M) 226 37 M Q := T_at zk226 rfl
theorem zT226_37 : TT 226 37 L S M Q = TR (z_st (.iconst 1000000) 2 37 L S M) 226 39 M Q := T_at zk226 rfl
theorem zT226_39 : TT 226 39 L S M Q = TR (z_st (.iastore) 1 39 L S M) 226 40 M Q := T_at zk226 rfl
theorem zT226_40 : TT 226 40 L S M Q = TR (z_st (.iinc 2 1) 3 40 L S M) 226 43 M Q := T_at zk226 rfl
theorem zT226_43 : TT 226 43 L S M Q = TR (z_st (.goto 2) 3 43 L S M) 226 46 M Q := T_at zk226 rfl
theorem zT226_46 : TT 226 46 L S M Q = TR (z_st (.iconst 1) 1 46 L S M) 226 47 M Q := T_at zk226 rfl
theorem zT226_47 : TT 226 47 L S M Q = TR (z_st (.istore 2) 1 47 L S M) 226 48 M Q := T_at zk226 rfl
theorem zT226_48 : TT 226 48 L S M Q = TR (z_st (.iload 2) 1 48 L S M) 226 49 M Q := T_at zk226 rfl
theorem zT226_49 : TT 226 49 L S M Q = TR (z_st (.iload 1) 1 49 L S M) 226 50 M Q := T_at zk226 rfl
theorem zT226_50 : TT 226 50 L S M Q = TR (z_st (.if_icmp .gt 119) 3 50 L S M) 226 53 M Q := T_at zk226 rfl
theorem zT226_53 : TT 226 53 L S M Q = TR (z_st (.iconst 0) 1 53 L S M) 226 54 M Q := T_at zk226 rfl
theorem zT226_54 : TT 226 54 L S M Q = TR (z_st (.istore 3) 1 54 L S M) 226 55 M Q := T_at zk226 rfl
theorem zT226_55 : TT 226 55 L S M Q = TR (z_st (.iload 3) 1 55 L S M) 226 56 M Q := T_at zk226 rfl
theorem zT226_56 : TT 226 56 L S M Q = TR (z_st (.aload 0) 1 56 L S M) 226 57 M Q := T_at zk226 rfl
theorem zT226_57 : TT 226 57 L S M Q = TR (z_st (.getfield 64) 3 57 L S M) 226 60 M Q := T_at zk226 rfl
theorem zT226_60 : TT 226 60 L S M Q = TR (z_st (.if_icmp .ge 113) 3 60 L S M) 226 63 M Q := T_at zk226 rfl
theorem zT226_63 : TT 226 63 L S M Q = TR (z_st (.aload 0) 1 63 L S M) 226 64 M Q := T_at zk226 rfl
theorem zT226_64 : TT 226 64 L S M Q = TR (z_st (.fload 63) 3 64 L S M) 226 67 M Q := T_at zk226 rfl
theorem zT226_67 : TT 226 67 L S M Q = TR (z_st (.iload 3) 1 67 L S M) 226 68 M Q := T_at zk226 rfl
theorem zT226_68 : TT 226 68 L S M Q = TR (z_st (.iaload) 1 68 L S M) 226 69 M Q := T_at zk226 rfl
theorem zT226_69 : TT 226 69 L S M Q = TR (z_st (.istore 4) 2 69 L S M) 226 71 M Q := T_at zk226 rfl
theorem zT226_71 : TT 226 71 L S M Q = TR (z_st (.aload 0) 1 71 L S M) 226 72 M Q := T_at zk226 rfl
theorem zT226_72 : TT 226 72 L S M Q = TR (z_st (.fload 66) 3 72 L S M) 226 75 M Q := T_at zk226 rfl
theorem zT226_75 : TT 226 75 L S M Q = TR (z_st (.iload 4) 2 75 L S M) 226 77 M Q := T_at zk226 rfl
theorem zT226_77 : TT 226 77 L S M Q = TR (z_st (.iaload) 1 77 L S M) 226 78 M Q := T_at zk226 rfl
theorem zT226_78 : TT 226 78 L S M Q = TR (z_st (.iload 2) 1 78 L S M) 226 79 M Q := T_at zk226 rfl
theorem zT226_79 : TT 226 79 L S M Q = TR (z_st (.if_icmp .gt 107) 3 79 L S M) 226 82 M Q := T_at zk226 rfl
theorem zT226_82 : TT 226 82 L S M Q = TR (z_st (.aload 0) 1 82 L S M) 226 83 M Q := T_at zk226 rfl
theorem zT226_83 : TT 226 83 L S M Q = TR (z_st (.fload 67) 3 83 L S M) 226 86 M Q := T_at zk226 rfl
theorem zT226_86 : TT 226 86 L S M Q = TR (z_st (.iload 4) 2 86 L S M) 226 88 M Q := T_at zk226 rfl
theorem zT226_88 : TT 226 88 L S M Q = TR (z_st (.aload 0) 1 88 L S M) 226 89 M Q := T_at zk226 rfl
theorem zT226_89 : TT 226 89 L S M Q = TR (z_st (.iload 4) 2 89 L S M) 226 91 M Q := T_at zk226 rfl
theorem zT226_91 : TT 226 91 L S M Q = TR (z_st (.invokevirtual 227) 3 91 L S M) 226 94 M Q := T_at zk226 rfl
theorem zT226_94 : TT 226 94 L S M Q = TR (z_st (.aload 0) 1 94 L S M) 226 95 M Q := T_at zk226 rfl
theorem zT226_95 : TT 226 95 L S M Q = TR (z_st (.aload 0) 1 95 L S M) 226 96 M Q := T_at zk226 rfl
theorem zT226_96 : TT 226 96 L S M Q = TR (z_st (.fload 67) 3 96 L S M) 226 99 M Q := T_at zk226 rfl
theorem zT226_99 : TT 226 99 L S M Q = TR (z_st (.iload 4) 2 99 L S M) 226 101 M Q := T_at zk226 rfl
theorem zT226_101 : TT 226 101 L S M Q = TR (z_st (.iconst 0) 1 101 L S M) 226 102 M Q := T_at zk226 rfl
theorem zT226_102 : TT 226 102 L S M Q = TR (z_st (.invokevirtual 222) 3 102 L S M) 226 105 M Q := T_at zk226 rfl
theorem zT226_105 : TT 226 105 L S M Q = TR (z_st (.iadd) 1 105 L S M) 226 106 M Q := T_at zk226 rfl
theorem zT226_106 : TT 226 106 L S M Q = TR (z_st (.iastore) 1 106 L S M) 226 107 M Q := T_at zk226 rfl
theorem zT226_107 : TT 226 107 L S M Q = TR (z_st (.iinc 3 1) 3 107 L S M) 226 110 M Q := T_at zk226 rfl
theorem zT226_110 : TT 226 110 L S M Q = TR (z_st (.goto 55) 3 110 L S M) 226 113 M Q := T_at zk226 rfl
theorem zT226_113 : TT 226 113 L S M Q = TR (z_st (.iinc 2 1) 3 113 L S M) 226 116 M Q := T_at zk226 rfl
theorem zT226_116 : TT 226 116 L S M Q = TR (z_st (.goto 48) 3 116 L S M) 226 119 M Q := T_at zk226 rfl
theorem zT226_119 : TT 226 119 L S M Q = TR (z_st (.aload 0) 1 119 L S M) 226 120 M Q := T_at zk226 rfl
theorem zT226_120 : TT 226 120 L S M Q = TR (z_st (.fload 67) 3 120 L S M) 226 123 M Q := T_at zk226 rfl
theorem zT226_123 : TT 226 123 L S M Q = TR (z_st (.aload 0) 1 123 L S M) 226 124 M Q := T_at zk226 rfl
theorem zT226_124 : TT 226 124 L S M Q = TR (z_st (.invokevirtual 219) 3 124 L S M) 226 127 M Q := T_at zk226 rfl
theorem zT226_127 : TT 226 127 L S M Q = TR (z_st (.iaload) 1 127 L S M) 226 128 M Q := T_at zk226 rfl
theorem zT226_128 : TT 226 128 L S M Q = TR (z_st (.istore 2) 1 128 L S M) 226 129 M Q := T_at zk226 rfl
theorem zT226_129 : TT 226 129 L S M Q = TR (z_st (.iload 2) 1 129 L S M) 226 130 M Q := T_at zk226 rfl
theorem zT226_130 : TT 226 130 L S M Q = TR (z_st (.iconst 1000000) 2 130 L S M) 226 132 M Q := T_at zk226 rfl
theorem zT226_132 : TT 226 132 L S M Q = TR (z_st (.if_icmp .ge 139) 3 132 L S M) 226 135 M Q := T_at zk226 rfl
theorem zT226_135 : TT 226 135 L S M Q = TR (z_st (.iload 2) 1 135 L S M) 226 136 M Q := T_at zk226 rfl
theorem zT226_136 : TT 226 136 L S M Q = TR (z_st (.goto 140) 3 136 L S M) 226 139 M Q := T_at zk226 rfl
theorem zT226_139 : TT 226 139 L S M Q = TR (z_st (.iconst (-1)) 1 139 L S M) 226 140 M Q := T_at zk226 rfl
theorem zT226_140 : TT 226 140 L S M Q = TR (z_st (.ret 0) 1 140 L S M) 226 141 M Q := T_at zk226 rfl
set_option maxRecDepth 100000 in
theorem zk227 : z_coL.getD 227 [] = zc227 := rfl
theorem zT227_0 : TT 227 0 L S M Q = TR (z_st (.iconst 0) 1 0 L S M) 227 1 M Q := T_at zk227 rfl
theorem zT227_1 : TT 227 1 L S M Q = TR (z_st (.istore 2) 1 1 L S M) 227 2 M Q := T_at zk227 rfl
theorem zT227_2 : TT 227 2 L S M Q = TR (z_st (.iconst 0) 1 2 L S M) 227 3 M Q := T_at zk227 rfl
theorem zT227_3 : TT 227 3 L S M Q = TR (z_st (.istore 3) 1 3 L S M) 227 4 M Q := T_at zk227 rfl
theorem zT227_4 : TT 227 4 L S M Q = TR (z_st (.iload 3) 1 4 L S M) 227 5 M Q := T_at zk227 rfl
theorem zT227_5 : TT 227 5 L S M Q = TR (z_st (.aload 0) 1 5 L S M) 227 6 M Q := T_at zk227 rfl
theorem zT227_6 : TT 227 6 L S M Q = TR (z_st (.fload 52) 3 6 L S M) 227 9 M Q := T_at zk227 rfl
theorem zT227_9 : TT 227 9 L S M Q = TR (z_st (.getfield 45) 3 9 L S M) 227 12 M Q := T_at zk227 rfl
theorem zT227_12 : TT 227 12 L S M Q = TR (z_st (.if_icmp .ge 43) 3 12 L S M) 227 15 M Q := T_at zk227 rfl
theorem zT227_15 : TT 227 15 L S M Q = TR (z_st (.iload 2) 1 15 L S M) 227 16 M Q := T_at zk227 rfl
theorem zT227_16 : TT 227 16 L S M Q = TR (z_st (.iload 1) 1 16 L S M) 227 17 M Q := T_at zk227 rfl
theorem zT227_17 : TT 227 17 L S M Q = TR (z_st (.iload 3) 1 17 L S M) 227 18 M Q := T_at zk227 rfl
theorem zT227_18 : TT 227 18 L S M Q = TR (z_st (.invokestatic 214) 3 18 L S M) 227 21 M Q := T_at zk227 rfl
theorem zT227_21 : TT 227 21 L S M Q = TR (z_st (.aload 0) 1 21 L S M) 227 22 M Q := T_at zk227 rfl
theorem zT227_22 : TT 227 22 L S M Q = TR (z_st (.fload 58) 3 22 L S M) 227 25 M Q := T_at zk227 rfl
theorem zT227_25 : TT 227 25 L S M Q = TR (z_st (.iload 3) 1 25 L S M) 227 26 M Q := T_at zk227 rfl
theorem zT227_26 : TT 227 26 L S M Q = TR (z_st (.iaload) 1 26 L S M) 227 27 M Q := T_at zk227 rfl
theorem zT227_27 : TT 227 27 L S M Q = TR (z_st (.if_icmp .ne 34) 3 27 L S M) 227 30 M Q := T_at zk227 rfl
theorem zT227_30 : TT 227 30 L S M Q = TR (z_st (.iconst 1) 1 30 L S M) 227 31 M Q := T_at zk227 rfl
theorem zT227_31 : TT 227 31 L S M Q = TR (z_st (.goto 35) 3 31 L S M) 227 34 M Q := T_at zk227 rfl
theorem zT227_34 : TT 227 34 L S M Q = TR (z_st (.iconst 0) 1 34 L S M) 227 35 M Q := T_at zk227 rfl
theorem zT227_35 : TT 227 35 L S M Q = TR (z_st (.iadd) 1 35 L S M) 227 36 M Q := T_at zk227 rfl
theorem zT227_36 : TT 227 36 L S M Q = TR (z_st (.istore 2) 1 36 L S M) 227 37 M Q := T_at zk227 rfl
theorem zT227_37 : TT 227 37 L S M Q = TR (z_st (.iinc 3 1) 3 37 L S M) 227 40 M Q := T_at zk227 rfl
theorem zT227_40 : TT 227 40 L S M Q = TR (z_st (.goto 4) 3 40 L S M) 227 43 M Q := T_at zk227 rfl
theorem zT227_43 : TT 227 43 L S M Q = TR (z_st (.iload 2) 1 43 L S M) 227 44 M Q := T_at zk227 rfl
theorem zT227_44 : TT 227 44 L S M Q = TR (z_st (.ret 0) 1 44 L S M) 227 45 M Q := T_at zk227 rfl
set_option maxRecDepth 100000 in
theorem zk228 : z_coL.getD 228 [] = zc228 := rfl
theorem zT228_0 : TT 228 0 L S M Q = TR (z_st (.aload 0) 1 0 L S M) 228 1 M Q := T_at zk228 rfl
theorem zT228_1 : TT 228 1 L S M Q = TR (z_st (.athrow) 3 1 L S M) 228 4 M Q := T_at zk228 rfl
theorem zT228_4 : TT 228 4 L S M Q = TR (z_st (.aload 0) 1 4 L S M) 228 5 M Q := T_at zk228 rfl
theorem zT228_5 : TT 228 5 L S M Q = TR (z_st (.iconst 45) 2 5 L S M) 228 7 M Q := T_at zk228 rfl
theorem zT228_7 : TT 228 7 L S M Q = TR (z_st (.newarray .int) 2 7 L S M) 228 9 M Q := T_at zk228 rfl
theorem zT228_9 : TT 228 9 L S M Q = TR (z_st (.fstore 68) 3 9 L S M) 228 12 M Q := T_at zk228 rfl
theorem zT228_12 : TT 228 12 L S M Q = TR (z_st (.aload 0) 1 12 L S M) 228 13 M Q := T_at zk228 rfl
theorem zT228_13 : TT 228 13 L S M Q = TR (z_st (.iconst 135) 3 13 L S M) 228 16 M Q := T_at zk228 rfl
theorem zT228_16 : TT 228 16 L S M Q = TR (z_st (.newarray .int) 2 16 L S M) 228 18 M Q := T_at zk228 rfl
theorem zT228_18 : TT 228 18 L S M Q = TR (z_st (.fstore 69) 3 18 L S M) 228 21 M Q := T_at zk228 rfl
theorem zT228_21 : TT 228 21 L S M Q = TR (z_st (.return_) 1 21 L S M) 228 22 M Q := T_at zk228 rfl
set_option maxRecDepth 100000 in
theorem zk229 : z_coL.getD 229 [] = zc229 := rfl
theorem zT229_0 : TT 229 0 L S M Q = TR (z_st (.aload 0) 1 0 L S M) 229 1 M Q := T_at zk229 rfl
theorem zT229_1 : TT 229 1 L S M Q = TR (z_st (.iconst 0) 1 1 L S M) 229 2 M Q := T_at zk229 rfl
theorem zT229_2 : TT 229 2 L S M Q = TR (z_st (.putfield 70) 3 2 L S M) 229 5 M Q := T_at zk229 rfl
theorem zT229_5 : TT 229 5 L S M Q = TR (z_st (.return_) 1 5 L S M) 229 6 M Q := T_at zk229 rfl
set_option maxRecDepth 100000 in
theorem zk230 : z_coL.getD 230 [] = zc230 := rfl
theorem zT230_0 : TT 230 0 L S M Q = TR (z_st (.aload 0) 1 0 L S M) 230 1 M Q := T_at zk230 rfl
theorem zT230_1 : TT 230 1 L S M Q = TR (z_st (.getfield 70) 3 1 L S M) 230 4 M Q := T_at zk230 rfl
theorem zT230_4 : TT 230 4 L S M Q = TR (z_st (.iconst 45) 2 4 L S M) 230 6 M Q := T_at zk230 rfl
theorem zT230_6 : TT 230 6 L S M Q = TR (z_st (.if_icmp .ge 60) 3 6 L S M) 230 9 M Q := T_at zk230 rfl
theorem zT230_9 : TT 230 9 L S M Q = TR (z_st (.aload 0) 1 9 L S M) 230 10 M Q := T_at zk230 rfl
theorem zT230_10 : TT 230 10 L S M Q = TR (z_st (.fload 68) 3 10 L S M) 230 13 M Q := T_at zk230 rfl
theorem zT230_13 : TT 230 13 L S M Q = TR (z_st (.aload 0) 1 13 L S M) 230 14 M Q := T_at zk230 rfl
theorem zT230_14 : TT 230 14 L S M Q = TR (z_st (.getfield 70) 3 14 L S M) 230 17 M Q := T_at zk230 rfl
theorem zT230_17 : TT 230 17 L S M Q = TR (z_st (.iload 1) 1 17 L S M) 230 18 M Q := T_at zk230 rfl
theorem zT230_18 : TT 230 18 L S M Q = TR (z_st (.iastore) 1 18 L S M) 230 19 M Q := T_at zk230 rfl
theorem zT230_19 : TT 230 19 L S M Q = TR (z_st (.iconst 0) 1 19 L S M) 230 20 M Q := T_at zk230 rfl
theorem zT230_20 : TT 230 20 L S M Q = TR (z_st (.istore 3) 1 20 L S M) 230 21 M Q := T_at zk230 rfl
theorem zT230_21 : TT 230 21 L S M Q = TR (z_st (.iload 3) 1 21 L S M) 230 22 M Q := T_at zk230 rfl
theorem zT230_22 : TT 230 22 L S M Q = TR (z_st (.iconst 3) 1 22 L S M) 230 23 M Q := T_at zk230 rfl
theorem zT230_23 : TT 230 23 L S M Q = TR (z_st (.if_icmp .ge 50) 3 23 L S M) 230 26 M Q := T_at zk230 rfl
theorem zT230_26 : TT 230 26 L S M Q = TR (z_st (.aload 0) 1 26 L S M) 230 27 M Q := T_at zk230 rfl
theorem zT230_27 : TT 230 27 L S M Q = TR (z_st (.fload 69) 3 27 L S M) 230 30 M Q := T_at zk230 rfl
theorem zT230_30 : TT 230 30 L S M Q = TR (z_st (.aload 0) 1 30 L S M) 230 31 M Q := T_at zk230 rfl
theorem zT230_31 : TT 230 31 L S M Q = TR (z_st (.getfield 70) 3 31 L S M) 230 34 M Q := T_at zk230 rfl
theorem zT230_34 : TT 230 34 L S M Q = TR (z_st (.iconst 3) 1 34 L S M) 230 35 M Q := T_at zk230 rfl
theorem zT230_35 : TT 230 35 L S M Q = TR (z_st (.imul) 1 35 L S M) 230 36 M Q := T_at zk230 rfl
theorem zT230_36 : TT 230 36 L S M Q = TR (z_st (.iload 3) 1 36 L S M) 230 37 M Q := T_at zk230 rfl
theorem zT230_37 : TT 230 37 L S M Q = TR (z_st (.iadd) 1 37 L S M) 230 38 M Q := T_at zk230 rfl
theorem zT230_38 : TT 230 38 L S M Q = TR (z_st (.aload 2) 1 38 L S M) 230 39 M Q := T_at zk230 rfl
theorem zT230_39 : TT 230 39 L S M Q = TR (z_st (.iload 3) 1 39 L S M) 230 40 M Q := T_at zk230 rfl
theorem zT230_40 : TT 230 40 L S M Q = TR (z_st (.invokevirtual 148) 3 40 L S M) 230 43 M Q := T_at zk230 rfl
theorem zT230_43 : TT 230 43 L S M Q = TR (z_st (.iastore) 1 43 L S M) 230 44 M Q := T_at zk230 rfl
theorem zT230_44 : TT 230 44 L S M Q = TR (z_st (.iinc 3 1) 3 44 L S M) 230 47 M Q := T_at zk230 rfl
theorem zT230_47 : TT 230 47 L S M Q = TR (z_st (.goto 21) 3 47 L S M) 230 50 M Q := T_at zk230 rfl
theorem zT230_50 : TT 230 50 L S M Q = TR (z_st (.aload 0) 1 50 L S M) 230 51 M Q := T_at zk230 rfl
theorem zT230_51 : TT 230 51 L S M Q = TR (z_st (.dup) 1 51 L S M) 230 52 M Q := T_at zk230 rfl
theorem zT230_52 : TT 230 52 L S M Q = TR (z_st (.getfield 70) 3 52 L S M) 230 55 M Q := T_at zk230 rfl
theorem zT230_55 : TT 230 55 L S M Q = TR (z_st (.iconst 1) 1 55 L S M) 230 56 M Q := T_at zk230 rfl
theorem zT230_56 : TT 230 56 L S M Q = TR (z_st (.iadd) 1 56 L S M) 230 57 M Q := T_at zk230 rfl
theorem zT230_57 : TT 230 57 L S M Q = TR (z_st (.putfield 70) 3 57 L S M) 230 60 M Q := T_at zk230 rfl
theorem zT230_60 : TT 230 60 L S M Q = TR (z_st (.return_) 1 60 L S M) 230 61 M Q := T_at zk230 rfl
set_option maxRecDepth 100000 in
theorem zk231 : z_coL.getD 231 [] = zc231 := rfl
theorem zT231_0 : TT 231 0 L S M Q = TR (z_st (.iload 1) 1 0 L S M) 231 1 M Q := T_at zk231 rfl
theorem zT231_1 : TT 231 1 L S M Q = TR (z_st (.ifCond .lt 27) 3 1 L S M) 231 4 M Q := T_at zk231 rfl
theorem zT231_4 : TT 231 4 L S M Q = TR (z_st (.iload 1) 1 4 L S M) 231 5 M Q := T_at zk231 rfl
theorem zT231_5 : TT 231 5 L S M Q = TR (z_st (.aload 0) 1 5 L S M) 231 6 M Q := T_at zk231 rfl
theorem zT231_6 : TT 231 6 L S M Q = TR (z_st (.getfield 70) 3 6 L S M) 231 9 M Q := T_at zk231 rfl
theorem zT231_9 : TT 231 9 L S M Q = TR (z_st (.if_icmp .ge 27) 3 9 L S M) 231 12 M Q := T_at zk231 rfl
theorem zT231_12 : TT 231 12 L S M Q = TR (z_st (.iload 1) 1 12 L S M) 231 13 M Q := T_at zk231 rfl
theorem zT231_13 : TT 231 13 L S M Q = TR (z_st (.iconst 45) 2 13 L S M) 231 15 M Q := T_at zk231 rfl
theorem zT231_15 : TT 231 15 L S M Q = TR (z_st (.if_icmp .ge 27) 3 15 L S M) 231 18 M Q := T_at zk231 rfl
theorem zT231_18 : TT 231 18 L S M Q = TR (z_st (.aload 0) 1 18 L S M) 231 19 M Q := T_at zk231 rfl
theorem zT231_19 : TT 231 19 L S M Q = TR (z_st (.fload 68) 3 19 L S M) 231 22 M Q := T_at zk231 rfl
theorem zT231_22 : TT 231 22 L S M Q = TR (z_st (.iload 1) 1 22 L S M) 231 23 M Q := T_at zk231 rfl
theorem zT231_23 : TT 231 23 L S M Q = TR (z_st (.iaload) 1 23 L S M) 231 24 M Q := T_at zk231 rfl
theorem zT231_24 : TT 231 24 L S M Q = TR (z_st (.goto 29) 3 24 L S M) 231 27 M Q := T_at zk231 rfl
theorem zT231_27 : TT 231 27 L S M Q = TR (z_st (.iconst (-5)) 2 27 L S M) 231 29 M Q := T_at zk231 rfl
theorem zT231_29 : TT 231 29 L S M Q = TR (z_st (.ret 0) 1 29 L S M) 231 30 M Q := T_at zk231 rfl
set_option maxRecDepth 100000 in
theorem zk232 : z_coL.getD 232 [] = zc232 := rfl
theorem zT232_0 : TT 232 0 L S M Q = TR (z_st (.iload 1) 1 0 L S M) 232 1 M Q := T_at zk232 rfl
theorem zT232_1 : TT 232 1 L S M Q = TR (z_st (.iconst 3) 1 1 L S M) 232 2 M Q := T_at zk232 rfl
theorem zT232_2 : TT 232 2 L S M Q = TR (z_st (.imul) 1 2 L S M) 232 3 M Q := T_at zk232 rfl
theorem zT232_3 : TT 232 3 L S M Q = TR (z_st (.iload 2) 1 3 L S M) 232 4 M Q := T_at zk232 rfl
theorem zT232_4 : TT 232 4 L S M Q = TR (z_st (.iadd) 1 4 L S M) 232 5 M Q := T_at zk232 rfl
theorem zT232_5 : TT 232 5 L S M Q = TR (z_st (.istore 3) 1 5 L S M) 232 6 M Q := T_at zk232 rfl
theorem zT232_6 : TT 232 6 L S M Q = TR (z_st (.iload 3) 1 6 L S M) 232 7 M Q := T_at zk232 rfl
theorem zT232_7 : TT 232 7 L S M Q = TR (z_st (.ifCond .lt 28) 3 7 L S M) 232 10 M Q := T_at zk232 rfl
theorem zT232_10 : TT 232 10 L S M Q = TR (z_st (.iload 3) 1 10 L S M) 232 11 M Q := T_at zk232 rfl
theorem zT232_11 : TT 232 11 L S M Q = TR (z_st (.aload 0) 1 11 L S M) 232 12 M Q := T_at zk232 rfl
theorem zT232_12 : TT 232 12 L S M Q = TR (z_st (.fload 69) 3 12 L S M) 232 15 M Q := T_at zk232 rfl
theorem zT232_15 : TT 232 15 L S M Q = TR (z_st (.arraylength) 1 15 L S M) 232 16 M Q := T_at zk232 rfl
theorem zT232_16 : TT 232 16 L S M Q = TR (z_st (.if_icmp .ge 28) 3 16 L S M) 232 19 M Q := T_at zk232 rfl
theorem zT232_19 : TT 232 19 L S M Q = TR (z_st (.aload 0) 1 19 L S M) 232 20 M Q := T_at zk232 rfl
theorem zT232_20 : TT 232 20 L S M Q = TR (z_st (.fload 69) 3 20 L S M) 232 23 M Q := T_at zk232 rfl
theorem zT232_23 : TT 232 23 L S M Q = TR (z_st (.iload 3) 1 23 L S M) 232 24 M Q := T_at zk232 rfl
theorem zT232_24 : TT 232 24 L S M Q = TR (z_st (.iaload) 1 24 L S M) 232 25 M Q := T_at zk232 rfl
theorem zT232_25 : TT 232 25 L S M Q = TR (z_st (.goto 29) 3 25 L S M) 232 28 M Q := T_at zk232 rfl
theorem zT232_28 : TT 232 28 L S M Q = TR (z_st (.iconst 0) 1 28 L S M) 232 29 M Q := T_at zk232 rfl
theorem zT232_29 : TT 232 29 L S M Q = TR (z_st (.ret 0) 1 29 L S M) 232 30 M Q := T_at zk232 rfl
set_option maxRecDepth 100000 in
theorem zk233 : z_coL.getD 233 [] = zc233 := rfl
theorem zT233_0 : TT 233 0 L S M Q = TR (z_st (.aload 0) 1 0 L S M) 233 1 M Q := T_at zk233 rfl
theorem zT233_1 : TT 233 1 L S M Q = TR (z_st (.iload 1) 1 1 L S M) 233 2 M Q := T_at zk233 rfl
theorem zT233_2 : TT 233 2 L S M Q = TR (z_st (.iload 2) 1 2 L S M) 233 3 M Q := T_at zk233 rfl
theorem zT233_3 : TT 233 3 L S M Q = TR (z_st (.invokevirtual 232) 3 3 L S M) 233 6 M Q := T_at zk233 rfl
theorem zT233_6 : TT 233 6 L S M Q = TR (z_st (.invokestatic 238) 3 6 L S M) 233 9 M Q := T_at zk233 rfl
theorem zT233_9 : TT 233 9 L S M Q = TR (z_st (.iconst 2) 1 9 L S M) 233 10 M Q := T_at zk233 rfl
theorem zT233_10 : TT 233 10 L S M Q = TR (z_st (.if_icmp .lt 17) 3 10 L S M) 233 13 M Q := T_at zk233 rfl
theorem zT233_13 : TT 233 13 L S M Q = TR (z_st (.iconst 1) 1 13 L S M) 233 14 M Q := T_at zk233 rfl
theorem zT233_14 : TT 233 14 L S M Q = TR (z_st (.goto 18) 3 14 L S M) 233 17 M Q := T_at zk233 rfl
theorem zT233_17 : TT 233 17 L S M Q = TR (z_st (.iconst 0) 1 17 L S M) 233 18 M Q := T_at zk233 rfl
theorem zT233_18 : TT 233 18 L S M Q = TR (z_st (.ret 1) 1 18 L S M) 233 19 M Q := T_at zk233 rfl
set_option maxRecDepth 100000 in
theorem zk234 : z_coL.getD 234 [] = zc234 := rfl
theorem zT234_0 : TT 234 0 L S M Q = TR (z_st (.iconst 0) 1 0 L S M) 234 1 M Q := T_at zk234 rfl
theorem zT234_1 : TT 234 1 L S M Q = TR (z_st (.istore 1) 1 1 L S M) 234 2 M Q := T_at zk234 rfl
theorem zT234_2 : TT 234 2 L S M Q = TR (z_st (.iconst 0) 1 2 L S M) 234 3 M Q := T_at zk234 rfl
theorem zT234_3 : TT 234 3 L S M Q = TR (z_st (.istore 2) 1 3 L S M) 234 4 M Q := T_at zk234 rfl
theorem zT234_4 : TT 234 4 L S M Q = TR (z_st (.iload 2) 1 4 L S M) 234 5 M Q := T_at zk234 rfl
theorem zT234_5 : TT 234 5 L S M Q = TR (z_st (.aload 0) 1 5 L S M) 234 6 M Q := T_at zk234 rfl
theorem zT234_6 : TT 234 6 L S M Q = TR (z_st (.getfield 70) 3 6 L S M) 234 9 M Q := T_at zk234 rfl
theorem zT234_9 : TT 234 9 L S M Q = TR (z_st (.if_icmp .ge 48) 3 9 L S M) 234 12 M Q := T_at zk234 rfl
theorem zT234_12 : TT 234 12 L S M Q = TR (z_st (.iconst 0) 1 12 L S M) 234 13 M Q := T_at zk234 rfl
theorem zT234_13 : TT 234 13 L S M Q = TR (z_st (.istore 3) 1 13 L S M) 234 14 M Q := T_at zk234 rfl
theorem zT234_14 : TT 234 14 L S M Q = TR (z_st (.iload 3) 1 14 L S M) 234 15 M Q := T_at zk234 rfl
theorem zT234_15 : TT 234 15 L S M Q = TR (z_st (.iconst 3) 1 15 L S M) 234 16 M Q := T_at zk234 rfl
theorem zT234_16 : TT 234 16 L S M Q = TR (z_st (.if_icmp .ge 42) 3 16 L S M) 234 19 M Q := T_at zk234 rfl
theorem zT234_19 : TT 234 19 L S M Q = TR (z_st (.iload 1) 1 19 L S M) 234 20 M Q := T_at zk234 rfl
theorem zT234_20 : TT 234 20 L S M Q = TR (z_st (.aload 0) 1 20 L S M) 234 21 M Q := T_at zk234 rfl
theorem zT234_21 : TT 234 21 L S M Q = TR (z_st (.iload 2) 1 21 L S M) 234 22 M Q := T_at zk234 rfl
theorem zT234_22 : TT 234 22 L S M Q = TR (z_st (.iload 3) 1 22 L S M) 234 23 M Q := T_at zk234 rfl
theorem zT234_23 : TT 234 23 L S M Q = TR (z_st (.invokevirtual 233) 3 23 L S M) 234 26 M Q := T_at zk234 rfl
theorem zT234_26 : TT 234 26 L S M Q = TR (z_st (.ifCond .eq 33) 3 26 L S M) 234 29 M Q := T_at zk234 rfl
theorem zT234_29 : TT 234 29 L S M Q = TR (z_st (.iconst 1) 1 29 L S M) 234 30 M Q := T_at zk234 rfl
theorem zT234_30 : TT 234 30 L S M Q = TR (z_st (.goto 34) 3 30 L S M) 234 33 M Q := T_at zk234 rfl
theorem zT234_33 : TT 234 33 L S M Q = TR (z_st (.iconst 0) 1 33 L S M) 234 34 M Q := T_at zk234 rfl
theorem zT234_34 : TT 234 34 L S M Q = TR (z_st (.iadd) 1 34 L S M) 234 35 M Q := T_at zk234 rfl
theorem zT234_35 : TT 234 35 L S M Q = TR (z_st (.istore 1) 1 35 L S M) 234 36 M Q := T_at zk234 rfl
theorem zT234_36 : TT 234 36 L S M Q = TR (z_st (.iinc 3 1) 3 36 L S M) 234 39 M Q := T_at zk234 rfl
theorem zT234_39 : TT 234 39 L S M Q = TR (z_st (.goto 14) 3 39 L S M) 234 42 M Q := T_at zk234 rfl
theorem zT234_42 : TT 234 42 L S M Q = TR (z_st (.iinc 2 1) 3 42 L S M) 234 45 M Q := T_at zk234 rfl
theorem zT234_45 : TT 234 45 L S M Q = TR (z_st (.goto 4) 3 45 L S M) 234 48 M Q := T_at zk234 rfl
theorem zT234_48 : TT 234 48 L S M Q = TR (z_st (.iload 1) 1 48 L S M) 234 49 M Q := T_at zk234 rfl
theorem zT234_49 : TT 234 49 L S M Q = TR (z_st (.ret 0) 1 49 L S M) 234 50 M Q := T_at zk234 rfl
set_option maxRecDepth 100000 in
theorem zk235 : z_coL.getD 235 [] = zc235 := rfl
theorem zT235_0 : TT 235 0 L S M Q = TR (z_st (.iconst 0) 1 0 L S M) 235 1 M Q := T_at zk235 rfl
theorem zT235_1 : TT 235 1 L S M Q = TR (z_st (.istore 2) 1 1 L S M) 235 2 M Q := T_at zk235 rfl
theorem zT235_2 : TT 235 2 L S M Q = TR (z_st (.iconst 0) 1 2 L S M) 235 3 M Q := T_at zk235 rfl
theorem zT235_3 : TT 235 3 L S M Q = TR (z_st (.istore 3) 1 3 L S M) 235 4 M Q := T_at zk235 rfl
theorem zT235_4 : TT 235 4 L S M Q = TR (z_st (.iload 3) 1 4 L S M) 235 5 M Q := T_at zk235 rfl
theorem zT235_5 : TT 235 5 L S M Q = TR (z_st (.aload 0) 1 5 L S M) 235 6 M Q := T_at zk235 rfl
theorem zT235_6 : TT 235 6 L S M Q = TR (z_st (.getfield 70) 3 6 L S M) 235 9 M Q := T_at zk235 rfl
theorem zT235_9 : TT 235 9 L S M Q = TR (z_st (.if_icmp .ge 65) 3 9 L S M) 235 12 M Q := T_at zk235 rfl
theorem zT235_12 : TT 235 12 L S M Q = TR (z_st (.iconst 0) 1 12 L S M) 235 13 M Q := T_at zk235 rfl
theorem zT235_13 : TT 235 13 L S M Q = TR (z_st (.istore 4) 2 13 L S M) 235 15 M Q := T_at zk235 rfl
theorem zT235_15 : TT 235 15 L S M Q = TR (z_st (.iload 4) 2 15 L S M) 235 17 M Q := T_at zk235 rfl
theorem zT235_17 : TT 235 17 L S M Q = TR (z_st (.iconst 3) 1 17 L S M) 235 18 M Q := T_at zk235 rfl
theorem zT235_18 : TT 235 18 L S M Q = TR (z_st (.if_icmp .ge 59) 3 18 L S M) 235 21 M Q := T_at zk235 rfl
theorem zT235_21 : TT 235 21 L S M Q = TR (z_st (.iload 2) 1 21 L S M) 235 22 M Q := T_at zk235 rfl
theorem zT235_22 : TT 235 22 L S M Q = TR (z_st (.aload 0) 1 22 L S M) 235 23 M Q := T_at zk235 rfl
theorem zT235_23 : TT 235 23 L S M Q = TR (z_st (.iload 3) 1 23 L S M) 235 24 M Q := T_at zk235 rfl
theorem zT235_24 : TT 235 24 L S M Q = TR (z_st (.iload 4) 2 24 L S M) 235 26 M Q := T_at zk235 rfl
theorem zT235_26 : TT 235 26 L S M Q = TR (z_st (.invokevirtual 233) 3 26 L S M) 235 29 M Q := T_at zk235 rfl
theorem zT235_29 : TT 235 29 L S M Q = TR (z_st (.ifCond .eq 50) 3 29 L S M) 235 32 M Q := T_at zk235 rfl
theorem zT235_32 : TT 235 32 L S M Q = TR (z_st (.aload 0) 1 32 L S M) 235 33 M Q := T_at zk235 rfl
theorem zT235_33 : TT 235 33 L S M Q = TR (z_st (.iload 3) 1 33 L S M) 235 34 M Q := T_at zk235 rfl
theorem zT235_34 : TT 235 34 L S M Q = TR (z_st (.iload 4) 2 34 L S M) 235 36 M Q := T_at zk235 rfl
theorem zT235_36 : TT 235 36 L S M Q = TR (z_st (.invokevirtual 232) 3 36 L S M) 235 39 M Q := T_at zk235 rfl
theorem zT235_39 : TT 235 39 L S M Q = TR (z_st (.iload 1) 1 39 L S M) 235 40 M Q := T_at zk235 rfl
theorem zT235_40 : TT 235 40 L S M Q = TR (z_st (.invokestatic 119) 3 40 L S M) 235 43 M Q := T_at zk235 rfl
theorem zT235_43 : TT 235 43 L S M Q = TR (z_st (.ifCond .eq 50) 3 43 L S M) 235 46 M Q := T_at zk235 rfl
theorem zT235_46 : TT 235 46 L S M Q = TR (z_st (.iconst 1) 1 46 L S M) 235 47 M Q := T_at zk235 rfl
theorem zT235_47 : TT 235 47 L S M Q = TR (z_st (.goto 51) 3 47 L S M) 235 50 M Q := T_at zk235 rfl
theorem zT235_50 : TT 235 50 L S M Q = TR (z_st (.iconst 0) 1 50 L S M) 235 51 M Q := T_at zk235 rfl
theorem zT235_51 : TT 235 51 L S M Q = TR (z_st (.iadd) 1 51 L S M) 235 52 M Q := T_at zk235 rfl
theorem zT235_52 : TT 235 52 L S M Q = TR (z_st (.istore 2) 1 52 L S M) 235 53 M Q := T_at zk235 rfl
theorem zT235_53 : TT 235 53 L S M Q = TR (z_st (.iinc 4 1) 3 53 L S M) 235 56 M Q := T_at zk235 rfl
theorem zT235_56 : TT 235 56 L S M Q = TR (z_st (.goto 15) 3 56 L S M) 235 59 M Q := T_at zk235 rfl
theorem zT235_59 : TT 235 59 L S M Q = TR (z_st (.iinc 3 1) 3 59 L S M) 235 62 M Q := T_at zk235 rfl
theorem zT235_62 : TT 235 62 L S M Q = TR (z_st (.goto 4) 3 62 L S M) 235 65 M Q := T_at zk235 rfl
theorem zT235_65 : TT 235 65 L S M Q = TR (z_st (.iload 2) 1 65 L S M) 235 66 M Q := T_at zk235 rfl
theorem zT235_66 : TT 235 66 L S M Q = TR (z_st (.ret 0) 1 66 L S M) 235 67 M Q := T_at zk235 rfl
set_option maxRecDepth 100000 in
theorem zk236 : z_coL.getD 236 [] = zc236 := rfl
theorem zT236_0 : TT 236 0 L S M Q = TR (z_st (.iload 2) 1 0 L S M) 236 1 M Q := T_at zk236 rfl
theorem zT236_1 : TT 236 1 L S M Q = TR (z_st (.i2l) 1 1 L S M) 236 2 M Q := T_at zk236 rfl
theorem zT236_2 : TT 236 2 L S M Q = TR (z_st (.lstore 3) 1 2 L S M) 236 3 M Q := T_at zk236 rfl
theorem zT236_3 : TT 236 3 L S M Q = TR (z_st (.iconst 0) 1 3 L S M) 236 4 M Q := T_at zk236 rfl
theorem zT236_4 : TT 236 4 L S M Q = TR (z_st (.istore 5) 2 4 L S M) 236 6 M Q := T_at zk236 rfl
theorem zT236_6 : TT 236 6 L S M Q = TR (z_st (.iload 5) 2 6 L S M) 236 8 M Q := T_at zk236 rfl
theorem zT236_8 : TT 236 8 L S M Q = TR (z_st (.aload 0) 1 8 L S M) 236 9 M Q := T_at zk236 rfl
theorem zT236_9 : TT 236 9 L S M Q = TR (z_st (.getfield 70) 3 9 L S M) 236 12 M Q := T_at zk236 rfl
theorem zT236_12 : TT 236 12 L S M Q = TR (z_st (.if_icmp .ge 85) 3 12 L S M) 236 15 M Q := T_at zk236 rfl
theorem zT236_15 : TT 236 15 L S M Q = TR (z_st (.iconst 0) 1 15 L S M) 236 16 M Q := T_at zk236 rfl
theorem zT236_16 : TT 236 16 L S M Q = TR (z_st (.istore 6) 2 16 L S M) 236 18 M Q := T_at zk236 rfl
theorem zT236_18 : TT 236 18 L S M Q = TR (z_st (.iload 6) 2 18 L S M) 236 20 M Q := T_at zk236 rfl
theorem zT236_20 : TT 236 20 L S M Q = TR (z_st (.iconst 3) 1 20 L S M) 236 21 M Q := T_at zk236 rfl
theorem zT236_21 : TT 236 21 L S M Q = TR (z_st (.if_icmp .ge 79) 3 21 L S M) 236 24 M Q := T_at zk236 rfl
theorem zT236_24 : TT 236 24 L S M Q = TR (z_st (.aload 0) 1 24 L S M) 236 25 M Q := T_at zk236 rfl
theorem zT236_25 : TT 236 25 L S M Q = TR (z_st (.iload 5) 2 25 L S M) 236 27 M Q := T_at zk236 rfl
theorem zT236_27 : TT 236 27 L S M Q = TR (z_st (.iload 6) 2 27 L S M) 236 29 M Q := T_at zk236 rfl
theorem zT236_29 : TT 236 29 L S M Q = TR (z_st (.invokevirtual 233) 3 29 L S M) 236 32 M Q := T_at zk236 rfl
theorem zT236_32 : TT 236 32 L S M Q = TR (z_st (.ifCond .eq 73) 3 32 L S M) 236 35 M Q := T_at zk236 rfl
theorem zT236_35 : TT 236 35 L S M Q = TR (z_st (.lload 3) 1 35 L S M) 236 36 M Q := T_at zk236 rfl
theorem zT236_36 : TT 236 36 L S M Q = TR (z_st (.ldc2_w 1103515245) 3 36 L S M) 236 39 M Q := T_at zk236 rfl
theorem zT236_39 : TT 236 39 L S M Q = TR (z_st (.lmul) 1 39 L S M) 236 40 M Q := T_at zk236 rfl
theorem zT236_40 : TT 236 40 L S M Q = TR (z_st (.ldc2_w 12345) 3 40 L S M) 236 43 M Q := T_at zk236 rfl
theorem zT236_43 : TT 236 43 L S M Q = TR (z_st (.ladd) 1 43 L S M) 236 44 M Q := T_at zk236 rfl
theorem zT236_44 : TT 236 44 L S M Q = TR (z_st (.ldc2_w 2147483648) 3 44 L S M) 236 47 M Q := T_at zk236 rfl
theorem zT236_47 : TT 236 47 L S M Q = TR (z_st (.lrem) 1 47 L S M) 236 48 M Q := T_at zk236 rfl
theorem zT236_48 : TT 236 48 L S M Q = TR (z_st (.lstore 3) 1 48 L S M) 236 49 M Q := T_at zk236 rfl
theorem zT236_49 : TT 236 49 L S M Q = TR (z_st (.lload 3) 1 49 L S M) 236 50 M Q := T_at zk236 rfl
theorem zT236_50 : TT 236 50 L S M Q = TR (z_st (.ldc2_w 65536) 3 50 L S M) 236 53 M Q := T_at zk236 rfl
theorem zT236_53 : TT 236 53 L S M Q = TR (z_st (.ldiv) 1 53 L S M) 236 54 M Q := T_at zk236 rfl
theorem zT236_54 : TT 236 54 L S M Q = TR (z_st (.ldc2_w 20) 3 54 L S M) 236 57 M Q := T_at zk236 rfl
theorem zT236_57 : TT 236 57 L S M Q = TR (z_st (.lrem) 1 57 L S M) 236 58 M Q := T_at zk236 rfl
theorem zT236_58 : TT 236 58 L S M Q = TR (z_st (.iload 1) 1 58 L S M) 236 59 M Q := T_at zk236 rfl
theorem zT236_59 : TT 236 59 L S M Q = TR (z_st (.i2l) 1 59 L S M) 236 60 M Q := T_at zk236 rfl
theorem zT236_60 : TT 236 60 L S M Q = TR (z_st (.lcmp) 1 60 L S M) 236 61 M Q := T_at zk236 rfl
theorem zT236_61 : TT 236 61 L S M Q = TR (z_st (.ifCond .ge 73) 3 61 L S M) 236 64 M Q := T_at zk236 rfl
theorem zT236_64 : TT 236 64 L S M Q = TR (z_st (.iconst 10) 2 64 L S M) 236 66 M Q := T_at zk236 rfl
theorem zT236_66 : TT 236 66 L S M Q = TR (z_st (.iload 5) 2 66 L S M) 236 68 M Q := T_at zk236 rfl
theorem zT236_68 : TT 236 68 L S M Q = TR (z_st (.imul) 1 68 L S M) 236 69 M Q := T_at zk236 rfl
theorem zT236_69 : TT 236 69 L S M Q = TR (z_st (.iload 6) 2 69 L S M) 236 71 M Q := T_at zk236 rfl
theorem zT236_71 : TT 236 71 L S M Q = TR (z_st (.iadd) 1 71 L S M) 236 72 M Q := T_at zk236 rfl
theorem zT236_72 : TT 236 72 L S M Q = TR (z_st (.ret 0) 1 72 L S M) 236 73 M Q := T_at zk236 rfl
theorem zT236_73 : TT 236 73 L S M Q = TR (z_st (.iinc 6 1) 3 73 L S M) 236 76 M Q := T_at zk236 rfl
theorem zT236_76 : TT 236 76 L S M Q = TR (z_st (.goto 18) 3 76 L S M) 236 79 M Q := T_at zk236 rfl
theorem zT236_79 : TT 236 79 L S M Q = TR (z_st (.iinc 5 1) 3 79 L S M) 236 82 M Q := T_at zk236 rfl
theorem zT236_82 : TT 236 82 L S M Q = TR (z_st (.goto 6) 3 82 L S M) 236 85 M Q := T_at zk236 rfl
theorem zT236_85 : TT 236 85 L S M Q = TR (z_st (.iconst (-1)) 1 85 L S M) 236 86 M Q := T_at zk236 rfl
theorem zT236_86 : TT 236 86 L S M Q = TR (z_st (.ret 0) 1 86 L S M) 236 87 M Q := T_at zk236 rfl
set_option maxRecDepth 100000 in
theorem zk237 : z_coL.getD 237 [] = zc237 := rfl
theorem zT237_0 : TT 237 0 L S M Q = TR (z_st (.iconst 0) 1 0 L S M) 237 1 M Q := T_at zk237 rfl
theorem zT237_1 : TT 237 1 L S M Q = TR (z_st (.istore 2) 1 1 L S M) 237 2 M Q := T_at zk237 rfl
theorem zT237_2 : TT 237 2 L S M Q = TR (z_st (.iconst 0) 1 2 L S M) 237 3 M Q := T_at zk237 rfl
theorem zT237_3 : TT 237 3 L S M Q = TR (z_st (.istore 3) 1 3 L S M) 237 4 M Q := T_at zk237 rfl
theorem zT237_4 : TT 237 4 L S M Q = TR (z_st (.iload 3) 1 4 L S M) 237 5 M Q := T_at zk237 rfl
theorem zT237_5 : TT 237 5 L S M Q = TR (z_st (.aload 0) 1 5 L S M) 237 6 M Q := T_at zk237 rfl
theorem zT237_6 : TT 237 6 L S M Q = TR (z_st (.getfield 70) 3 6 L S M) 237 9 M Q := T_at zk237 rfl
theorem zT237_9 : TT 237 9 L S M Q = TR (z_st (.if_icmp .ge 81) 3 9 L S M) 237 12 M Q := T_at zk237 rfl
theorem zT237_12 : TT 237 12 L S M Q = TR (z_st (.aload 0) 1 12 L S M) 237 13 M Q := T_at zk237 rfl
theorem zT237_13 : TT 237 13 L S M Q = TR (z_st (.iload 3) 1 13 L S M) 237 14 M Q := T_at zk237 rfl
theorem zT237_14 : TT 237 14 L S M Q = TR (z_st (.iconst 0) 1 14 L S M) 237 15 M Q := T_at zk237 rfl
theorem zT237_15 : TT 237 15 L S M Q = TR (z_st (.invokevirtual 232) 3 15 L S M) 237 18 M Q := T_at zk237 rfl
theorem zT237_18 : TT 237 18 L S M Q = TR (z_st (.aload 0) 1 18 L S M) 237 19 M Q := T_at zk237 rfl
theorem zT237_19 : TT 237 19 L S M Q = TR (z_st (.iload 3) 1 19 L S M) 237 20 M Q := T_at zk237 rfl
theorem zT237_20 : TT 237 20 L S M Q = TR (z_st (.iconst 1) 1 20 L S M) 237 21 M Q := T_at zk237 rfl
theorem zT237_21 : TT 237 21 L S M Q = TR (z_st (.invokevirtual 232) 3 21 L S M) 237 24 M Q := T_at zk237 rfl
theorem zT237_24 : TT 237 24 L S M Q = TR (z_st (.ior) 1 24 L S M) 237 25 M Q := T_at zk237 rfl
theorem zT237_25 : TT 237 25 L S M Q = TR (z_st (.aload 0) 1 25 L S M) 237 26 M Q := T_at zk237 rfl
theorem zT237_26 : TT 237 26 L S M Q = TR (z_st (.iload 3) 1 26 L S M) 237 27 M Q := T_at zk237 rfl
theorem zT237_27 : TT 237 27 L S M Q = TR (z_st (.iconst 2) 1 27 L S M) 237 28 M Q := T_at zk237 rfl
theorem zT237_28 : TT 237 28 L S M Q = TR (z_st (.invokevirtual 232) 3 28 L S M) 237 31 M Q := T_at zk237 rfl
theorem zT237_31 : TT 237 31 L S M Q = TR (z_st (.ior) 1 31 L S M) 237 32 M Q := T_at zk237 rfl
theorem zT237_32 : TT 237 32 L S M Q = TR (z_st (.istore 4) 2 32 L S M) 237 34 M Q := T_at zk237 rfl
theorem zT237_34 : TT 237 34 L S M Q = TR (z_st (.iconst 0) 1 34 L S M) 237 35 M Q := T_at zk237 rfl
theorem zT237_35 : TT 237 35 L S M Q = TR (z_st (.istore 5) 2 35 L S M) 237 37 M Q := T_at zk237 rfl
theorem zT237_37 : TT 237 37 L S M Q = TR (z_st (.iload 5) 2 37 L S M) 237 39 M Q := T_at zk237 rfl
theorem zT237_39 : TT 237 39 L S M Q = TR (z_st (.aload 1) 1 39 L S M) 237 40 M Q := T_at zk237 rfl
theorem zT237_40 : TT 237 40 L S M Q = TR (z_st (.getfield 43) 3 40 L S M) 237 43 M Q := T_at zk237 rfl
theorem zT237_43 : TT 237 43 L S M Q = TR (z_st (.if_icmp .ge 75) 3 43 L S M) 237 46 M Q := T_at zk237 rfl
theorem zT237_46 : TT 237 46 L S M Q = TR (z_st (.iload 2) 1 46 L S M) 237 47 M Q := T_at zk237 rfl
theorem zT237_47 : TT 237 47 L S M Q = TR (z_st (.iload 4) 2 47 L S M) 237 49 M Q := T_at zk237 rfl
theorem zT237_49 : TT 237 49 L S M Q = TR (z_st (.iload 5) 2 49 L S M) 237 51 M Q := T_at zk237 rfl
theorem zT237_51 : TT 237 51 L S M Q = TR (z_st (.invokestatic 119) 3 51 L S M) 237 54 M Q := T_at zk237 rfl
theorem zT237_54 : TT 237 54 L S M Q = TR (z_st (.ifCond .eq 66) 3 54 L S M) 237 57 M Q := T_at zk237 rfl
theorem zT237_57 : TT 237 57 L S M Q = TR (z_st (.aload 1) 1 57 L S M) 237 58 M Q := T_at zk237 rfl
theorem zT237_58 : TT 237 58 L S M Q = TR (z_st (.iload 5) 2 58 L S M) 237 60 M Q := T_at zk237 rfl
theorem zT237_60 : TT 237 60 L S M Q = TR (z_st (.invokevirtual 186) 3 60 L S M) 237 63 M Q := T_at zk237 rfl
theorem zT237_63 : TT 237 63 L S M Q = TR (z_st (.goto 67) 3 63 L S M) 237 66 M Q := T_at zk237 rfl
theorem zT237_66 : TT 237 66 L S M Q = TR (z_st (.iconst 0) 1 66 L S M) 237 67 M Q := T_at zk237 rfl
theorem zT237_67 : TT 237 67 L S M Q = TR (z_st (.iadd) 1 67 L S M) 237 68 M Q := T_at zk237 rfl
theorem zT237_68 : TT 237 68 L S M Q = TR (z_st (.istore 2) 1 68 L S M) 237 69 M Q := T_at zk237 rfl
theorem zT237_69 : TT 237 69 L S M Q = TR (z_st (.iinc 5 1) 3 69 L S M) 237 72 M Q := T_at zk237 rfl
theorem zT237_72 : TT 237 72 L S M Q = TR (z_st (.goto 37) 3 72 L S M) 237 75 M Q := T_at zk237 rfl
theorem zT237_75 : TT 237 75 L S M Q = TR (z_st (.iinc 3 1) 3 75 L S M) 237 78 M Q := T_at zk237 rfl
theorem zT237_78 : TT 237 78 L S M Q = TR (z_st (.goto 4) 3 78 L S M) 237 81 M Q := T_at zk237 rfl
theorem zT237_81 : TT 237 81 L S M Q = TR (z_st (.iload 2) 1 81 L S M) 237 82 M Q := T_at zk237 rfl
theorem zT237_82 : TT 237 82 L S M Q = TR (z_st (.ret 0) 1 82 L S M) 237 83 M Q := T_at zk237 rfl
set_option maxRecDepth 100000 in
theorem zk238 : z_coL.getD 238 [] = zc238 := rfl
theorem zT238_0 : TT 238 0 L S M Q = TR (z_st (.iload 0) 1 0 L S M) 238 1 M Q := T_at zk238 rfl
theorem zT238_1 : TT 238 1 L S M Q = TR (z_st (.iload 0) 1 1 L S M) 238 2 M Q := T_at zk238 rfl
theorem zT238_2 : TT 238 2 L S M Q = TR (z_st (.iconst 1) 1 2 L S M) 238 3 M Q := T_at zk238 rfl
theorem zT238_3 : TT 238 3 L S M Q = TR (z_st (.iushr) 1 3 L S M) 238 4 M Q := T_at zk238 rfl
theorem zT238_4 : TT 238 4 L S M Q = TR (z_st (.iconst 1431655765) 3 4 L S M) 238 7 M Q := T_at zk238 rfl
theorem zT238_7 : TT 238 7 L S M Q = TR (z_st (.iand) 1 7 L S M) 238 8 M Q := T_at zk238 rfl
theorem zT238_8 : TT 238 8 L S M Q = TR (z_st (.isub) 1 8 L S M) 238 9 M Q := T_at zk238 rfl
theorem zT238_9 : TT 238 9 L S M Q = TR (z_st (.istore 0) 1 9 L S M) 238 10 M Q := T_at zk238 rfl
theorem zT238_10 : TT 238 10 L S M Q = TR (z_st (.iload 0) 1 10 L S M) 238 11 M Q := T_at zk238 rfl
theorem zT238_11 : TT 238 11 L S M Q = TR (z_st (.iconst 858993459) 3 11 L S M) 238 14 M Q := T_at zk238 rfl
theorem zT238_14 : TT 238 14 L S M Q = TR (z_st (.iand) 1 14 L S M) 238 15 M Q := T_at zk238 rfl
theorem zT238_15 : TT 238 15 L S M Q = TR (z_st (.iload 0) 1 15 L S M) 238 16 M Q := T_at zk238 rfl
theorem zT238_16 : TT 238 16 L S M Q = TR (z_st (.iconst 2) 1 16 L S M) 238 17 M Q := T_at zk238 rfl
theorem zT238_17 : TT 238 17 L S M Q = TR (z_st (.iushr) 1 17 L S M) 238 18 M Q := T_at zk238 rfl
theorem zT238_18 : TT 238 18 L S M Q = TR (z_st (.iconst 858993459) 3 18 L S M) 238 21 M Q := T_at zk238 rfl
theorem zT238_21 : TT 238 21 L S M Q = TR (z_st (.iand) 1 21 L S M) 238 22 M Q := T_at zk238 rfl
theorem zT238_22 : TT 238 22 L S M Q = TR (z_st (.iadd) 1 22 L S M) 238 23 M Q := T_at zk238 rfl
theorem zT238_23 : TT 238 23 L S M Q = TR (z_st (.istore 0) 1 23 L S M) 238 24 M Q := T_at zk238 rfl
theorem zT238_24 : TT 238 24 L S M Q = TR (z_st (.iload 0) 1 24 L S M) 238 25 M Q := T_at zk238 rfl
theorem zT238_25 : TT 238 25 L S M Q = TR (z_st (.iload 0) 1 25 L S M) 238 26 M Q := T_at zk238 rfl
theorem zT238_26 : TT 238 26 L S M Q = TR (z_st (.iconst 4) 1 26 L S M) 238 27 M Q := T_at zk238 rfl
theorem zT238_27 : TT 238 27 L S M Q = TR (z_st (.iushr) 1 27 L S M) 238 28 M Q := T_at zk238 rfl
theorem zT238_28 : TT 238 28 L S M Q = TR (z_st (.iadd) 1 28 L S M) 238 29 M Q := T_at zk238 rfl
theorem zT238_29 : TT 238 29 L S M Q = TR (z_st (.iconst 252645135) 3 29 L S M) 238 32 M Q := T_at zk238 rfl
theorem zT238_32 : TT 238 32 L S M Q = TR (z_st (.iand) 1 32 L S M) 238 33 M Q := T_at zk238 rfl
theorem zT238_33 : TT 238 33 L S M Q = TR (z_st (.istore 0) 1 33 L S M) 238 34 M Q := T_at zk238 rfl
theorem zT238_34 : TT 238 34 L S M Q = TR (z_st (.iload 0) 1 34 L S M) 238 35 M Q := T_at zk238 rfl
theorem zT238_35 : TT 238 35 L S M Q = TR (z_st (.iload 0) 1 35 L S M) 238 36 M Q := T_at zk238 rfl
theorem zT238_36 : TT 238 36 L S M Q = TR (z_st (.iconst 8) 2 36 L S M) 238 38 M Q := T_at zk238 rfl
theorem zT238_38 : TT 238 38 L S M Q = TR (z_st (.iushr) 1 38 L S M) 238 39 M Q := T_at zk238 rfl
theorem zT238_39 : TT 238 39 L S M Q = TR (z_st (.iadd) 1 39 L S M) 238 40 M Q := T_at zk238 rfl
theorem zT238_40 : TT 238 40 L S M Q = TR (z_st (.istore 0) 1 40 L S M) 238 41 M Q := T_at zk238 rfl
theorem zT238_41 : TT 238 41 L S M Q = TR (z_st (.iload 0) 1 41 L S M) 238 42 M Q := T_at zk238 rfl
theorem zT238_42 : TT 238 42 L S M Q = TR (z_st (.iload 0) 1 42 L S M) 238 43 M Q := T_at zk238 rfl
theorem zT238_43 : TT 238 43 L S M Q = TR (z_st (.iconst 16) 2 43 L S M) 238 45 M Q := T_at zk238 rfl
theorem zT238_45 : TT 238 45 L S M Q = TR (z_st (.iushr) 1 45 L S M) 238 46 M Q := T_at zk238 rfl
theorem zT238_46 : TT 238 46 L S M Q = TR (z_st (.iadd) 1 46 L S M) 238 47 M Q := T_at zk238 rfl
theorem zT238_47 : TT 238 47 L S M Q = TR (z_st (.istore 0) 1 47 L S M) 238 48 M Q := T_at zk238 rfl
theorem zT238_48 : TT 238 48 L S M Q = TR (z_st (.iload 0) 1 48 L S M) 238 49 M Q := T_at zk238 rfl
theorem zT238_49 : TT 238 49 L S M Q = TR (z_st (.iconst 63) 2 49 L S M) 238 51 M Q := T_at zk238 rfl
theorem zT238_51 : TT 238 51 L S M Q = TR (z_st (.iand) 1 51 L S M) 238 52 M Q := T_at zk238 rfl
theorem zT238_52 : TT 238 52 L S M Q = TR (z_st (.ret 0) 1 52 L S M) 238 53 M Q := T_at zk238 rfl
set_option maxRecDepth 100000 in
theorem zk239 : z_coL.getD 239 [] = zc239 := rfl
theorem zT239_0 : TT 239 0 L S M Q = TR (z_st (.aload 0) 1 0 L S M) 239 1 M Q := T_at zk239 rfl
theorem zT239_1 : TT 239 1 L S M Q = TR (z_st (.checkcast 0) 3 1 L S M) 239 4 M Q := T_at zk239 rfl
theorem zT239_4 : TT 239 4 L S M Q = TR (z_st (.arraylength) 1 4 L S M) 239 5 M Q := T_at zk239 rfl
theorem zT239_5 : TT 239 5 L S M Q = TR (z_st (.aload 0) 1 5 L S M) 239 6 M Q := T_at zk239 rfl
theorem zT239_6 : TT 239 6 L S M Q = TR (z_st (.invokevirtual 241) 3 6 L S M) 239 9 M Q := T_at zk239 rfl
theorem zT239_9 : TT 239 9 L S M Q = TR (z_st (.ishr) 1 9 L S M) 239 10 M Q := T_at zk239 rfl
theorem zT239_10 : TT 239 10 L S M Q = TR (z_st (.ret 0) 1 10 L S M) 239 11 M Q := T_at zk239 rfl
set_option maxRecDepth 100000 in
theorem zk240 : z_coL.getD 240 [] = zc240 := rfl
theorem zT240_0 : TT 240 0 L S M Q = TR (z_st (.aload 0) 1 0 L S M) 240 1 M Q := T_at zk240 rfl
theorem zT240_1 : TT 240 1 L S M Q = TR (z_st (.invokevirtual 242) 3 1 L S M) 240 4 M Q := T_at zk240 rfl
theorem zT240_4 : TT 240 4 L S M Q = TR (z_st (.ifCond .eq 16) 3 4 L S M) 240 7 M Q := T_at zk240 rfl
theorem zT240_7 : TT 240 7 L S M Q = TR (z_st (.aload 0) 1 7 L S M) 240 8 M Q := T_at zk240 rfl
theorem zT240_8 : TT 240 8 L S M Q = TR (z_st (.checkcast 0) 3 8 L S M) 240 11 M Q := T_at zk240 rfl
theorem zT240_11 : TT 240 11 L S M Q = TR (z_st (.iload 1) 1 11 L S M) 240 12 M Q := T_at zk240 rfl
theorem zT240_12 : TT 240 12 L S M Q = TR (z_st (.invokestatic 244) 3 12 L S M) 240 15 M Q := T_at zk240 rfl
theorem zT240_15 : TT 240 15 L S M Q = TR (z_st (.ret 2) 1 15 L S M) 240 16 M Q := T_at zk240 rfl
theorem zT240_16 : TT 240 16 L S M Q = TR (z_st (.aload 0) 1 16 L S M) 240 17 M Q := T_at zk240 rfl
theorem zT240_17 : TT 240 17 L S M Q = TR (z_st (.checkcast 0) 3 17 L S M) 240 20 M Q := T_at zk240 rfl
theorem zT240_20 : TT 240 20 L S M Q = TR (z_st (.iload 1) 1 20 L S M) 240 21 M Q := T_at zk240 rfl
theorem zT240_24 : TT 240 24 L S M Q = TR (z_st (.ret 2) 1 24 L S M) 240 25 M Q := T_at zk240 rfl
set_option maxRecDepth 100000 in
theorem zk241 : z_coL.getD 241 [] = zc241 := rfl
theorem zT241_0 : TT 241 0 L S M Q = TR (z_st (.iconst 1) 3 0 L S M) 241 3 M Q := T_at zk241 rfl
theorem zT241_3 : TT 241 3 L S M Q = TR (z_st (.ifCond .eq 13) 3 3 L S M) 241 6 M Q := T_at zk241 rfl
theorem zT241_6 : TT 241 6 L S M Q = TR (z_st (.aload 0) 1 6 L S M) 241 7 M Q := T_at zk241 rfl
theorem zT241_7 : TT 241 7 L S M Q = TR (z_st (.instanceof 0) 3 7 L S M) 241 10 M Q := T_at zk241 rfl
theorem zT241_10 : TT 241 10 L S M Q = TR (z_st (.goto 14) 3 10 L S M) 241 13 M Q := T_at zk241 rfl
theorem zT241_13 : TT 241 13 L S M Q = TR (z_st (.iconst 1) 1 13 L S M) 241 14 M Q := T_at zk241 rfl
theorem zT241_14 : TT 241 14 L S M Q = TR (z_st (.ret 3) 1 14 L S M) 241 15 M Q := T_at zk241 rfl
set_option maxRecDepth 100000 in
theorem zk242 : z_coL.getD 242 [] = zc242 := rfl
theorem zT242_0 : TT 242 0 L S M Q = TR (z_st (.iconst 1) 3 0 L S M) 242 3 M Q := T_at zk242 rfl
theorem zT242_3 : TT 242 3 L S M Q = TR (z_st (.ifCond .eq 17) 3 3 L S M) 242 6 M Q := T_at zk242 rfl
theorem zT242_6 : TT 242 6 L S M Q = TR (z_st (.aload 0) 1 6 L S M) 242 7 M Q := T_at zk242 rfl
theorem zT242_7 : TT 242 7 L S M Q = TR (z_st (.instanceof 0) 3 7 L S M) 242 10 M Q := T_at zk242 rfl
theorem zT242_10 : TT 242 10 L S M Q = TR (z_st (.ifCond .ne 17) 3 10 L S M) 242 13 M Q := T_at zk242 rfl
theorem zT242_13 : TT 242 13 L S M Q = TR (z_st (.iconst 1) 1 13 L S M) 242 14 M Q := T_at zk242 rfl
theorem zT242_14 : TT 242 14 L S M Q = TR (z_st (.goto 18) 3 14 L S M) 242 17 M Q := T_at zk242 rfl
theorem zT242_17 : TT 242 17 L S M Q = TR (z_st (.iconst 0) 1 17 L S M) 242 18 M Q := T_at zk242 rfl
theorem zT242_18 : TT 242 18 L S M Q = TR (z_st (.ret 1) 1 18 L S M) 242 19 M Q := T_at zk242 rfl
set_option maxRecDepth 100000 in
theorem zk243 : z_coL.getD 243 [] = zc243 := rfl
theorem zT243_0 : TT 243 0 L S M Q = TR (z_st (.iload 0) 1 0 L S M) 243 1 M Q := T_at zk243 rfl
theorem zT243_1 : TT 243 1 L S M Q = TR (z_st (.iload 1) 1 1 L S M) 243 2 M Q := T_at zk243 rfl
theorem zT243_2 : TT 243 2 L S M Q = TR (z_st (.ldc 17) 3 2 L S M) 243 5 M Q := T_at zk243 rfl
theorem zT243_5 : TT 243 5 L S M Q = TR (z_st (.invokestatic 245) 3 5 L S M) 243 8 M Q := T_at zk243 rfl
theorem zT243_8 : TT 243 8 L S M Q = TR (z_st (.pop) 1 8 L S M) 243 9 M Q := T_at zk243 rfl
theorem zT243_9 : TT 243 9 L S M Q = TR (z_st (.return_) 1 9 L S M) 243 10 M Q := T_at zk243 rfl
set_option maxRecDepth 100000 in
theorem zk244 : z_coL.getD 244 [] = zc244 := rfl
theorem zT244_0 : TT 244 0 L S M Q = TR (z_st (.iload 1) 1 0 L S M) 244 1 M Q := T_at zk244 rfl
theorem zT244_1 : TT 244 1 L S M Q = TR (z_st (.aload 0) 1 1 L S M) 244 2 M Q := T_at zk244 rfl
theorem zT244_2 : TT 244 2 L S M Q = TR (z_st (.arraylength) 1 2 L S M) 244 3 M Q := T_at zk244 rfl
theorem zT244_3 : TT 244 3 L S M Q = TR (z_st (.invokestatic 243) 3 3 L S M) 244 6 M Q := T_at zk244 rfl
theorem zT244_6 : TT 244 6 L S M Q = TR (z_st (.aload 0) 1 6 L S M) 244 7 M Q := T_at zk244 rfl
theorem zT244_7 : TT 244 7 L S M Q = TR (z_st (.iload 1) 1 7 L S M) 244 8 M Q := T_at zk244 rfl
theorem zT244_8 : TT 244 8 L S M Q = TR (z_st (.baload) 1 8 L S M) 244 9 M Q := T_at zk244 rfl
theorem zT244_9 : TT 244 9 L S M Q = TR (z_st (.iconst 255) 3 9 L S M) 244 12 M Q := T_at zk244 rfl
theorem zT244_12 : TT 244 12 L S M Q = TR (z_st (.iand) 1 12 L S M) 244 13 M Q := T_at zk244 rfl
theorem zT244_13 : TT 244 13 L S M Q = TR (z_st (.i2c) 1 13 L S M) 244 14 M Q := T_at zk244 rfl
theorem zT244_14 : TT 244 14 L S M Q = TR (z_st (.ret 2) 1 14 L S M) 244 15 M Q := T_at zk244 rfl
set_option maxRecDepth 100000 in
theorem zk245 : z_coL.getD 245 [] = zc245 := rfl
theorem zT245_0 : TT 245 0 L S M Q = TR (z_st (.iload 0) 1 0 L S M) 245 1 M Q := T_at zk245 rfl
theorem zT245_1 : TT 245 1 L S M Q = TR (z_st (.ifCond .lt 9) 3 1 L S M) 245 4 M Q := T_at zk245 rfl
theorem zT245_4 : TT 245 4 L S M Q = TR (z_st (.iload 0) 1 4 L S M) 245 5 M Q := T_at zk245 rfl
theorem zT245_5 : TT 245 5 L S M Q = TR (z_st (.iload 1) 1 5 L S M) 245 6 M Q := T_at zk245 rfl
theorem zT245_6 : TT 245 6 L S M Q = TR (z_st (.if_icmp .lt 16) 3 6 L S M) 245 9 M Q := T_at zk245 rfl
theorem zT245_9 : TT 245 9 L S M Q = TR (z_st (.aload 2) 1 9 L S M) 245 10 M Q := T_at zk245 rfl
theorem zT245_10 : TT 245 10 L S M Q = TR (z_st (.iload 0) 1 10 L S M) 245 11 M Q := T_at zk245 rfl
theorem zT245_11 : TT 245 11 L S M Q = TR (z_st (.iload 1) 1 11 L S M) 245 12 M Q := T_at zk245 rfl
theorem zT245_16 : TT 245 16 L S M Q = TR (z_st (.iload 0) 1 16 L S M) 245 17 M Q := T_at zk245 rfl
theorem zT245_17 : TT 245 17 L S M Q = TR (z_st (.ret 0) 1 17 L S M) 245 18 M Q := T_at zk245 rfl
end
