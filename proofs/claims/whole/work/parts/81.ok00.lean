/-! Operations held against instructions, one by one. -/
section
variable {Ev : Nat → Value}
theorem k_0_0 : OkOp mt Ev 0 0 (o_new 11 [.null, .null, .null, .int 0, .null, .int 0, .null, .null, .null, .null]) := ok_new (i := 7) (K := RX11) (T := TX11) (N := 10) (ty := tyX11) (by decide +kernel) rfl ci_11 tyX11_ok df_11 rfl wd_77 wd_78 wd_56
theorem k_0_3 : OkOp mt Ev 0 3 (o_dup) := ok_dup (by decide +kernel)
theorem k_0_4 : OkOp mt Ev 0 4 (o_ci 68 0) := ok_ci (i := 9) (by decide +kernel) wd_79 wd_80 wd_56 wd_81 nk_0 rfl rfl
theorem k_0_7 : OkOp mt Ev 0 7 (o_astore 1 1) := ok_astore_n (k := 1) (by decide +kernel) rfl
theorem k_0_8 : OkOp mt Ev 0 8 (o_new 12 [.null, .null, .null, .int 0, .null, .int 0, .null, .null, .int 0, .null, .int 0, .int 0, .int 0, .int 0, .int 0, .int 0, .null, .null, .null, .null, .null, .null, .null, .null, .int 0, .null, .null, .null, .null]) := ok_new (i := 10) (K := RX12) (T := TX12) (N := 29) (ty := tyX12) (by decide +kernel) rfl ci_12 tyX12_ok df_12 rfl wd_976 wd_977 wd_62
theorem k_0_11 : OkOp mt Ev 0 11 (o_dup) := ok_dup (by decide +kernel)
theorem k_0_12 : OkOp mt Ev 0 12 (o_ci 122 0) := ok_ci (i := 12) (by decide +kernel) wd_978 wd_979 wd_62 wd_980 nk_1 rfl rfl
theorem k_0_15 : OkOp mt Ev 0 15 (o_astore 2 1) := ok_astore_n (k := 2) (by decide +kernel) rfl
theorem k_0_16 : OkOp mt Ev 0 16 (o_push (.int (0)) 1) := ok_iconst (n := 0) (by decide +kernel) (by decide +kernel)
theorem k_0_17 : OkOp mt Ev 0 17 (o_istore 3 1) := ok_istore_n (k := 3) (by decide +kernel) rfl
theorem k_0_18 : OkOp mt Ev 0 18 (o_iload 3 1) := ok_iload_n (k := 3) (by decide +kernel) rfl
theorem k_0_19 : OkOp mt Ev 0 19 (o_aload 0 1) := ok_aload_n (k := 0) (by decide +kernel) rfl
theorem k_0_20 : OkOp mt Ev 0 20 (o_alen) := ok_alen (by decide +kernel)
theorem k_0_21 : OkOp mt Ev 0 21 (o_push (.int (6)) 2) := ok_bipush (n := 6) (by decide +kernel) (by decide +kernel)
theorem k_0_23 : OkOp mt Ev 0 23 (o_ib (fun x y => x - y)) := ok_isub (by decide +kernel)
theorem k_0_24 : OkOp mt Ev 0 24 (o_if2 (fun x y => decide (y < x)) 1227) := ok_icmp_gt (off := 1203) (by decide +kernel) (by decide +kernel)
theorem k_0_27 : OkOp mt Ev 0 27 (o_aload 0 1) := ok_aload_n (k := 0) (by decide +kernel) rfl
theorem k_0_28 : OkOp mt Ev 0 28 (o_iload 3 1) := ok_iload_n (k := 3) (by decide +kernel) rfl
theorem k_0_29 : OkOp mt Ev 0 29 (o_iald 2) := ok_iald (by decide +kernel)
theorem k_0_30 : OkOp mt Ev 0 30 (o_push (.int (31)) 2) := ok_bipush (n := 31) (by decide +kernel) (by decide +kernel)
theorem k_0_32 : OkOp mt Ev 0 32 (o_ib (fun x y => x &&& y)) := ok_iand (by decide +kernel)
theorem k_0_33 : OkOp mt Ev 0 33 (o_sw 1221 [(0, 176), (1, 219), (2, 252), (3, 285), (4, 318), (5, 367), (6, 400), (7, 443), (8, 466), (9, 479), (10, 502), (11, 525), (12, 558), (13, 591), (14, 624), (15, 657), (16, 691), (17, 725), (18, 758), (19, 781), (20, 814), (21, 827), (22, 860), (23, 873), (24, 886), (25, 929), (26, 952), (27, 985), (28, 1008), (29, 1051), (30, 1124), (31, 1158)]) := ok_tsw (dflt := 1188) (lo := 0) (hi := 31) (offs := #[143, 186, 219, 252, 285, 334, 367, 410, 433, 446, 469, 492, 525, 558, 591, 624, 658, 692, 725, 748, 781, 794, 827, 840, 853, 896, 919, 952, 975, 1018, 1091, 1125]) (len := 143) (by decide +kernel) (by decide +kernel) (by decide +kernel) (by decide +kernel)
theorem k_0_176 : OkOp mt Ev 0 176 (o_aload 1 1) := ok_aload_n (k := 1) (by decide +kernel) rfl
theorem k_0_177 : OkOp mt Ev 0 177 (o_aload 0 1) := ok_aload_n (k := 0) (by decide +kernel) rfl
theorem k_0_178 : OkOp mt Ev 0 178 (o_iload 3 1) := ok_iload_n (k := 3) (by decide +kernel) rfl
theorem k_0_179 : OkOp mt Ev 0 179 (o_push (.int (1)) 1) := ok_iconst (n := 1) (by decide +kernel) (by decide +kernel)
theorem k_0_180 : OkOp mt Ev 0 180 (o_ib (fun x y => x + y)) := ok_iadd (by decide +kernel)
theorem k_0_181 : OkOp mt Ev 0 181 (o_iald 2) := ok_iald (by decide +kernel)
theorem k_0_182 : OkOp mt Ev 0 182 (o_aload 0 1) := ok_aload_n (k := 0) (by decide +kernel) rfl
theorem k_0_183 : OkOp mt Ev 0 183 (o_iload 3 1) := ok_iload_n (k := 3) (by decide +kernel) rfl
theorem k_0_184 : OkOp mt Ev 0 184 (o_push (.int (2)) 1) := ok_iconst (n := 2) (by decide +kernel) (by decide +kernel)
theorem k_0_185 : OkOp mt Ev 0 185 (o_ib (fun x y => x + y)) := ok_iadd (by decide +kernel)
theorem k_0_186 : OkOp mt Ev 0 186 (o_iald 2) := ok_iald (by decide +kernel)
theorem k_0_187 : OkOp mt Ev 0 187 (o_aload 0 1) := ok_aload_n (k := 0) (by decide +kernel) rfl
theorem k_0_188 : OkOp mt Ev 0 188 (o_iload 3 1) := ok_iload_n (k := 3) (by decide +kernel) rfl
theorem k_0_189 : OkOp mt Ev 0 189 (o_push (.int (3)) 1) := ok_iconst (n := 3) (by decide +kernel) (by decide +kernel)
theorem k_0_190 : OkOp mt Ev 0 190 (o_ib (fun x y => x + y)) := ok_iadd (by decide +kernel)
theorem k_0_191 : OkOp mt Ev 0 191 (o_iald 2) := ok_iald (by decide +kernel)
theorem k_0_192 : OkOp mt Ev 0 192 (o_cv [(11, 69)] 3) := ok_cv (i := 13) (by decide +kernel) vc_0
theorem k_0_195 : OkOp mt Ev 0 195 (o_aload 2 1) := ok_aload_n (k := 2) (by decide +kernel) rfl
theorem k_0_196 : OkOp mt Ev 0 196 (o_aload 0 1) := ok_aload_n (k := 0) (by decide +kernel) rfl
theorem k_0_197 : OkOp mt Ev 0 197 (o_iload 3 1) := ok_iload_n (k := 3) (by decide +kernel) rfl
theorem k_0_198 : OkOp mt Ev 0 198 (o_push (.int (1)) 1) := ok_iconst (n := 1) (by decide +kernel) (by decide +kernel)
theorem k_0_199 : OkOp mt Ev 0 199 (o_ib (fun x y => x + y)) := ok_iadd (by decide +kernel)
theorem k_0_200 : OkOp mt Ev 0 200 (o_iald 2) := ok_iald (by decide +kernel)
theorem k_0_201 : OkOp mt Ev 0 201 (o_aload 0 1) := ok_aload_n (k := 0) (by decide +kernel) rfl
theorem k_0_202 : OkOp mt Ev 0 202 (o_iload 3 1) := ok_iload_n (k := 3) (by decide +kernel) rfl
theorem k_0_203 : OkOp mt Ev 0 203 (o_push (.int (2)) 1) := ok_iconst (n := 2) (by decide +kernel) (by decide +kernel)
theorem k_0_204 : OkOp mt Ev 0 204 (o_ib (fun x y => x + y)) := ok_iadd (by decide +kernel)
theorem k_0_205 : OkOp mt Ev 0 205 (o_iald 2) := ok_iald (by decide +kernel)
theorem k_0_206 : OkOp mt Ev 0 206 (o_aload 0 1) := ok_aload_n (k := 0) (by decide +kernel) rfl
theorem k_0_207 : OkOp mt Ev 0 207 (o_iload 3 1) := ok_iload_n (k := 3) (by decide +kernel) rfl
theorem k_0_208 : OkOp mt Ev 0 208 (o_push (.int (3)) 1) := ok_iconst (n := 3) (by decide +kernel) (by decide +kernel)
theorem k_0_209 : OkOp mt Ev 0 209 (o_ib (fun x y => x + y)) := ok_iadd (by decide +kernel)
theorem k_0_210 : OkOp mt Ev 0 210 (o_iald 2) := ok_iald (by decide +kernel)
theorem k_0_211 : OkOp mt Ev 0 211 (o_cv [(12, 134)] 3) := ok_cv (i := 17) (by decide +kernel) vc_1
theorem k_0_214 : OkOp mt Ev 0 214 (o_if2 (fun x y => decide (x = y)) 1221) := ok_icmp_eq (off := 1007) (by decide +kernel) (by decide +kernel)
theorem k_0_217 : OkOp mt Ev 0 217 (o_push (.int (0)) 1) := ok_iconst (n := 0) (by decide +kernel) (by decide +kernel)
theorem k_0_218 : OkOp mt Ev 0 218 (o_ret 1) := ok_reti (ty := .boolean) (by decide +kernel) rfl (Or.inr (Or.inl ⟨rfl, rfl⟩))
theorem k_0_219 : OkOp mt Ev 0 219 (o_aload 1 1) := ok_aload_n (k := 1) (by decide +kernel) rfl
theorem k_0_220 : OkOp mt Ev 0 220 (o_aload 0 1) := ok_aload_n (k := 0) (by decide +kernel) rfl
theorem k_0_221 : OkOp mt Ev 0 221 (o_iload 3 1) := ok_iload_n (k := 3) (by decide +kernel) rfl
theorem k_0_222 : OkOp mt Ev 0 222 (o_push (.int (1)) 1) := ok_iconst (n := 1) (by decide +kernel) (by decide +kernel)
theorem k_0_223 : OkOp mt Ev 0 223 (o_ib (fun x y => x + y)) := ok_iadd (by decide +kernel)
theorem k_0_224 : OkOp mt Ev 0 224 (o_iald 2) := ok_iald (by decide +kernel)
theorem k_0_225 : OkOp mt Ev 0 225 (o_aload 0 1) := ok_aload_n (k := 0) (by decide +kernel) rfl
theorem k_0_226 : OkOp mt Ev 0 226 (o_iload 3 1) := ok_iload_n (k := 3) (by decide +kernel) rfl
theorem k_0_227 : OkOp mt Ev 0 227 (o_push (.int (2)) 1) := ok_iconst (n := 2) (by decide +kernel) (by decide +kernel)
theorem k_0_228 : OkOp mt Ev 0 228 (o_ib (fun x y => x + y)) := ok_iadd (by decide +kernel)
theorem k_0_229 : OkOp mt Ev 0 229 (o_iald 2) := ok_iald (by decide +kernel)
theorem k_0_230 : OkOp mt Ev 0 230 (o_cv [(11, 70)] 2) := ok_cv (i := 18) (by decide +kernel) vc_2
theorem k_0_233 : OkOp mt Ev 0 233 (o_aload 2 1) := ok_aload_n (k := 2) (by decide +kernel) rfl
theorem k_0_234 : OkOp mt Ev 0 234 (o_aload 0 1) := ok_aload_n (k := 0) (by decide +kernel) rfl
theorem k_0_235 : OkOp mt Ev 0 235 (o_iload 3 1) := ok_iload_n (k := 3) (by decide +kernel) rfl
theorem k_0_236 : OkOp mt Ev 0 236 (o_push (.int (1)) 1) := ok_iconst (n := 1) (by decide +kernel) (by decide +kernel)
theorem k_0_237 : OkOp mt Ev 0 237 (o_ib (fun x y => x + y)) := ok_iadd (by decide +kernel)
theorem k_0_238 : OkOp mt Ev 0 238 (o_iald 2) := ok_iald (by decide +kernel)
theorem k_0_239 : OkOp mt Ev 0 239 (o_aload 0 1) := ok_aload_n (k := 0) (by decide +kernel) rfl
theorem k_0_240 : OkOp mt Ev 0 240 (o_iload 3 1) := ok_iload_n (k := 3) (by decide +kernel) rfl
theorem k_0_241 : OkOp mt Ev 0 241 (o_push (.int (2)) 1) := ok_iconst (n := 2) (by decide +kernel) (by decide +kernel)
theorem k_0_242 : OkOp mt Ev 0 242 (o_ib (fun x y => x + y)) := ok_iadd (by decide +kernel)
theorem k_0_243 : OkOp mt Ev 0 243 (o_iald 2) := ok_iald (by decide +kernel)
theorem k_0_244 : OkOp mt Ev 0 244 (o_cv [(12, 135)] 2) := ok_cv (i := 22) (by decide +kernel) vc_3
theorem k_0_247 : OkOp mt Ev 0 247 (o_if2 (fun x y => decide (x = y)) 1221) := ok_icmp_eq (off := 974) (by decide +kernel) (by decide +kernel)
theorem k_0_250 : OkOp mt Ev 0 250 (o_push (.int (0)) 1) := ok_iconst (n := 0) (by decide +kernel) (by decide +kernel)
theorem k_0_251 : OkOp mt Ev 0 251 (o_ret 1) := ok_reti (ty := .boolean) (by decide +kernel) rfl (Or.inr (Or.inl ⟨rfl, rfl⟩))
theorem k_0_252 : OkOp mt Ev 0 252 (o_aload 1 1) := ok_aload_n (k := 1) (by decide +kernel) rfl
theorem k_0_253 : OkOp mt Ev 0 253 (o_aload 0 1) := ok_aload_n (k := 0) (by decide +kernel) rfl
theorem k_0_254 : OkOp mt Ev 0 254 (o_iload 3 1) := ok_iload_n (k := 3) (by decide +kernel) rfl
theorem k_0_255 : OkOp mt Ev 0 255 (o_push (.int (1)) 1) := ok_iconst (n := 1) (by decide +kernel) (by decide +kernel)
theorem k_0_256 : OkOp mt Ev 0 256 (o_ib (fun x y => x + y)) := ok_iadd (by decide +kernel)
theorem k_0_257 : OkOp mt Ev 0 257 (o_iald 2) := ok_iald (by decide +kernel)
theorem k_0_258 : OkOp mt Ev 0 258 (o_aload 0 1) := ok_aload_n (k := 0) (by decide +kernel) rfl
theorem k_0_259 : OkOp mt Ev 0 259 (o_iload 3 1) := ok_iload_n (k := 3) (by decide +kernel) rfl
theorem k_0_260 : OkOp mt Ev 0 260 (o_push (.int (2)) 1) := ok_iconst (n := 2) (by decide +kernel) (by decide +kernel)
theorem k_0_261 : OkOp mt Ev 0 261 (o_ib (fun x y => x + y)) := ok_iadd (by decide +kernel)
theorem k_0_262 : OkOp mt Ev 0 262 (o_iald 2) := ok_iald (by decide +kernel)
theorem k_0_263 : OkOp mt Ev 0 263 (o_cv [(11, 71)] 2) := ok_cv (i := 23) (by decide +kernel) vc_4
theorem k_0_266 : OkOp mt Ev 0 266 (o_aload 2 1) := ok_aload_n (k := 2) (by decide +kernel) rfl
theorem k_0_267 : OkOp mt Ev 0 267 (o_aload 0 1) := ok_aload_n (k := 0) (by decide +kernel) rfl
theorem k_0_268 : OkOp mt Ev 0 268 (o_iload 3 1) := ok_iload_n (k := 3) (by decide +kernel) rfl
theorem k_0_269 : OkOp mt Ev 0 269 (o_push (.int (1)) 1) := ok_iconst (n := 1) (by decide +kernel) (by decide +kernel)
theorem k_0_270 : OkOp mt Ev 0 270 (o_ib (fun x y => x + y)) := ok_iadd (by decide +kernel)
theorem k_0_271 : OkOp mt Ev 0 271 (o_iald 2) := ok_iald (by decide +kernel)
theorem k_0_272 : OkOp mt Ev 0 272 (o_aload 0 1) := ok_aload_n (k := 0) (by decide +kernel) rfl
theorem k_0_273 : OkOp mt Ev 0 273 (o_iload 3 1) := ok_iload_n (k := 3) (by decide +kernel) rfl
theorem k_0_274 : OkOp mt Ev 0 274 (o_push (.int (2)) 1) := ok_iconst (n := 2) (by decide +kernel) (by decide +kernel)
theorem k_0_275 : OkOp mt Ev 0 275 (o_ib (fun x y => x + y)) := ok_iadd (by decide +kernel)
theorem k_0_276 : OkOp mt Ev 0 276 (o_iald 2) := ok_iald (by decide +kernel)
theorem k_0_277 : OkOp mt Ev 0 277 (o_cv [(12, 136)] 2) := ok_cv (i := 26) (by decide +kernel) vc_5
theorem k_0_280 : OkOp mt Ev 0 280 (o_if2 (fun x y => decide (x = y)) 1221) := ok_icmp_eq (off := 941) (by decide +kernel) (by decide +kernel)
theorem k_0_283 : OkOp mt Ev 0 283 (o_push (.int (0)) 1) := ok_iconst (n := 0) (by decide +kernel) (by decide +kernel)
theorem k_0_284 : OkOp mt Ev 0 284 (o_ret 1) := ok_reti (ty := .boolean) (by decide +kernel) rfl (Or.inr (Or.inl ⟨rfl, rfl⟩))
theorem k_0_285 : OkOp mt Ev 0 285 (o_aload 1 1) := ok_aload_n (k := 1) (by decide +kernel) rfl
theorem k_0_286 : OkOp mt Ev 0 286 (o_aload 0 1) := ok_aload_n (k := 0) (by decide +kernel) rfl
theorem k_0_287 : OkOp mt Ev 0 287 (o_iload 3 1) := ok_iload_n (k := 3) (by decide +kernel) rfl
theorem k_0_288 : OkOp mt Ev 0 288 (o_push (.int (1)) 1) := ok_iconst (n := 1) (by decide +kernel) (by decide +kernel)
theorem k_0_289 : OkOp mt Ev 0 289 (o_ib (fun x y => x + y)) := ok_iadd (by decide +kernel)
theorem k_0_290 : OkOp mt Ev 0 290 (o_iald 2) := ok_iald (by decide +kernel)
theorem k_0_291 : OkOp mt Ev 0 291 (o_aload 0 1) := ok_aload_n (k := 0) (by decide +kernel) rfl
theorem k_0_292 : OkOp mt Ev 0 292 (o_iload 3 1) := ok_iload_n (k := 3) (by decide +kernel) rfl
theorem k_0_293 : OkOp mt Ev 0 293 (o_push (.int (2)) 1) := ok_iconst (n := 2) (by decide +kernel) (by decide +kernel)
theorem k_0_294 : OkOp mt Ev 0 294 (o_ib (fun x y => x + y)) := ok_iadd (by decide +kernel)
theorem k_0_295 : OkOp mt Ev 0 295 (o_iald 2) := ok_iald (by decide +kernel)
theorem k_0_296 : OkOp mt Ev 0 296 (o_cv [(11, 72)] 2) := ok_cv (i := 27) (by decide +kernel) vc_6
theorem k_0_299 : OkOp mt Ev 0 299 (o_aload 2 1) := ok_aload_n (k := 2) (by decide +kernel) rfl
theorem k_0_300 : OkOp mt Ev 0 300 (o_aload 0 1) := ok_aload_n (k := 0) (by decide +kernel) rfl
theorem k_0_301 : OkOp mt Ev 0 301 (o_iload 3 1) := ok_iload_n (k := 3) (by decide +kernel) rfl
theorem k_0_302 : OkOp mt Ev 0 302 (o_push (.int (1)) 1) := ok_iconst (n := 1) (by decide +kernel) (by decide +kernel)
theorem k_0_303 : OkOp mt Ev 0 303 (o_ib (fun x y => x + y)) := ok_iadd (by decide +kernel)
theorem k_0_304 : OkOp mt Ev 0 304 (o_iald 2) := ok_iald (by decide +kernel)
theorem k_0_305 : OkOp mt Ev 0 305 (o_aload 0 1) := ok_aload_n (k := 0) (by decide +kernel) rfl
theorem k_0_306 : OkOp mt Ev 0 306 (o_iload 3 1) := ok_iload_n (k := 3) (by decide +kernel) rfl
theorem k_0_307 : OkOp mt Ev 0 307 (o_push (.int (2)) 1) := ok_iconst (n := 2) (by decide +kernel) (by decide +kernel)
theorem k_0_308 : OkOp mt Ev 0 308 (o_ib (fun x y => x + y)) := ok_iadd (by decide +kernel)
theorem k_0_309 : OkOp mt Ev 0 309 (o_iald 2) := ok_iald (by decide +kernel)
theorem k_0_310 : OkOp mt Ev 0 310 (o_cv [(12, 137)] 2) := ok_cv (i := 30) (by decide +kernel) vc_7
theorem k_0_313 : OkOp mt Ev 0 313 (o_if2 (fun x y => decide (x = y)) 1221) := ok_icmp_eq (off := 908) (by decide +kernel) (by decide +kernel)
theorem k_0_316 : OkOp mt Ev 0 316 (o_push (.int (0)) 1) := ok_iconst (n := 0) (by decide +kernel) (by decide +kernel)
theorem k_0_317 : OkOp mt Ev 0 317 (o_ret 1) := ok_reti (ty := .boolean) (by decide +kernel) rfl (Or.inr (Or.inl ⟨rfl, rfl⟩))
theorem k_0_318 : OkOp mt Ev 0 318 (o_aload 1 1) := ok_aload_n (k := 1) (by decide +kernel) rfl
theorem k_0_319 : OkOp mt Ev 0 319 (o_aload 0 1) := ok_aload_n (k := 0) (by decide +kernel) rfl
theorem k_0_320 : OkOp mt Ev 0 320 (o_iload 3 1) := ok_iload_n (k := 3) (by decide +kernel) rfl
theorem k_0_321 : OkOp mt Ev 0 321 (o_push (.int (1)) 1) := ok_iconst (n := 1) (by decide +kernel) (by decide +kernel)
theorem k_0_322 : OkOp mt Ev 0 322 (o_ib (fun x y => x + y)) := ok_iadd (by decide +kernel)
theorem k_0_323 : OkOp mt Ev 0 323 (o_iald 2) := ok_iald (by decide +kernel)
theorem k_0_324 : OkOp mt Ev 0 324 (o_aload 0 1) := ok_aload_n (k := 0) (by decide +kernel) rfl
theorem k_0_325 : OkOp mt Ev 0 325 (o_iload 3 1) := ok_iload_n (k := 3) (by decide +kernel) rfl
theorem k_0_326 : OkOp mt Ev 0 326 (o_push (.int (2)) 1) := ok_iconst (n := 2) (by decide +kernel) (by decide +kernel)
theorem k_0_327 : OkOp mt Ev 0 327 (o_ib (fun x y => x + y)) := ok_iadd (by decide +kernel)
theorem k_0_328 : OkOp mt Ev 0 328 (o_iald 2) := ok_iald (by decide +kernel)
theorem k_0_329 : OkOp mt Ev 0 329 (o_if1 (fun x => decide (x = 0)) 336) := ok_if_eq (off := 7) (by decide +kernel) (by decide +kernel)
theorem k_0_332 : OkOp mt Ev 0 332 (o_push (.int (1)) 1) := ok_iconst (n := 1) (by decide +kernel) (by decide +kernel)
theorem k_0_333 : OkOp mt Ev 0 333 (o_goto 337) := ok_goto (off := 4) (by decide +kernel) (by decide +kernel)
theorem k_0_336 : OkOp mt Ev 0 336 (o_push (.int (0)) 1) := ok_iconst (n := 0) (by decide +kernel) (by decide +kernel)
theorem k_0_337 : OkOp mt Ev 0 337 (o_cv [(11, 73)] 2) := ok_cv (i := 31) (by decide +kernel) vc_8
theorem k_0_340 : OkOp mt Ev 0 340 (o_aload 2 1) := ok_aload_n (k := 2) (by decide +kernel) rfl
theorem k_0_341 : OkOp mt Ev 0 341 (o_aload 0 1) := ok_aload_n (k := 0) (by decide +kernel) rfl
theorem k_0_342 : OkOp mt Ev 0 342 (o_iload 3 1) := ok_iload_n (k := 3) (by decide +kernel) rfl
theorem k_0_343 : OkOp mt Ev 0 343 (o_push (.int (1)) 1) := ok_iconst (n := 1) (by decide +kernel) (by decide +kernel)
theorem k_0_344 : OkOp mt Ev 0 344 (o_ib (fun x y => x + y)) := ok_iadd (by decide +kernel)
theorem k_0_345 : OkOp mt Ev 0 345 (o_iald 2) := ok_iald (by decide +kernel)
theorem k_0_346 : OkOp mt Ev 0 346 (o_aload 0 1) := ok_aload_n (k := 0) (by decide +kernel) rfl
theorem k_0_347 : OkOp mt Ev 0 347 (o_iload 3 1) := ok_iload_n (k := 3) (by decide +kernel) rfl
theorem k_0_348 : OkOp mt Ev 0 348 (o_push (.int (2)) 1) := ok_iconst (n := 2) (by decide +kernel) (by decide +kernel)
theorem k_0_349 : OkOp mt Ev 0 349 (o_ib (fun x y => x + y)) := ok_iadd (by decide +kernel)
theorem k_0_350 : OkOp mt Ev 0 350 (o_iald 2) := ok_iald (by decide +kernel)
theorem k_0_351 : OkOp mt Ev 0 351 (o_if1 (fun x => decide (x = 0)) 358) := ok_if_eq (off := 7) (by decide +kernel) (by decide +kernel)
theorem k_0_354 : OkOp mt Ev 0 354 (o_push (.int (1)) 1) := ok_iconst (n := 1) (by decide +kernel) (by decide +kernel)
theorem k_0_355 : OkOp mt Ev 0 355 (o_goto 359) := ok_goto (off := 4) (by decide +kernel) (by decide +kernel)
theorem k_0_358 : OkOp mt Ev 0 358 (o_push (.int (0)) 1) := ok_iconst (n := 0) (by decide +kernel) (by decide +kernel)
theorem k_0_359 : OkOp mt Ev 0 359 (o_cv [(12, 138)] 2) := ok_cv (i := 35) (by decide +kernel) vc_9
theorem k_0_362 : OkOp mt Ev 0 362 (o_if2 (fun x y => decide (x = y)) 1221) := ok_icmp_eq (off := 859) (by decide +kernel) (by decide +kernel)
theorem k_0_365 : OkOp mt Ev 0 365 (o_push (.int (0)) 1) := ok_iconst (n := 0) (by decide +kernel) (by decide +kernel)
theorem k_0_366 : OkOp mt Ev 0 366 (o_ret 1) := ok_reti (ty := .boolean) (by decide +kernel) rfl (Or.inr (Or.inl ⟨rfl, rfl⟩))
theorem k_0_367 : OkOp mt Ev 0 367 (o_aload 1 1) := ok_aload_n (k := 1) (by decide +kernel) rfl
theorem k_0_368 : OkOp mt Ev 0 368 (o_aload 0 1) := ok_aload_n (k := 0) (by decide +kernel) rfl
theorem k_0_369 : OkOp mt Ev 0 369 (o_iload 3 1) := ok_iload_n (k := 3) (by decide +kernel) rfl
theorem k_0_370 : OkOp mt Ev 0 370 (o_push (.int (1)) 1) := ok_iconst (n := 1) (by decide +kernel) (by decide +kernel)
theorem k_0_371 : OkOp mt Ev 0 371 (o_ib (fun x y => x + y)) := ok_iadd (by decide +kernel)
theorem k_0_372 : OkOp mt Ev 0 372 (o_iald 2) := ok_iald (by decide +kernel)
theorem k_0_373 : OkOp mt Ev 0 373 (o_aload 0 1) := ok_aload_n (k := 0) (by decide +kernel) rfl
theorem k_0_374 : OkOp mt Ev 0 374 (o_iload 3 1) := ok_iload_n (k := 3) (by decide +kernel) rfl
theorem k_0_375 : OkOp mt Ev 0 375 (o_push (.int (2)) 1) := ok_iconst (n := 2) (by decide +kernel) (by decide +kernel)
theorem k_0_376 : OkOp mt Ev 0 376 (o_ib (fun x y => x + y)) := ok_iadd (by decide +kernel)
theorem k_0_377 : OkOp mt Ev 0 377 (o_iald 2) := ok_iald (by decide +kernel)
theorem k_0_378 : OkOp mt Ev 0 378 (o_cv [(11, 74)] 2) := ok_cv (i := 36) (by decide +kernel) vc_10
theorem k_0_381 : OkOp mt Ev 0 381 (o_aload 2 1) := ok_aload_n (k := 2) (by decide +kernel) rfl
theorem k_0_382 : OkOp mt Ev 0 382 (o_aload 0 1) := ok_aload_n (k := 0) (by decide +kernel) rfl
theorem k_0_383 : OkOp mt Ev 0 383 (o_iload 3 1) := ok_iload_n (k := 3) (by decide +kernel) rfl
theorem k_0_384 : OkOp mt Ev 0 384 (o_push (.int (1)) 1) := ok_iconst (n := 1) (by decide +kernel) (by decide +kernel)
theorem k_0_385 : OkOp mt Ev 0 385 (o_ib (fun x y => x + y)) := ok_iadd (by decide +kernel)
theorem k_0_386 : OkOp mt Ev 0 386 (o_iald 2) := ok_iald (by decide +kernel)
theorem k_0_387 : OkOp mt Ev 0 387 (o_aload 0 1) := ok_aload_n (k := 0) (by decide +kernel) rfl
theorem k_0_388 : OkOp mt Ev 0 388 (o_iload 3 1) := ok_iload_n (k := 3) (by decide +kernel) rfl
theorem k_0_389 : OkOp mt Ev 0 389 (o_push (.int (2)) 1) := ok_iconst (n := 2) (by decide +kernel) (by decide +kernel)
theorem k_0_390 : OkOp mt Ev 0 390 (o_ib (fun x y => x + y)) := ok_iadd (by decide +kernel)
theorem k_0_391 : OkOp mt Ev 0 391 (o_iald 2) := ok_iald (by decide +kernel)
theorem k_0_392 : OkOp mt Ev 0 392 (o_cv [(12, 139)] 2) := ok_cv (i := 39) (by decide +kernel) vc_11
theorem k_0_395 : OkOp mt Ev 0 395 (o_if2 (fun x y => decide (x = y)) 1221) := ok_icmp_eq (off := 826) (by decide +kernel) (by decide +kernel)
theorem k_0_398 : OkOp mt Ev 0 398 (o_push (.int (0)) 1) := ok_iconst (n := 0) (by decide +kernel) (by decide +kernel)
theorem k_0_399 : OkOp mt Ev 0 399 (o_ret 1) := ok_reti (ty := .boolean) (by decide +kernel) rfl (Or.inr (Or.inl ⟨rfl, rfl⟩))
theorem k_0_400 : OkOp mt Ev 0 400 (o_aload 1 1) := ok_aload_n (k := 1) (by decide +kernel) rfl
theorem k_0_401 : OkOp mt Ev 0 401 (o_aload 0 1) := ok_aload_n (k := 0) (by decide +kernel) rfl
theorem k_0_402 : OkOp mt Ev 0 402 (o_iload 3 1) := ok_iload_n (k := 3) (by decide +kernel) rfl
theorem k_0_403 : OkOp mt Ev 0 403 (o_push (.int (1)) 1) := ok_iconst (n := 1) (by decide +kernel) (by decide +kernel)
theorem k_0_404 : OkOp mt Ev 0 404 (o_ib (fun x y => x + y)) := ok_iadd (by decide +kernel)
theorem k_0_405 : OkOp mt Ev 0 405 (o_iald 2) := ok_iald (by decide +kernel)
theorem k_0_406 : OkOp mt Ev 0 406 (o_aload 0 1) := ok_aload_n (k := 0) (by decide +kernel) rfl
theorem k_0_407 : OkOp mt Ev 0 407 (o_iload 3 1) := ok_iload_n (k := 3) (by decide +kernel) rfl
theorem k_0_408 : OkOp mt Ev 0 408 (o_push (.int (2)) 1) := ok_iconst (n := 2) (by decide +kernel) (by decide +kernel)
theorem k_0_409 : OkOp mt Ev 0 409 (o_ib (fun x y => x + y)) := ok_iadd (by decide +kernel)
theorem k_0_410 : OkOp mt Ev 0 410 (o_iald 2) := ok_iald (by decide +kernel)
theorem k_0_411 : OkOp mt Ev 0 411 (o_aload 0 1) := ok_aload_n (k := 0) (by decide +kernel) rfl
theorem k_0_412 : OkOp mt Ev 0 412 (o_iload 3 1) := ok_iload_n (k := 3) (by decide +kernel) rfl
theorem k_0_413 : OkOp mt Ev 0 413 (o_push (.int (3)) 1) := ok_iconst (n := 3) (by decide +kernel) (by decide +kernel)
theorem k_0_414 : OkOp mt Ev 0 414 (o_ib (fun x y => x + y)) := ok_iadd (by decide +kernel)
theorem k_0_415 : OkOp mt Ev 0 415 (o_iald 2) := ok_iald (by decide +kernel)
theorem k_0_416 : OkOp mt Ev 0 416 (o_cv [(11, 75)] 3) := ok_cv (i := 40) (by decide +kernel) vc_12
theorem k_0_419 : OkOp mt Ev 0 419 (o_aload 2 1) := ok_aload_n (k := 2) (by decide +kernel) rfl
theorem k_0_420 : OkOp mt Ev 0 420 (o_aload 0 1) := ok_aload_n (k := 0) (by decide +kernel) rfl
theorem k_0_421 : OkOp mt Ev 0 421 (o_iload 3 1) := ok_iload_n (k := 3) (by decide +kernel) rfl
theorem k_0_422 : OkOp mt Ev 0 422 (o_push (.int (1)) 1) := ok_iconst (n := 1) (by decide +kernel) (by decide +kernel)
theorem k_0_423 : OkOp mt Ev 0 423 (o_ib (fun x y => x + y)) := ok_iadd (by decide +kernel)
theorem k_0_424 : OkOp mt Ev 0 424 (o_iald 2) := ok_iald (by decide +kernel)
theorem k_0_425 : OkOp mt Ev 0 425 (o_aload 0 1) := ok_aload_n (k := 0) (by decide +kernel) rfl
theorem k_0_426 : OkOp mt Ev 0 426 (o_iload 3 1) := ok_iload_n (k := 3) (by decide +kernel) rfl
theorem k_0_427 : OkOp mt Ev 0 427 (o_push (.int (2)) 1) := ok_iconst (n := 2) (by decide +kernel) (by decide +kernel)
theorem k_0_428 : OkOp mt Ev 0 428 (o_ib (fun x y => x + y)) := ok_iadd (by decide +kernel)
theorem k_0_429 : OkOp mt Ev 0 429 (o_iald 2) := ok_iald (by decide +kernel)
theorem k_0_430 : OkOp mt Ev 0 430 (o_aload 0 1) := ok_aload_n (k := 0) (by decide +kernel) rfl
theorem k_0_431 : OkOp mt Ev 0 431 (o_iload 3 1) := ok_iload_n (k := 3) (by decide +kernel) rfl
theorem k_0_432 : OkOp mt Ev 0 432 (o_push (.int (3)) 1) := ok_iconst (n := 3) (by decide +kernel) (by decide +kernel)
theorem k_0_433 : OkOp mt Ev 0 433 (o_ib (fun x y => x + y)) := ok_iadd (by decide +kernel)
theorem k_0_434 : OkOp mt Ev 0 434 (o_iald 2) := ok_iald (by decide +kernel)
theorem k_0_435 : OkOp mt Ev 0 435 (o_cv [(12, 140)] 3) := ok_cv (i := 43) (by decide +kernel) vc_13
theorem k_0_438 : OkOp mt Ev 0 438 (o_if2 (fun x y => decide (x = y)) 1221) := ok_icmp_eq (off := 783) (by decide +kernel) (by decide +kernel)
theorem k_0_441 : OkOp mt Ev 0 441 (o_push (.int (0)) 1) := ok_iconst (n := 0) (by decide +kernel) (by decide +kernel)
theorem k_0_442 : OkOp mt Ev 0 442 (o_ret 1) := ok_reti (ty := .boolean) (by decide +kernel) rfl (Or.inr (Or.inl ⟨rfl, rfl⟩))
theorem k_0_443 : OkOp mt Ev 0 443 (o_aload 1 1) := ok_aload_n (k := 1) (by decide +kernel) rfl
theorem k_0_444 : OkOp mt Ev 0 444 (o_aload 0 1) := ok_aload_n (k := 0) (by decide +kernel) rfl
theorem k_0_445 : OkOp mt Ev 0 445 (o_iload 3 1) := ok_iload_n (k := 3) (by decide +kernel) rfl
theorem k_0_446 : OkOp mt Ev 0 446 (o_push (.int (1)) 1) := ok_iconst (n := 1) (by decide +kernel) (by decide +kernel)
theorem k_0_447 : OkOp mt Ev 0 447 (o_ib (fun x y => x + y)) := ok_iadd (by decide +kernel)
theorem k_0_448 : OkOp mt Ev 0 448 (o_iald 2) := ok_iald (by decide +kernel)
theorem k_0_449 : OkOp mt Ev 0 449 (o_cv [(11, 76)] 1) := ok_cv (i := 44) (by decide +kernel) vc_14
theorem k_0_452 : OkOp mt Ev 0 452 (o_aload 2 1) := ok_aload_n (k := 2) (by decide +kernel) rfl
theorem k_0_453 : OkOp mt Ev 0 453 (o_aload 0 1) := ok_aload_n (k := 0) (by decide +kernel) rfl
theorem k_0_454 : OkOp mt Ev 0 454 (o_iload 3 1) := ok_iload_n (k := 3) (by decide +kernel) rfl
theorem k_0_455 : OkOp mt Ev 0 455 (o_push (.int (1)) 1) := ok_iconst (n := 1) (by decide +kernel) (by decide +kernel)
theorem k_0_456 : OkOp mt Ev 0 456 (o_ib (fun x y => x + y)) := ok_iadd (by decide +kernel)
theorem k_0_457 : OkOp mt Ev 0 457 (o_iald 2) := ok_iald (by decide +kernel)
theorem k_0_458 : OkOp mt Ev 0 458 (o_cv [(12, 141)] 1) := ok_cv (i := 48) (by decide +kernel) vc_15
theorem k_0_461 : OkOp mt Ev 0 461 (o_if2 (fun x y => decide (x = y)) 1221) := ok_icmp_eq (off := 760) (by decide +kernel) (by decide +kernel)
theorem k_0_464 : OkOp mt Ev 0 464 (o_push (.int (0)) 1) := ok_iconst (n := 0) (by decide +kernel) (by decide +kernel)
theorem k_0_465 : OkOp mt Ev 0 465 (o_ret 1) := ok_reti (ty := .boolean) (by decide +kernel) rfl (Or.inr (Or.inl ⟨rfl, rfl⟩))
theorem k_0_466 : OkOp mt Ev 0 466 (o_aload 1 1) := ok_aload_n (k := 1) (by decide +kernel) rfl
theorem k_0_467 : OkOp mt Ev 0 467 (o_cv [(11, 77)] 0) := ok_cv (i := 49) (by decide +kernel) vc_16
theorem k_0_470 : OkOp mt Ev 0 470 (o_aload 2 1) := ok_aload_n (k := 2) (by decide +kernel) rfl
theorem k_0_471 : OkOp mt Ev 0 471 (o_cv [(12, 153)] 0) := ok_cv (i := 53) (by decide +kernel) vc_17
theorem k_0_474 : OkOp mt Ev 0 474 (o_if2 (fun x y => decide (x = y)) 1221) := ok_icmp_eq (off := 747) (by decide +kernel) (by decide +kernel)
theorem k_0_477 : OkOp mt Ev 0 477 (o_push (.int (0)) 1) := ok_iconst (n := 0) (by decide +kernel) (by decide +kernel)
theorem k_0_478 : OkOp mt Ev 0 478 (o_ret 1) := ok_reti (ty := .boolean) (by decide +kernel) rfl (Or.inr (Or.inl ⟨rfl, rfl⟩))
theorem k_0_479 : OkOp mt Ev 0 479 (o_aload 1 1) := ok_aload_n (k := 1) (by decide +kernel) rfl
theorem k_0_480 : OkOp mt Ev 0 480 (o_aload 0 1) := ok_aload_n (k := 0) (by decide +kernel) rfl
theorem k_0_481 : OkOp mt Ev 0 481 (o_iload 3 1) := ok_iload_n (k := 3) (by decide +kernel) rfl
theorem k_0_482 : OkOp mt Ev 0 482 (o_push (.int (1)) 1) := ok_iconst (n := 1) (by decide +kernel) (by decide +kernel)
theorem k_0_483 : OkOp mt Ev 0 483 (o_ib (fun x y => x + y)) := ok_iadd (by decide +kernel)
theorem k_0_484 : OkOp mt Ev 0 484 (o_iald 2) := ok_iald (by decide +kernel)
theorem k_0_485 : OkOp mt Ev 0 485 (o_cv [(11, 78)] 1) := ok_cv (i := 54) (by decide +kernel) vc_18
theorem k_0_488 : OkOp mt Ev 0 488 (o_aload 2 1) := ok_aload_n (k := 2) (by decide +kernel) rfl
theorem k_0_489 : OkOp mt Ev 0 489 (o_aload 0 1) := ok_aload_n (k := 0) (by decide +kernel) rfl
theorem k_0_490 : OkOp mt Ev 0 490 (o_iload 3 1) := ok_iload_n (k := 3) (by decide +kernel) rfl
theorem k_0_491 : OkOp mt Ev 0 491 (o_push (.int (1)) 1) := ok_iconst (n := 1) (by decide +kernel) (by decide +kernel)
theorem k_0_492 : OkOp mt Ev 0 492 (o_ib (fun x y => x + y)) := ok_iadd (by decide +kernel)
theorem k_0_493 : OkOp mt Ev 0 493 (o_iald 2) := ok_iald (by decide +kernel)
theorem k_0_494 : OkOp mt Ev 0 494 (o_cv [(12, 166)] 1) := ok_cv (i := 57) (by decide +kernel) vc_19
theorem k_0_497 : OkOp mt Ev 0 497 (o_if2 (fun x y => decide (x = y)) 1221) := ok_icmp_eq (off := 724) (by decide +kernel) (by decide +kernel)
theorem k_0_500 : OkOp mt Ev 0 500 (o_push (.int (0)) 1) := ok_iconst (n := 0) (by decide +kernel) (by decide +kernel)
theorem k_0_501 : OkOp mt Ev 0 501 (o_ret 1) := ok_reti (ty := .boolean) (by decide +kernel) rfl (Or.inr (Or.inl ⟨rfl, rfl⟩))
theorem k_0_502 : OkOp mt Ev 0 502 (o_aload 1 1) := ok_aload_n (k := 1) (by decide +kernel) rfl
theorem k_0_503 : OkOp mt Ev 0 503 (o_aload 0 1) := ok_aload_n (k := 0) (by decide +kernel) rfl
theorem k_0_504 : OkOp mt Ev 0 504 (o_iload 3 1) := ok_iload_n (k := 3) (by decide +kernel) rfl
theorem k_0_505 : OkOp mt Ev 0 505 (o_push (.int (1)) 1) := ok_iconst (n := 1) (by decide +kernel) (by decide +kernel)
theorem k_0_506 : OkOp mt Ev 0 506 (o_ib (fun x y => x + y)) := ok_iadd (by decide +kernel)
theorem k_0_507 : OkOp mt Ev 0 507 (o_iald 2) := ok_iald (by decide +kernel)
theorem k_0_508 : OkOp mt Ev 0 508 (o_cv [(11, 79)] 1) := ok_cv (i := 58) (by decide +kernel) vc_20
theorem k_0_511 : OkOp mt Ev 0 511 (o_aload 2 1) := ok_aload_n (k := 2) (by decide +kernel) rfl
theorem k_0_512 : OkOp mt Ev 0 512 (o_aload 0 1) := ok_aload_n (k := 0) (by decide +kernel) rfl
theorem k_0_513 : OkOp mt Ev 0 513 (o_iload 3 1) := ok_iload_n (k := 3) (by decide +kernel) rfl
theorem k_0_514 : OkOp mt Ev 0 514 (o_push (.int (1)) 1) := ok_iconst (n := 1) (by decide +kernel) (by decide +kernel)
theorem k_0_515 : OkOp mt Ev 0 515 (o_ib (fun x y => x + y)) := ok_iadd (by decide +kernel)
theorem k_0_516 : OkOp mt Ev 0 516 (o_iald 2) := ok_iald (by decide +kernel)
theorem k_0_517 : OkOp mt Ev 0 517 (o_cv [(12, 167)] 1) := ok_cv (i := 61) (by decide +kernel) vc_21
theorem k_0_520 : OkOp mt Ev 0 520 (o_if2 (fun x y => decide (x = y)) 1221) := ok_icmp_eq (off := 701) (by decide +kernel) (by decide +kernel)
theorem k_0_523 : OkOp mt Ev 0 523 (o_push (.int (0)) 1) := ok_iconst (n := 0) (by decide +kernel) (by decide +kernel)
theorem k_0_524 : OkOp mt Ev 0 524 (o_ret 1) := ok_reti (ty := .boolean) (by decide +kernel) rfl (Or.inr (Or.inl ⟨rfl, rfl⟩))
theorem k_0_525 : OkOp mt Ev 0 525 (o_aload 1 1) := ok_aload_n (k := 1) (by decide +kernel) rfl
theorem k_0_526 : OkOp mt Ev 0 526 (o_aload 0 1) := ok_aload_n (k := 0) (by decide +kernel) rfl
theorem k_0_527 : OkOp mt Ev 0 527 (o_iload 3 1) := ok_iload_n (k := 3) (by decide +kernel) rfl
theorem k_0_528 : OkOp mt Ev 0 528 (o_push (.int (1)) 1) := ok_iconst (n := 1) (by decide +kernel) (by decide +kernel)
theorem k_0_529 : OkOp mt Ev 0 529 (o_ib (fun x y => x + y)) := ok_iadd (by decide +kernel)
theorem k_0_530 : OkOp mt Ev 0 530 (o_iald 2) := ok_iald (by decide +kernel)
theorem k_0_531 : OkOp mt Ev 0 531 (o_aload 0 1) := ok_aload_n (k := 0) (by decide +kernel) rfl
theorem k_0_532 : OkOp mt Ev 0 532 (o_iload 3 1) := ok_iload_n (k := 3) (by decide +kernel) rfl
theorem k_0_533 : OkOp mt Ev 0 533 (o_push (.int (2)) 1) := ok_iconst (n := 2) (by decide +kernel) (by decide +kernel)
theorem k_0_534 : OkOp mt Ev 0 534 (o_ib (fun x y => x + y)) := ok_iadd (by decide +kernel)
theorem k_0_535 : OkOp mt Ev 0 535 (o_iald 2) := ok_iald (by decide +kernel)
theorem k_0_536 : OkOp mt Ev 0 536 (o_cv [(11, 80)] 2) := ok_cv (i := 62) (by decide +kernel) vc_22
theorem k_0_539 : OkOp mt Ev 0 539 (o_aload 2 1) := ok_aload_n (k := 2) (by decide +kernel) rfl
theorem k_0_540 : OkOp mt Ev 0 540 (o_aload 0 1) := ok_aload_n (k := 0) (by decide +kernel) rfl
theorem k_0_541 : OkOp mt Ev 0 541 (o_iload 3 1) := ok_iload_n (k := 3) (by decide +kernel) rfl
theorem k_0_542 : OkOp mt Ev 0 542 (o_push (.int (1)) 1) := ok_iconst (n := 1) (by decide +kernel) (by decide +kernel)
theorem k_0_543 : OkOp mt Ev 0 543 (o_ib (fun x y => x + y)) := ok_iadd (by decide +kernel)
theorem k_0_544 : OkOp mt Ev 0 544 (o_iald 2) := ok_iald (by decide +kernel)
theorem k_0_545 : OkOp mt Ev 0 545 (o_aload 0 1) := ok_aload_n (k := 0) (by decide +kernel) rfl
theorem k_0_546 : OkOp mt Ev 0 546 (o_iload 3 1) := ok_iload_n (k := 3) (by decide +kernel) rfl
theorem k_0_547 : OkOp mt Ev 0 547 (o_push (.int (2)) 1) := ok_iconst (n := 2) (by decide +kernel) (by decide +kernel)
theorem k_0_548 : OkOp mt Ev 0 548 (o_ib (fun x y => x + y)) := ok_iadd (by decide +kernel)
theorem k_0_549 : OkOp mt Ev 0 549 (o_iald 2) := ok_iald (by decide +kernel)
theorem k_0_550 : OkOp mt Ev 0 550 (o_cv [(12, 168)] 2) := ok_cv (i := 65) (by decide +kernel) vc_23
theorem k_0_553 : OkOp mt Ev 0 553 (o_if2 (fun x y => decide (x = y)) 1221) := ok_icmp_eq (off := 668) (by decide +kernel) (by decide +kernel)
theorem k_0_556 : OkOp mt Ev 0 556 (o_push (.int (0)) 1) := ok_iconst (n := 0) (by decide +kernel) (by decide +kernel)
theorem k_0_557 : OkOp mt Ev 0 557 (o_ret 1) := ok_reti (ty := .boolean) (by decide +kernel) rfl (Or.inr (Or.inl ⟨rfl, rfl⟩))
theorem k_0_558 : OkOp mt Ev 0 558 (o_aload 1 1) := ok_aload_n (k := 1) (by decide +kernel) rfl
theorem k_0_559 : OkOp mt Ev 0 559 (o_aload 0 1) := ok_aload_n (k := 0) (by decide +kernel) rfl
theorem k_0_560 : OkOp mt Ev 0 560 (o_iload 3 1) := ok_iload_n (k := 3) (by decide +kernel) rfl
theorem k_0_561 : OkOp mt Ev 0 561 (o_push (.int (1)) 1) := ok_iconst (n := 1) (by decide +kernel) (by decide +kernel)
theorem k_0_562 : OkOp mt Ev 0 562 (o_ib (fun x y => x + y)) := ok_iadd (by decide +kernel)
theorem k_0_563 : OkOp mt Ev 0 563 (o_iald 2) := ok_iald (by decide +kernel)
theorem k_0_564 : OkOp mt Ev 0 564 (o_aload 0 1) := ok_aload_n (k := 0) (by decide +kernel) rfl
theorem k_0_565 : OkOp mt Ev 0 565 (o_iload 3 1) := ok_iload_n (k := 3) (by decide +kernel) rfl
theorem k_0_566 : OkOp mt Ev 0 566 (o_push (.int (2)) 1) := ok_iconst (n := 2) (by decide +kernel) (by decide +kernel)
theorem k_0_567 : OkOp mt Ev 0 567 (o_ib (fun x y => x + y)) := ok_iadd (by decide +kernel)
theorem k_0_568 : OkOp mt Ev 0 568 (o_iald 2) := ok_iald (by decide +kernel)
theorem k_0_569 : OkOp mt Ev 0 569 (o_cv [(11, 81)] 2) := ok_cv (i := 66) (by decide +kernel) vc_24
theorem k_0_572 : OkOp mt Ev 0 572 (o_aload 2 1) := ok_aload_n (k := 2) (by decide +kernel) rfl
theorem k_0_573 : OkOp mt Ev 0 573 (o_aload 0 1) := ok_aload_n (k := 0) (by decide +kernel) rfl
theorem k_0_574 : OkOp mt Ev 0 574 (o_iload 3 1) := ok_iload_n (k := 3) (by decide +kernel) rfl
theorem k_0_575 : OkOp mt Ev 0 575 (o_push (.int (1)) 1) := ok_iconst (n := 1) (by decide +kernel) (by decide +kernel)
theorem k_0_576 : OkOp mt Ev 0 576 (o_ib (fun x y => x + y)) := ok_iadd (by decide +kernel)
theorem k_0_577 : OkOp mt Ev 0 577 (o_iald 2) := ok_iald (by decide +kernel)
theorem k_0_578 : OkOp mt Ev 0 578 (o_aload 0 1) := ok_aload_n (k := 0) (by decide +kernel) rfl
theorem k_0_579 : OkOp mt Ev 0 579 (o_iload 3 1) := ok_iload_n (k := 3) (by decide +kernel) rfl
theorem k_0_580 : OkOp mt Ev 0 580 (o_push (.int (2)) 1) := ok_iconst (n := 2) (by decide +kernel) (by decide +kernel)
theorem k_0_581 : OkOp mt Ev 0 581 (o_ib (fun x y => x + y)) := ok_iadd (by decide +kernel)
theorem k_0_582 : OkOp mt Ev 0 582 (o_iald 2) := ok_iald (by decide +kernel)
theorem k_0_583 : OkOp mt Ev 0 583 (o_cv [(12, 169)] 2) := ok_cv (i := 69) (by decide +kernel) vc_25
theorem k_0_586 : OkOp mt Ev 0 586 (o_if2 (fun x y => decide (x = y)) 1221) := ok_icmp_eq (off := 635) (by decide +kernel) (by decide +kernel)
theorem k_0_589 : OkOp mt Ev 0 589 (o_push (.int (0)) 1) := ok_iconst (n := 0) (by decide +kernel) (by decide +kernel)
theorem k_0_590 : OkOp mt Ev 0 590 (o_ret 1) := ok_reti (ty := .boolean) (by decide +kernel) rfl (Or.inr (Or.inl ⟨rfl, rfl⟩))
theorem k_0_591 : OkOp mt Ev 0 591 (o_aload 1 1) := ok_aload_n (k := 1) (by decide +kernel) rfl
theorem k_0_592 : OkOp mt Ev 0 592 (o_aload 0 1) := ok_aload_n (k := 0) (by decide +kernel) rfl
theorem k_0_593 : OkOp mt Ev 0 593 (o_iload 3 1) := ok_iload_n (k := 3) (by decide +kernel) rfl
theorem k_0_594 : OkOp mt Ev 0 594 (o_push (.int (1)) 1) := ok_iconst (n := 1) (by decide +kernel) (by decide +kernel)
theorem k_0_595 : OkOp mt Ev 0 595 (o_ib (fun x y => x + y)) := ok_iadd (by decide +kernel)
theorem k_0_596 : OkOp mt Ev 0 596 (o_iald 2) := ok_iald (by decide +kernel)
theorem k_0_597 : OkOp mt Ev 0 597 (o_aload 0 1) := ok_aload_n (k := 0) (by decide +kernel) rfl
theorem k_0_598 : OkOp mt Ev 0 598 (o_iload 3 1) := ok_iload_n (k := 3) (by decide +kernel) rfl
theorem k_0_599 : OkOp mt Ev 0 599 (o_push (.int (2)) 1) := ok_iconst (n := 2) (by decide +kernel) (by decide +kernel)
theorem k_0_600 : OkOp mt Ev 0 600 (o_ib (fun x y => x + y)) := ok_iadd (by decide +kernel)
theorem k_0_601 : OkOp mt Ev 0 601 (o_iald 2) := ok_iald (by decide +kernel)
theorem k_0_602 : OkOp mt Ev 0 602 (o_cv [(11, 82)] 2) := ok_cv (i := 70) (by decide +kernel) vc_26
theorem k_0_605 : OkOp mt Ev 0 605 (o_aload 2 1) := ok_aload_n (k := 2) (by decide +kernel) rfl
theorem k_0_606 : OkOp mt Ev 0 606 (o_aload 0 1) := ok_aload_n (k := 0) (by decide +kernel) rfl
theorem k_0_607 : OkOp mt Ev 0 607 (o_iload 3 1) := ok_iload_n (k := 3) (by decide +kernel) rfl
theorem k_0_608 : OkOp mt Ev 0 608 (o_push (.int (1)) 1) := ok_iconst (n := 1) (by decide +kernel) (by decide +kernel)
theorem k_0_609 : OkOp mt Ev 0 609 (o_ib (fun x y => x + y)) := ok_iadd (by decide +kernel)
theorem k_0_610 : OkOp mt Ev 0 610 (o_iald 2) := ok_iald (by decide +kernel)
theorem k_0_611 : OkOp mt Ev 0 611 (o_aload 0 1) := ok_aload_n (k := 0) (by decide +kernel) rfl
theorem k_0_612 : OkOp mt Ev 0 612 (o_iload 3 1) := ok_iload_n (k := 3) (by decide +kernel) rfl
theorem k_0_613 : OkOp mt Ev 0 613 (o_push (.int (2)) 1) := ok_iconst (n := 2) (by decide +kernel) (by decide +kernel)
theorem k_0_614 : OkOp mt Ev 0 614 (o_ib (fun x y => x + y)) := ok_iadd (by decide +kernel)
theorem k_0_615 : OkOp mt Ev 0 615 (o_iald 2) := ok_iald (by decide +kernel)
theorem k_0_616 : OkOp mt Ev 0 616 (o_cv [(12, 170)] 2) := ok_cv (i := 73) (by decide +kernel) vc_27
theorem k_0_619 : OkOp mt Ev 0 619 (o_if2 (fun x y => decide (x = y)) 1221) := ok_icmp_eq (off := 602) (by decide +kernel) (by decide +kernel)
theorem k_0_622 : OkOp mt Ev 0 622 (o_push (.int (0)) 1) := ok_iconst (n := 0) (by decide +kernel) (by decide +kernel)
theorem k_0_623 : OkOp mt Ev 0 623 (o_ret 1) := ok_reti (ty := .boolean) (by decide +kernel) rfl (Or.inr (Or.inl ⟨rfl, rfl⟩))
theorem k_0_624 : OkOp mt Ev 0 624 (o_aload 1 1) := ok_aload_n (k := 1) (by decide +kernel) rfl
theorem k_0_625 : OkOp mt Ev 0 625 (o_aload 0 1) := ok_aload_n (k := 0) (by decide +kernel) rfl
theorem k_0_626 : OkOp mt Ev 0 626 (o_iload 3 1) := ok_iload_n (k := 3) (by decide +kernel) rfl
theorem k_0_627 : OkOp mt Ev 0 627 (o_push (.int (1)) 1) := ok_iconst (n := 1) (by decide +kernel) (by decide +kernel)
theorem k_0_628 : OkOp mt Ev 0 628 (o_ib (fun x y => x + y)) := ok_iadd (by decide +kernel)
theorem k_0_629 : OkOp mt Ev 0 629 (o_iald 2) := ok_iald (by decide +kernel)
theorem k_0_630 : OkOp mt Ev 0 630 (o_aload 0 1) := ok_aload_n (k := 0) (by decide +kernel) rfl
theorem k_0_631 : OkOp mt Ev 0 631 (o_iload 3 1) := ok_iload_n (k := 3) (by decide +kernel) rfl
theorem k_0_632 : OkOp mt Ev 0 632 (o_push (.int (2)) 1) := ok_iconst (n := 2) (by decide +kernel) (by decide +kernel)
theorem k_0_633 : OkOp mt Ev 0 633 (o_ib (fun x y => x + y)) := ok_iadd (by decide +kernel)
theorem k_0_634 : OkOp mt Ev 0 634 (o_iald 2) := ok_iald (by decide +kernel)
theorem k_0_635 : OkOp mt Ev 0 635 (o_cv [(11, 83)] 2) := ok_cv (i := 74) (by decide +kernel) vc_28
theorem k_0_638 : OkOp mt Ev 0 638 (o_aload 2 1) := ok_aload_n (k := 2) (by decide +kernel) rfl
theorem k_0_639 : OkOp mt Ev 0 639 (o_aload 0 1) := ok_aload_n (k := 0) (by decide +kernel) rfl
theorem k_0_640 : OkOp mt Ev 0 640 (o_iload 3 1) := ok_iload_n (k := 3) (by decide +kernel) rfl
theorem k_0_641 : OkOp mt Ev 0 641 (o_push (.int (1)) 1) := ok_iconst (n := 1) (by decide +kernel) (by decide +kernel)
theorem k_0_642 : OkOp mt Ev 0 642 (o_ib (fun x y => x + y)) := ok_iadd (by decide +kernel)
theorem k_0_643 : OkOp mt Ev 0 643 (o_iald 2) := ok_iald (by decide +kernel)
theorem k_0_644 : OkOp mt Ev 0 644 (o_aload 0 1) := ok_aload_n (k := 0) (by decide +kernel) rfl
theorem k_0_645 : OkOp mt Ev 0 645 (o_iload 3 1) := ok_iload_n (k := 3) (by decide +kernel) rfl
theorem k_0_646 : OkOp mt Ev 0 646 (o_push (.int (2)) 1) := ok_iconst (n := 2) (by decide +kernel) (by decide +kernel)
theorem k_0_647 : OkOp mt Ev 0 647 (o_ib (fun x y => x + y)) := ok_iadd (by decide +kernel)
theorem k_0_648 : OkOp mt Ev 0 648 (o_iald 2) := ok_iald (by decide +kernel)
theorem k_0_649 : OkOp mt Ev 0 649 (o_cv [(12, 174)] 2) := ok_cv (i := 77) (by decide +kernel) vc_29
theorem k_0_652 : OkOp mt Ev 0 652 (o_if2 (fun x y => decide (x = y)) 1221) := ok_icmp_eq (off := 569) (by decide +kernel) (by decide +kernel)
theorem k_0_655 : OkOp mt Ev 0 655 (o_push (.int (0)) 1) := ok_iconst (n := 0) (by decide +kernel) (by decide +kernel)
theorem k_0_656 : OkOp mt Ev 0 656 (o_ret 1) := ok_reti (ty := .boolean) (by decide +kernel) rfl (Or.inr (Or.inl ⟨rfl, rfl⟩))
theorem k_0_657 : OkOp mt Ev 0 657 (o_aload 1 1) := ok_aload_n (k := 1) (by decide +kernel) rfl
theorem k_0_658 : OkOp mt Ev 0 658 (o_aload 0 1) := ok_aload_n (k := 0) (by decide +kernel) rfl
theorem k_0_659 : OkOp mt Ev 0 659 (o_iload 3 1) := ok_iload_n (k := 3) (by decide +kernel) rfl
theorem k_0_660 : OkOp mt Ev 0 660 (o_push (.int (1)) 1) := ok_iconst (n := 1) (by decide +kernel) (by decide +kernel)
theorem k_0_661 : OkOp mt Ev 0 661 (o_ib (fun x y => x + y)) := ok_iadd (by decide +kernel)
theorem k_0_662 : OkOp mt Ev 0 662 (o_iald 2) := ok_iald (by decide +kernel)
theorem k_0_663 : OkOp mt Ev 0 663 (o_aload 0 1) := ok_aload_n (k := 0) (by decide +kernel) rfl
theorem k_0_664 : OkOp mt Ev 0 664 (o_iload 3 1) := ok_iload_n (k := 3) (by decide +kernel) rfl
theorem k_0_665 : OkOp mt Ev 0 665 (o_push (.int (2)) 1) := ok_iconst (n := 2) (by decide +kernel) (by decide +kernel)
theorem k_0_666 : OkOp mt Ev 0 666 (o_ib (fun x y => x + y)) := ok_iadd (by decide +kernel)
theorem k_0_667 : OkOp mt Ev 0 667 (o_iald 2) := ok_iald (by decide +kernel)
theorem k_0_668 : OkOp mt Ev 0 668 (o_cv [(11, 84)] 2) := ok_cv (i := 78) (by decide +kernel) vc_30
theorem k_0_671 : OkOp mt Ev 0 671 (o_aload 2 1) := ok_aload_n (k := 2) (by decide +kernel) rfl
theorem k_0_672 : OkOp mt Ev 0 672 (o_aload 0 1) := ok_aload_n (k := 0) (by decide +kernel) rfl
theorem k_0_673 : OkOp mt Ev 0 673 (o_iload 3 1) := ok_iload_n (k := 3) (by decide +kernel) rfl
theorem k_0_674 : OkOp mt Ev 0 674 (o_push (.int (1)) 1) := ok_iconst (n := 1) (by decide +kernel) (by decide +kernel)
theorem k_0_675 : OkOp mt Ev 0 675 (o_ib (fun x y => x + y)) := ok_iadd (by decide +kernel)
theorem k_0_676 : OkOp mt Ev 0 676 (o_iald 2) := ok_iald (by decide +kernel)
theorem k_0_677 : OkOp mt Ev 0 677 (o_aload 0 1) := ok_aload_n (k := 0) (by decide +kernel) rfl
theorem k_0_678 : OkOp mt Ev 0 678 (o_iload 3 1) := ok_iload_n (k := 3) (by decide +kernel) rfl
theorem k_0_679 : OkOp mt Ev 0 679 (o_push (.int (2)) 1) := ok_iconst (n := 2) (by decide +kernel) (by decide +kernel)
theorem k_0_680 : OkOp mt Ev 0 680 (o_ib (fun x y => x + y)) := ok_iadd (by decide +kernel)
theorem k_0_681 : OkOp mt Ev 0 681 (o_iald 2) := ok_iald (by decide +kernel)
theorem k_0_682 : OkOp mt Ev 0 682 (o_cv [(12, 176)] 2) := ok_cv (i := 82) (by decide +kernel) vc_31
theorem k_0_685 : OkOp mt Ev 0 685 (o_lcmp) := ok_lcmp (by decide +kernel)
theorem k_0_686 : OkOp mt Ev 0 686 (o_if1 (fun x => decide (x = 0)) 1221) := ok_if_eq (off := 535) (by decide +kernel) (by decide +kernel)
theorem k_0_689 : OkOp mt Ev 0 689 (o_push (.int (0)) 1) := ok_iconst (n := 0) (by decide +kernel) (by decide +kernel)
theorem k_0_690 : OkOp mt Ev 0 690 (o_ret 1) := ok_reti (ty := .boolean) (by decide +kernel) rfl (Or.inr (Or.inl ⟨rfl, rfl⟩))
theorem k_0_691 : OkOp mt Ev 0 691 (o_aload 1 1) := ok_aload_n (k := 1) (by decide +kernel) rfl
theorem k_0_692 : OkOp mt Ev 0 692 (o_aload 0 1) := ok_aload_n (k := 0) (by decide +kernel) rfl
theorem k_0_693 : OkOp mt Ev 0 693 (o_iload 3 1) := ok_iload_n (k := 3) (by decide +kernel) rfl
theorem k_0_694 : OkOp mt Ev 0 694 (o_push (.int (1)) 1) := ok_iconst (n := 1) (by decide +kernel) (by decide +kernel)
theorem k_0_695 : OkOp mt Ev 0 695 (o_ib (fun x y => x + y)) := ok_iadd (by decide +kernel)
theorem k_0_696 : OkOp mt Ev 0 696 (o_iald 2) := ok_iald (by decide +kernel)
theorem k_0_697 : OkOp mt Ev 0 697 (o_aload 0 1) := ok_aload_n (k := 0) (by decide +kernel) rfl
theorem k_0_698 : OkOp mt Ev 0 698 (o_iload 3 1) := ok_iload_n (k := 3) (by decide +kernel) rfl
theorem k_0_699 : OkOp mt Ev 0 699 (o_push (.int (2)) 1) := ok_iconst (n := 2) (by decide +kernel) (by decide +kernel)
theorem k_0_700 : OkOp mt Ev 0 700 (o_ib (fun x y => x + y)) := ok_iadd (by decide +kernel)
theorem k_0_701 : OkOp mt Ev 0 701 (o_iald 2) := ok_iald (by decide +kernel)
theorem k_0_702 : OkOp mt Ev 0 702 (o_cv [(11, 85)] 2) := ok_cv (i := 83) (by decide +kernel) vc_32
theorem k_0_705 : OkOp mt Ev 0 705 (o_aload 2 1) := ok_aload_n (k := 2) (by decide +kernel) rfl
theorem k_0_706 : OkOp mt Ev 0 706 (o_aload 0 1) := ok_aload_n (k := 0) (by decide +kernel) rfl
theorem k_0_707 : OkOp mt Ev 0 707 (o_iload 3 1) := ok_iload_n (k := 3) (by decide +kernel) rfl
theorem k_0_708 : OkOp mt Ev 0 708 (o_push (.int (1)) 1) := ok_iconst (n := 1) (by decide +kernel) (by decide +kernel)
theorem k_0_709 : OkOp mt Ev 0 709 (o_ib (fun x y => x + y)) := ok_iadd (by decide +kernel)
theorem k_0_710 : OkOp mt Ev 0 710 (o_iald 2) := ok_iald (by decide +kernel)
theorem k_0_711 : OkOp mt Ev 0 711 (o_aload 0 1) := ok_aload_n (k := 0) (by decide +kernel) rfl
theorem k_0_712 : OkOp mt Ev 0 712 (o_iload 3 1) := ok_iload_n (k := 3) (by decide +kernel) rfl
theorem k_0_713 : OkOp mt Ev 0 713 (o_push (.int (2)) 1) := ok_iconst (n := 2) (by decide +kernel) (by decide +kernel)
theorem k_0_714 : OkOp mt Ev 0 714 (o_ib (fun x y => x + y)) := ok_iadd (by decide +kernel)
theorem k_0_715 : OkOp mt Ev 0 715 (o_iald 2) := ok_iald (by decide +kernel)
theorem k_0_716 : OkOp mt Ev 0 716 (o_cv [(12, 177)] 2) := ok_cv (i := 86) (by decide +kernel) vc_33
theorem k_0_719 : OkOp mt Ev 0 719 (o_lcmp) := ok_lcmp (by decide +kernel)
theorem k_0_720 : OkOp mt Ev 0 720 (o_if1 (fun x => decide (x = 0)) 1221) := ok_if_eq (off := 501) (by decide +kernel) (by decide +kernel)
theorem k_0_723 : OkOp mt Ev 0 723 (o_push (.int (0)) 1) := ok_iconst (n := 0) (by decide +kernel) (by decide +kernel)
theorem k_0_724 : OkOp mt Ev 0 724 (o_ret 1) := ok_reti (ty := .boolean) (by decide +kernel) rfl (Or.inr (Or.inl ⟨rfl, rfl⟩))
theorem k_0_725 : OkOp mt Ev 0 725 (o_aload 1 1) := ok_aload_n (k := 1) (by decide +kernel) rfl
theorem k_0_726 : OkOp mt Ev 0 726 (o_aload 0 1) := ok_aload_n (k := 0) (by decide +kernel) rfl
theorem k_0_727 : OkOp mt Ev 0 727 (o_iload 3 1) := ok_iload_n (k := 3) (by decide +kernel) rfl
theorem k_0_728 : OkOp mt Ev 0 728 (o_push (.int (1)) 1) := ok_iconst (n := 1) (by decide +kernel) (by decide +kernel)
theorem k_0_729 : OkOp mt Ev 0 729 (o_ib (fun x y => x + y)) := ok_iadd (by decide +kernel)
theorem k_0_730 : OkOp mt Ev 0 730 (o_iald 2) := ok_iald (by decide +kernel)
theorem k_0_731 : OkOp mt Ev 0 731 (o_aload 0 1) := ok_aload_n (k := 0) (by decide +kernel) rfl
theorem k_0_732 : OkOp mt Ev 0 732 (o_iload 3 1) := ok_iload_n (k := 3) (by decide +kernel) rfl
theorem k_0_733 : OkOp mt Ev 0 733 (o_push (.int (2)) 1) := ok_iconst (n := 2) (by decide +kernel) (by decide +kernel)
theorem k_0_734 : OkOp mt Ev 0 734 (o_ib (fun x y => x + y)) := ok_iadd (by decide +kernel)
theorem k_0_735 : OkOp mt Ev 0 735 (o_iald 2) := ok_iald (by decide +kernel)
theorem k_0_736 : OkOp mt Ev 0 736 (o_cv [(11, 86)] 2) := ok_cv (i := 87) (by decide +kernel) vc_34
theorem k_0_739 : OkOp mt Ev 0 739 (o_aload 2 1) := ok_aload_n (k := 2) (by decide +kernel) rfl
theorem k_0_740 : OkOp mt Ev 0 740 (o_aload 0 1) := ok_aload_n (k := 0) (by decide +kernel) rfl
theorem k_0_741 : OkOp mt Ev 0 741 (o_iload 3 1) := ok_iload_n (k := 3) (by decide +kernel) rfl
theorem k_0_742 : OkOp mt Ev 0 742 (o_push (.int (1)) 1) := ok_iconst (n := 1) (by decide +kernel) (by decide +kernel)
theorem k_0_743 : OkOp mt Ev 0 743 (o_ib (fun x y => x + y)) := ok_iadd (by decide +kernel)
theorem k_0_744 : OkOp mt Ev 0 744 (o_iald 2) := ok_iald (by decide +kernel)
theorem k_0_745 : OkOp mt Ev 0 745 (o_aload 0 1) := ok_aload_n (k := 0) (by decide +kernel) rfl
theorem k_0_746 : OkOp mt Ev 0 746 (o_iload 3 1) := ok_iload_n (k := 3) (by decide +kernel) rfl
theorem k_0_747 : OkOp mt Ev 0 747 (o_push (.int (2)) 1) := ok_iconst (n := 2) (by decide +kernel) (by decide +kernel)
theorem k_0_748 : OkOp mt Ev 0 748 (o_ib (fun x y => x + y)) := ok_iadd (by decide +kernel)
theorem k_0_749 : OkOp mt Ev 0 749 (o_iald 2) := ok_iald (by decide +kernel)
theorem k_0_750 : OkOp mt Ev 0 750 (o_cv [(12, 178)] 2) := ok_cv (i := 90) (by decide +kernel) vc_35
theorem k_0_753 : OkOp mt Ev 0 753 (o_if2 (fun x y => decide (x = y)) 1221) := ok_icmp_eq (off := 468) (by decide +kernel) (by decide +kernel)
theorem k_0_756 : OkOp mt Ev 0 756 (o_push (.int (0)) 1) := ok_iconst (n := 0) (by decide +kernel) (by decide +kernel)
theorem k_0_757 : OkOp mt Ev 0 757 (o_ret 1) := ok_reti (ty := .boolean) (by decide +kernel) rfl (Or.inr (Or.inl ⟨rfl, rfl⟩))
theorem k_0_758 : OkOp mt Ev 0 758 (o_aload 1 1) := ok_aload_n (k := 1) (by decide +kernel) rfl
theorem k_0_759 : OkOp mt Ev 0 759 (o_aload 0 1) := ok_aload_n (k := 0) (by decide +kernel) rfl
theorem k_0_760 : OkOp mt Ev 0 760 (o_iload 3 1) := ok_iload_n (k := 3) (by decide +kernel) rfl
theorem k_0_761 : OkOp mt Ev 0 761 (o_push (.int (1)) 1) := ok_iconst (n := 1) (by decide +kernel) (by decide +kernel)
theorem k_0_762 : OkOp mt Ev 0 762 (o_ib (fun x y => x + y)) := ok_iadd (by decide +kernel)
theorem k_0_763 : OkOp mt Ev 0 763 (o_iald 2) := ok_iald (by decide +kernel)
theorem k_0_764 : OkOp mt Ev 0 764 (o_cv [(11, 87)] 1) := ok_cv (i := 91) (by decide +kernel) vc_36
theorem k_0_767 : OkOp mt Ev 0 767 (o_aload 2 1) := ok_aload_n (k := 2) (by decide +kernel) rfl
theorem k_0_768 : OkOp mt Ev 0 768 (o_aload 0 1) := ok_aload_n (k := 0) (by decide +kernel) rfl
theorem k_0_769 : OkOp mt Ev 0 769 (o_iload 3 1) := ok_iload_n (k := 3) (by decide +kernel) rfl
theorem k_0_770 : OkOp mt Ev 0 770 (o_push (.int (1)) 1) := ok_iconst (n := 1) (by decide +kernel) (by decide +kernel)
theorem k_0_771 : OkOp mt Ev 0 771 (o_ib (fun x y => x + y)) := ok_iadd (by decide +kernel)
theorem k_0_772 : OkOp mt Ev 0 772 (o_iald 2) := ok_iald (by decide +kernel)
theorem k_0_773 : OkOp mt Ev 0 773 (o_cv [(12, 179)] 1) := ok_cv (i := 94) (by decide +kernel) vc_37
theorem k_0_776 : OkOp mt Ev 0 776 (o_if2 (fun x y => decide (x = y)) 1221) := ok_icmp_eq (off := 445) (by decide +kernel) (by decide +kernel)
theorem k_0_779 : OkOp mt Ev 0 779 (o_push (.int (0)) 1) := ok_iconst (n := 0) (by decide +kernel) (by decide +kernel)
theorem k_0_780 : OkOp mt Ev 0 780 (o_ret 1) := ok_reti (ty := .boolean) (by decide +kernel) rfl (Or.inr (Or.inl ⟨rfl, rfl⟩))
theorem k_0_781 : OkOp mt Ev 0 781 (o_aload 1 1) := ok_aload_n (k := 1) (by decide +kernel) rfl
theorem k_0_782 : OkOp mt Ev 0 782 (o_aload 0 1) := ok_aload_n (k := 0) (by decide +kernel) rfl
theorem k_0_783 : OkOp mt Ev 0 783 (o_iload 3 1) := ok_iload_n (k := 3) (by decide +kernel) rfl
theorem k_0_784 : OkOp mt Ev 0 784 (o_push (.int (1)) 1) := ok_iconst (n := 1) (by decide +kernel) (by decide +kernel)
theorem k_0_785 : OkOp mt Ev 0 785 (o_ib (fun x y => x + y)) := ok_iadd (by decide +kernel)
theorem k_0_786 : OkOp mt Ev 0 786 (o_iald 2) := ok_iald (by decide +kernel)
theorem k_0_787 : OkOp mt Ev 0 787 (o_aload 0 1) := ok_aload_n (k := 0) (by decide +kernel) rfl
theorem k_0_788 : OkOp mt Ev 0 788 (o_iload 3 1) := ok_iload_n (k := 3) (by decide +kernel) rfl
theorem k_0_789 : OkOp mt Ev 0 789 (o_push (.int (2)) 1) := ok_iconst (n := 2) (by decide +kernel) (by decide +kernel)
theorem k_0_790 : OkOp mt Ev 0 790 (o_ib (fun x y => x + y)) := ok_iadd (by decide +kernel)
theorem k_0_791 : OkOp mt Ev 0 791 (o_iald 2) := ok_iald (by decide +kernel)
theorem k_0_792 : OkOp mt Ev 0 792 (o_cv [(11, 88)] 2) := ok_cv (i := 95) (by decide +kernel) vc_38
theorem k_0_795 : OkOp mt Ev 0 795 (o_aload 2 1) := ok_aload_n (k := 2) (by decide +kernel) rfl
theorem k_0_796 : OkOp mt Ev 0 796 (o_aload 0 1) := ok_aload_n (k := 0) (by decide +kernel) rfl
theorem k_0_797 : OkOp mt Ev 0 797 (o_iload 3 1) := ok_iload_n (k := 3) (by decide +kernel) rfl
theorem k_0_798 : OkOp mt Ev 0 798 (o_push (.int (1)) 1) := ok_iconst (n := 1) (by decide +kernel) (by decide +kernel)
theorem k_0_799 : OkOp mt Ev 0 799 (o_ib (fun x y => x + y)) := ok_iadd (by decide +kernel)
theorem k_0_800 : OkOp mt Ev 0 800 (o_iald 2) := ok_iald (by decide +kernel)
theorem k_0_801 : OkOp mt Ev 0 801 (o_aload 0 1) := ok_aload_n (k := 0) (by decide +kernel) rfl
theorem k_0_802 : OkOp mt Ev 0 802 (o_iload 3 1) := ok_iload_n (k := 3) (by decide +kernel) rfl
theorem k_0_803 : OkOp mt Ev 0 803 (o_push (.int (2)) 1) := ok_iconst (n := 2) (by decide +kernel) (by decide +kernel)
theorem k_0_804 : OkOp mt Ev 0 804 (o_ib (fun x y => x + y)) := ok_iadd (by decide +kernel)
theorem k_0_805 : OkOp mt Ev 0 805 (o_iald 2) := ok_iald (by decide +kernel)
theorem k_0_806 : OkOp mt Ev 0 806 (o_cv [(12, 180)] 2) := ok_cv (i := 98) (by decide +kernel) vc_39
theorem k_0_809 : OkOp mt Ev 0 809 (o_if2 (fun x y => decide (x = y)) 1221) := ok_icmp_eq (off := 412) (by decide +kernel) (by decide +kernel)
theorem k_0_812 : OkOp mt Ev 0 812 (o_push (.int (0)) 1) := ok_iconst (n := 0) (by decide +kernel) (by decide +kernel)
theorem k_0_813 : OkOp mt Ev 0 813 (o_ret 1) := ok_reti (ty := .boolean) (by decide +kernel) rfl (Or.inr (Or.inl ⟨rfl, rfl⟩))
theorem k_0_814 : OkOp mt Ev 0 814 (o_aload 1 1) := ok_aload_n (k := 1) (by decide +kernel) rfl
theorem k_0_815 : OkOp mt Ev 0 815 (o_cv [(11, 89)] 0) := ok_cv (i := 99) (by decide +kernel) vc_40
theorem k_0_818 : OkOp mt Ev 0 818 (o_aload 2 1) := ok_aload_n (k := 2) (by decide +kernel) rfl
theorem k_0_819 : OkOp mt Ev 0 819 (o_cv [(12, 181)] 0) := ok_cv (i := 102) (by decide +kernel) vc_41
theorem k_0_822 : OkOp mt Ev 0 822 (o_if2 (fun x y => decide (x = y)) 1221) := ok_icmp_eq (off := 399) (by decide +kernel) (by decide +kernel)
theorem k_0_825 : OkOp mt Ev 0 825 (o_push (.int (0)) 1) := ok_iconst (n := 0) (by decide +kernel) (by decide +kernel)
theorem k_0_826 : OkOp mt Ev 0 826 (o_ret 1) := ok_reti (ty := .boolean) (by decide +kernel) rfl (Or.inr (Or.inl ⟨rfl, rfl⟩))
theorem k_0_827 : OkOp mt Ev 0 827 (o_aload 1 1) := ok_aload_n (k := 1) (by decide +kernel) rfl
theorem k_0_828 : OkOp mt Ev 0 828 (o_aload 0 1) := ok_aload_n (k := 0) (by decide +kernel) rfl
theorem k_0_829 : OkOp mt Ev 0 829 (o_iload 3 1) := ok_iload_n (k := 3) (by decide +kernel) rfl
theorem k_0_830 : OkOp mt Ev 0 830 (o_push (.int (1)) 1) := ok_iconst (n := 1) (by decide +kernel) (by decide +kernel)
theorem k_0_831 : OkOp mt Ev 0 831 (o_ib (fun x y => x + y)) := ok_iadd (by decide +kernel)
theorem k_0_832 : OkOp mt Ev 0 832 (o_iald 2) := ok_iald (by decide +kernel)
theorem k_0_833 : OkOp mt Ev 0 833 (o_aload 0 1) := ok_aload_n (k := 0) (by decide +kernel) rfl
theorem k_0_834 : OkOp mt Ev 0 834 (o_iload 3 1) := ok_iload_n (k := 3) (by decide +kernel) rfl
theorem k_0_835 : OkOp mt Ev 0 835 (o_push (.int (2)) 1) := ok_iconst (n := 2) (by decide +kernel) (by decide +kernel)
theorem k_0_836 : OkOp mt Ev 0 836 (o_ib (fun x y => x + y)) := ok_iadd (by decide +kernel)
theorem k_0_837 : OkOp mt Ev 0 837 (o_iald 2) := ok_iald (by decide +kernel)
theorem k_0_838 : OkOp mt Ev 0 838 (o_cv [(11, 90)] 2) := ok_cv (i := 103) (by decide +kernel) vc_42
theorem k_0_841 : OkOp mt Ev 0 841 (o_aload 2 1) := ok_aload_n (k := 2) (by decide +kernel) rfl
theorem k_0_842 : OkOp mt Ev 0 842 (o_aload 0 1) := ok_aload_n (k := 0) (by decide +kernel) rfl
theorem k_0_843 : OkOp mt Ev 0 843 (o_iload 3 1) := ok_iload_n (k := 3) (by decide +kernel) rfl
theorem k_0_844 : OkOp mt Ev 0 844 (o_push (.int (1)) 1) := ok_iconst (n := 1) (by decide +kernel) (by decide +kernel)
theorem k_0_845 : OkOp mt Ev 0 845 (o_ib (fun x y => x + y)) := ok_iadd (by decide +kernel)
theorem k_0_846 : OkOp mt Ev 0 846 (o_iald 2) := ok_iald (by decide +kernel)
theorem k_0_847 : OkOp mt Ev 0 847 (o_aload 0 1) := ok_aload_n (k := 0) (by decide +kernel) rfl
theorem k_0_848 : OkOp mt Ev 0 848 (o_iload 3 1) := ok_iload_n (k := 3) (by decide +kernel) rfl
theorem k_0_849 : OkOp mt Ev 0 849 (o_push (.int (2)) 1) := ok_iconst (n := 2) (by decide +kernel) (by decide +kernel)
theorem k_0_850 : OkOp mt Ev 0 850 (o_ib (fun x y => x + y)) := ok_iadd (by decide +kernel)
theorem k_0_851 : OkOp mt Ev 0 851 (o_iald 2) := ok_iald (by decide +kernel)
theorem k_0_852 : OkOp mt Ev 0 852 (o_cv [(12, 194)] 2) := ok_cv (i := 106) (by decide +kernel) vc_43
theorem k_0_855 : OkOp mt Ev 0 855 (o_if2 (fun x y => decide (x = y)) 1221) := ok_icmp_eq (off := 366) (by decide +kernel) (by decide +kernel)
theorem k_0_858 : OkOp mt Ev 0 858 (o_push (.int (0)) 1) := ok_iconst (n := 0) (by decide +kernel) (by decide +kernel)
theorem k_0_859 : OkOp mt Ev 0 859 (o_ret 1) := ok_reti (ty := .boolean) (by decide +kernel) rfl (Or.inr (Or.inl ⟨rfl, rfl⟩))
theorem k_0_860 : OkOp mt Ev 0 860 (o_aload 1 1) := ok_aload_n (k := 1) (by decide +kernel) rfl
theorem k_0_861 : OkOp mt Ev 0 861 (o_cv [(11, 91)] 0) := ok_cv (i := 107) (by decide +kernel) vc_44
theorem k_0_864 : OkOp mt Ev 0 864 (o_aload 2 1) := ok_aload_n (k := 2) (by decide +kernel) rfl
theorem k_0_865 : OkOp mt Ev 0 865 (o_cv [(12, 126)] 0) := ok_cv (i := 110) (by decide +kernel) vc_45
theorem k_0_868 : OkOp mt Ev 0 868 (o_if2 (fun x y => decide (x = y)) 1221) := ok_icmp_eq (off := 353) (by decide +kernel) (by decide +kernel)
theorem k_0_871 : OkOp mt Ev 0 871 (o_push (.int (0)) 1) := ok_iconst (n := 0) (by decide +kernel) (by decide +kernel)
theorem k_0_872 : OkOp mt Ev 0 872 (o_ret 1) := ok_reti (ty := .boolean) (by decide +kernel) rfl (Or.inr (Or.inl ⟨rfl, rfl⟩))
theorem k_0_873 : OkOp mt Ev 0 873 (o_aload 1 1) := ok_aload_n (k := 1) (by decide +kernel) rfl
theorem k_0_874 : OkOp mt Ev 0 874 (o_cv [(11, 92)] 0) := ok_cv (i := 111) (by decide +kernel) vc_46
theorem k_0_877 : OkOp mt Ev 0 877 (o_aload 2 1) := ok_aload_n (k := 2) (by decide +kernel) rfl
theorem k_0_878 : OkOp mt Ev 0 878 (o_cv [(12, 127)] 0) := ok_cv (i := 114) (by decide +kernel) vc_47
theorem k_0_881 : OkOp mt Ev 0 881 (o_if2 (fun x y => decide (x = y)) 1221) := ok_icmp_eq (off := 340) (by decide +kernel) (by decide +kernel)
theorem k_0_884 : OkOp mt Ev 0 884 (o_push (.int (0)) 1) := ok_iconst (n := 0) (by decide +kernel) (by decide +kernel)
theorem k_0_885 : OkOp mt Ev 0 885 (o_ret 1) := ok_reti (ty := .boolean) (by decide +kernel) rfl (Or.inr (Or.inl ⟨rfl, rfl⟩))
theorem k_0_886 : OkOp mt Ev 0 886 (o_aload 1 1) := ok_aload_n (k := 1) (by decide +kernel) rfl
theorem k_0_887 : OkOp mt Ev 0 887 (o_aload 0 1) := ok_aload_n (k := 0) (by decide +kernel) rfl
theorem k_0_888 : OkOp mt Ev 0 888 (o_iload 3 1) := ok_iload_n (k := 3) (by decide +kernel) rfl
theorem k_0_889 : OkOp mt Ev 0 889 (o_push (.int (1)) 1) := ok_iconst (n := 1) (by decide +kernel) (by decide +kernel)
theorem k_0_890 : OkOp mt Ev 0 890 (o_ib (fun x y => x + y)) := ok_iadd (by decide +kernel)
theorem k_0_891 : OkOp mt Ev 0 891 (o_iald 2) := ok_iald (by decide +kernel)
theorem k_0_892 : OkOp mt Ev 0 892 (o_aload 0 1) := ok_aload_n (k := 0) (by decide +kernel) rfl
theorem k_0_893 : OkOp mt Ev 0 893 (o_iload 3 1) := ok_iload_n (k := 3) (by decide +kernel) rfl
theorem k_0_894 : OkOp mt Ev 0 894 (o_push (.int (2)) 1) := ok_iconst (n := 2) (by decide +kernel) (by decide +kernel)
theorem k_0_895 : OkOp mt Ev 0 895 (o_ib (fun x y => x + y)) := ok_iadd (by decide +kernel)
theorem k_0_896 : OkOp mt Ev 0 896 (o_iald 2) := ok_iald (by decide +kernel)
theorem k_0_897 : OkOp mt Ev 0 897 (o_aload 0 1) := ok_aload_n (k := 0) (by decide +kernel) rfl
theorem k_0_898 : OkOp mt Ev 0 898 (o_iload 3 1) := ok_iload_n (k := 3) (by decide +kernel) rfl
theorem k_0_899 : OkOp mt Ev 0 899 (o_push (.int (3)) 1) := ok_iconst (n := 3) (by decide +kernel) (by decide +kernel)
theorem k_0_900 : OkOp mt Ev 0 900 (o_ib (fun x y => x + y)) := ok_iadd (by decide +kernel)
theorem k_0_901 : OkOp mt Ev 0 901 (o_iald 2) := ok_iald (by decide +kernel)
theorem k_0_902 : OkOp mt Ev 0 902 (o_cv [(11, 93)] 3) := ok_cv (i := 115) (by decide +kernel) vc_48
theorem k_0_905 : OkOp mt Ev 0 905 (o_aload 2 1) := ok_aload_n (k := 2) (by decide +kernel) rfl
theorem k_0_906 : OkOp mt Ev 0 906 (o_aload 0 1) := ok_aload_n (k := 0) (by decide +kernel) rfl
theorem k_0_907 : OkOp mt Ev 0 907 (o_iload 3 1) := ok_iload_n (k := 3) (by decide +kernel) rfl
theorem k_0_908 : OkOp mt Ev 0 908 (o_push (.int (1)) 1) := ok_iconst (n := 1) (by decide +kernel) (by decide +kernel)
theorem k_0_909 : OkOp mt Ev 0 909 (o_ib (fun x y => x + y)) := ok_iadd (by decide +kernel)
theorem k_0_910 : OkOp mt Ev 0 910 (o_iald 2) := ok_iald (by decide +kernel)
theorem k_0_911 : OkOp mt Ev 0 911 (o_aload 0 1) := ok_aload_n (k := 0) (by decide +kernel) rfl
theorem k_0_912 : OkOp mt Ev 0 912 (o_iload 3 1) := ok_iload_n (k := 3) (by decide +kernel) rfl
theorem k_0_913 : OkOp mt Ev 0 913 (o_push (.int (2)) 1) := ok_iconst (n := 2) (by decide +kernel) (by decide +kernel)
theorem k_0_914 : OkOp mt Ev 0 914 (o_ib (fun x y => x + y)) := ok_iadd (by decide +kernel)
theorem k_0_915 : OkOp mt Ev 0 915 (o_iald 2) := ok_iald (by decide +kernel)
theorem k_0_916 : OkOp mt Ev 0 916 (o_aload 0 1) := ok_aload_n (k := 0) (by decide +kernel) rfl
theorem k_0_917 : OkOp mt Ev 0 917 (o_iload 3 1) := ok_iload_n (k := 3) (by decide +kernel) rfl
theorem k_0_918 : OkOp mt Ev 0 918 (o_push (.int (3)) 1) := ok_iconst (n := 3) (by decide +kernel) (by decide +kernel)
theorem k_0_919 : OkOp mt Ev 0 919 (o_ib (fun x y => x + y)) := ok_iadd (by decide +kernel)
theorem k_0_920 : OkOp mt Ev 0 920 (o_iald 2) := ok_iald (by decide +kernel)
theorem k_0_921 : OkOp mt Ev 0 921 (o_cv [(12, 185)] 3) := ok_cv (i := 118) (by decide +kernel) vc_49
theorem k_0_924 : OkOp mt Ev 0 924 (o_if2 (fun x y => decide (x = y)) 1221) := ok_icmp_eq (off := 297) (by decide +kernel) (by decide +kernel)
theorem k_0_927 : OkOp mt Ev 0 927 (o_push (.int (0)) 1) := ok_iconst (n := 0) (by decide +kernel) (by decide +kernel)
theorem k_0_928 : OkOp mt Ev 0 928 (o_ret 1) := ok_reti (ty := .boolean) (by decide +kernel) rfl (Or.inr (Or.inl ⟨rfl, rfl⟩))
theorem k_0_929 : OkOp mt Ev 0 929 (o_aload 1 1) := ok_aload_n (k := 1) (by decide +kernel) rfl
theorem k_0_930 : OkOp mt Ev 0 930 (o_aload 0 1) := ok_aload_n (k := 0) (by decide +kernel) rfl
theorem k_0_931 : OkOp mt Ev 0 931 (o_iload 3 1) := ok_iload_n (k := 3) (by decide +kernel) rfl
theorem k_0_932 : OkOp mt Ev 0 932 (o_push (.int (1)) 1) := ok_iconst (n := 1) (by decide +kernel) (by decide +kernel)
theorem k_0_933 : OkOp mt Ev 0 933 (o_ib (fun x y => x + y)) := ok_iadd (by decide +kernel)
theorem k_0_934 : OkOp mt Ev 0 934 (o_iald 2) := ok_iald (by decide +kernel)
theorem k_0_935 : OkOp mt Ev 0 935 (o_cv [(11, 94)] 1) := ok_cv (i := 119) (by decide +kernel) vc_50
theorem k_0_938 : OkOp mt Ev 0 938 (o_aload 2 1) := ok_aload_n (k := 2) (by decide +kernel) rfl
theorem k_0_939 : OkOp mt Ev 0 939 (o_aload 0 1) := ok_aload_n (k := 0) (by decide +kernel) rfl
theorem k_0_940 : OkOp mt Ev 0 940 (o_iload 3 1) := ok_iload_n (k := 3) (by decide +kernel) rfl
theorem k_0_941 : OkOp mt Ev 0 941 (o_push (.int (1)) 1) := ok_iconst (n := 1) (by decide +kernel) (by decide +kernel)
theorem k_0_942 : OkOp mt Ev 0 942 (o_ib (fun x y => x + y)) := ok_iadd (by decide +kernel)
theorem k_0_943 : OkOp mt Ev 0 943 (o_iald 2) := ok_iald (by decide +kernel)
theorem k_0_944 : OkOp mt Ev 0 944 (o_cv [(12, 186)] 1) := ok_cv (i := 122) (by decide +kernel) vc_51
theorem k_0_947 : OkOp mt Ev 0 947 (o_if2 (fun x y => decide (x = y)) 1221) := ok_icmp_eq (off := 274) (by decide +kernel) (by decide +kernel)
theorem k_0_950 : OkOp mt Ev 0 950 (o_push (.int (0)) 1) := ok_iconst (n := 0) (by decide +kernel) (by decide +kernel)
theorem k_0_951 : OkOp mt Ev 0 951 (o_ret 1) := ok_reti (ty := .boolean) (by decide +kernel) rfl (Or.inr (Or.inl ⟨rfl, rfl⟩))
theorem k_0_952 : OkOp mt Ev 0 952 (o_aload 1 1) := ok_aload_n (k := 1) (by decide +kernel) rfl
theorem k_0_953 : OkOp mt Ev 0 953 (o_aload 0 1) := ok_aload_n (k := 0) (by decide +kernel) rfl
theorem k_0_954 : OkOp mt Ev 0 954 (o_iload 3 1) := ok_iload_n (k := 3) (by decide +kernel) rfl
theorem k_0_955 : OkOp mt Ev 0 955 (o_push (.int (1)) 1) := ok_iconst (n := 1) (by decide +kernel) (by decide +kernel)
theorem k_0_956 : OkOp mt Ev 0 956 (o_ib (fun x y => x + y)) := ok_iadd (by decide +kernel)
theorem k_0_957 : OkOp mt Ev 0 957 (o_iald 2) := ok_iald (by decide +kernel)
theorem k_0_958 : OkOp mt Ev 0 958 (o_aload 0 1) := ok_aload_n (k := 0) (by decide +kernel) rfl
theorem k_0_959 : OkOp mt Ev 0 959 (o_iload 3 1) := ok_iload_n (k := 3) (by decide +kernel) rfl
theorem k_0_960 : OkOp mt Ev 0 960 (o_push (.int (2)) 1) := ok_iconst (n := 2) (by decide +kernel) (by decide +kernel)
theorem k_0_961 : OkOp mt Ev 0 961 (o_ib (fun x y => x + y)) := ok_iadd (by decide +kernel)
theorem k_0_962 : OkOp mt Ev 0 962 (o_iald 2) := ok_iald (by decide +kernel)
theorem k_0_963 : OkOp mt Ev 0 963 (o_cv [(11, 95)] 2) := ok_cv (i := 123) (by decide +kernel) vc_52
theorem k_0_966 : OkOp mt Ev 0 966 (o_aload 2 1) := ok_aload_n (k := 2) (by decide +kernel) rfl
theorem k_0_967 : OkOp mt Ev 0 967 (o_aload 0 1) := ok_aload_n (k := 0) (by decide +kernel) rfl
theorem k_0_968 : OkOp mt Ev 0 968 (o_iload 3 1) := ok_iload_n (k := 3) (by decide +kernel) rfl
theorem k_0_969 : OkOp mt Ev 0 969 (o_push (.int (1)) 1) := ok_iconst (n := 1) (by decide +kernel) (by decide +kernel)
theorem k_0_970 : OkOp mt Ev 0 970 (o_ib (fun x y => x + y)) := ok_iadd (by decide +kernel)
theorem k_0_971 : OkOp mt Ev 0 971 (o_iald 2) := ok_iald (by decide +kernel)
theorem k_0_972 : OkOp mt Ev 0 972 (o_aload 0 1) := ok_aload_n (k := 0) (by decide +kernel) rfl
theorem k_0_973 : OkOp mt Ev 0 973 (o_iload 3 1) := ok_iload_n (k := 3) (by decide +kernel) rfl
theorem k_0_974 : OkOp mt Ev 0 974 (o_push (.int (2)) 1) := ok_iconst (n := 2) (by decide +kernel) (by decide +kernel)
theorem k_0_975 : OkOp mt Ev 0 975 (o_ib (fun x y => x + y)) := ok_iadd (by decide +kernel)
theorem k_0_976 : OkOp mt Ev 0 976 (o_iald 2) := ok_iald (by decide +kernel)
theorem k_0_977 : OkOp mt Ev 0 977 (o_cv [(12, 187)] 2) := ok_cv (i := 126) (by decide +kernel) vc_53
theorem k_0_980 : OkOp mt Ev 0 980 (o_if2 (fun x y => decide (x = y)) 1221) := ok_icmp_eq (off := 241) (by decide +kernel) (by decide +kernel)
theorem k_0_983 : OkOp mt Ev 0 983 (o_push (.int (0)) 1) := ok_iconst (n := 0) (by decide +kernel) (by decide +kernel)
theorem k_0_984 : OkOp mt Ev 0 984 (o_ret 1) := ok_reti (ty := .boolean) (by decide +kernel) rfl (Or.inr (Or.inl ⟨rfl, rfl⟩))
theorem k_0_985 : OkOp mt Ev 0 985 (o_aload 1 1) := ok_aload_n (k := 1) (by decide +kernel) rfl
theorem k_0_986 : OkOp mt Ev 0 986 (o_aload 0 1) := ok_aload_n (k := 0) (by decide +kernel) rfl
theorem k_0_987 : OkOp mt Ev 0 987 (o_iload 3 1) := ok_iload_n (k := 3) (by decide +kernel) rfl
theorem k_0_988 : OkOp mt Ev 0 988 (o_push (.int (1)) 1) := ok_iconst (n := 1) (by decide +kernel) (by decide +kernel)
theorem k_0_989 : OkOp mt Ev 0 989 (o_ib (fun x y => x + y)) := ok_iadd (by decide +kernel)
theorem k_0_990 : OkOp mt Ev 0 990 (o_iald 2) := ok_iald (by decide +kernel)
theorem k_0_991 : OkOp mt Ev 0 991 (o_cv [(11, 96)] 1) := ok_cv (i := 127) (by decide +kernel) vc_54
theorem k_0_994 : OkOp mt Ev 0 994 (o_aload 2 1) := ok_aload_n (k := 2) (by decide +kernel) rfl
theorem k_0_995 : OkOp mt Ev 0 995 (o_aload 0 1) := ok_aload_n (k := 0) (by decide +kernel) rfl
theorem k_0_996 : OkOp mt Ev 0 996 (o_iload 3 1) := ok_iload_n (k := 3) (by decide +kernel) rfl
theorem k_0_997 : OkOp mt Ev 0 997 (o_push (.int (1)) 1) := ok_iconst (n := 1) (by decide +kernel) (by decide +kernel)
theorem k_0_998 : OkOp mt Ev 0 998 (o_ib (fun x y => x + y)) := ok_iadd (by decide +kernel)
theorem k_0_999 : OkOp mt Ev 0 999 (o_iald 2) := ok_iald (by decide +kernel)
theorem k_0_1000 : OkOp mt Ev 0 1000 (o_cv [(12, 188)] 1) := ok_cv (i := 130) (by decide +kernel) vc_55
theorem k_0_1003 : OkOp mt Ev 0 1003 (o_if2 (fun x y => decide (x = y)) 1221) := ok_icmp_eq (off := 218) (by decide +kernel) (by decide +kernel)
theorem k_0_1006 : OkOp mt Ev 0 1006 (o_push (.int (0)) 1) := ok_iconst (n := 0) (by decide +kernel) (by decide +kernel)
theorem k_0_1007 : OkOp mt Ev 0 1007 (o_ret 1) := ok_reti (ty := .boolean) (by decide +kernel) rfl (Or.inr (Or.inl ⟨rfl, rfl⟩))
theorem k_0_1008 : OkOp mt Ev 0 1008 (o_aload 1 1) := ok_aload_n (k := 1) (by decide +kernel) rfl
theorem k_0_1009 : OkOp mt Ev 0 1009 (o_aload 0 1) := ok_aload_n (k := 0) (by decide +kernel) rfl
theorem k_0_1010 : OkOp mt Ev 0 1010 (o_iload 3 1) := ok_iload_n (k := 3) (by decide +kernel) rfl
theorem k_0_1011 : OkOp mt Ev 0 1011 (o_push (.int (1)) 1) := ok_iconst (n := 1) (by decide +kernel) (by decide +kernel)
theorem k_0_1012 : OkOp mt Ev 0 1012 (o_ib (fun x y => x + y)) := ok_iadd (by decide +kernel)
theorem k_0_1013 : OkOp mt Ev 0 1013 (o_iald 2) := ok_iald (by decide +kernel)
theorem k_0_1014 : OkOp mt Ev 0 1014 (o_aload 0 1) := ok_aload_n (k := 0) (by decide +kernel) rfl
theorem k_0_1015 : OkOp mt Ev 0 1015 (o_iload 3 1) := ok_iload_n (k := 3) (by decide +kernel) rfl
theorem k_0_1016 : OkOp mt Ev 0 1016 (o_push (.int (2)) 1) := ok_iconst (n := 2) (by decide +kernel) (by decide +kernel)
theorem k_0_1017 : OkOp mt Ev 0 1017 (o_ib (fun x y => x + y)) := ok_iadd (by decide +kernel)
theorem k_0_1018 : OkOp mt Ev 0 1018 (o_iald 2) := ok_iald (by decide +kernel)
theorem k_0_1019 : OkOp mt Ev 0 1019 (o_aload 0 1) := ok_aload_n (k := 0) (by decide +kernel) rfl
theorem k_0_1020 : OkOp mt Ev 0 1020 (o_iload 3 1) := ok_iload_n (k := 3) (by decide +kernel) rfl
theorem k_0_1021 : OkOp mt Ev 0 1021 (o_push (.int (3)) 1) := ok_iconst (n := 3) (by decide +kernel) (by decide +kernel)
theorem k_0_1022 : OkOp mt Ev 0 1022 (o_ib (fun x y => x + y)) := ok_iadd (by decide +kernel)
theorem k_0_1023 : OkOp mt Ev 0 1023 (o_iald 2) := ok_iald (by decide +kernel)
theorem k_0_1024 : OkOp mt Ev 0 1024 (o_cv [(11, 97)] 3) := ok_cv (i := 131) (by decide +kernel) vc_56
theorem k_0_1027 : OkOp mt Ev 0 1027 (o_aload 2 1) := ok_aload_n (k := 2) (by decide +kernel) rfl
theorem k_0_1028 : OkOp mt Ev 0 1028 (o_aload 0 1) := ok_aload_n (k := 0) (by decide +kernel) rfl
theorem k_0_1029 : OkOp mt Ev 0 1029 (o_iload 3 1) := ok_iload_n (k := 3) (by decide +kernel) rfl
theorem k_0_1030 : OkOp mt Ev 0 1030 (o_push (.int (1)) 1) := ok_iconst (n := 1) (by decide +kernel) (by decide +kernel)
theorem k_0_1031 : OkOp mt Ev 0 1031 (o_ib (fun x y => x + y)) := ok_iadd (by decide +kernel)
theorem k_0_1032 : OkOp mt Ev 0 1032 (o_iald 2) := ok_iald (by decide +kernel)
theorem k_0_1033 : OkOp mt Ev 0 1033 (o_aload 0 1) := ok_aload_n (k := 0) (by decide +kernel) rfl
theorem k_0_1034 : OkOp mt Ev 0 1034 (o_iload 3 1) := ok_iload_n (k := 3) (by decide +kernel) rfl
theorem k_0_1035 : OkOp mt Ev 0 1035 (o_push (.int (2)) 1) := ok_iconst (n := 2) (by decide +kernel) (by decide +kernel)
theorem k_0_1036 : OkOp mt Ev 0 1036 (o_ib (fun x y => x + y)) := ok_iadd (by decide +kernel)
theorem k_0_1037 : OkOp mt Ev 0 1037 (o_iald 2) := ok_iald (by decide +kernel)
theorem k_0_1038 : OkOp mt Ev 0 1038 (o_aload 0 1) := ok_aload_n (k := 0) (by decide +kernel) rfl
theorem k_0_1039 : OkOp mt Ev 0 1039 (o_iload 3 1) := ok_iload_n (k := 3) (by decide +kernel) rfl
theorem k_0_1040 : OkOp mt Ev 0 1040 (o_push (.int (3)) 1) := ok_iconst (n := 3) (by decide +kernel) (by decide +kernel)
theorem k_0_1041 : OkOp mt Ev 0 1041 (o_ib (fun x y => x + y)) := ok_iadd (by decide +kernel)
theorem k_0_1042 : OkOp mt Ev 0 1042 (o_iald 2) := ok_iald (by decide +kernel)
theorem k_0_1043 : OkOp mt Ev 0 1043 (o_cv [(12, 190)] 3) := ok_cv (i := 134) (by decide +kernel) vc_57
theorem k_0_1046 : OkOp mt Ev 0 1046 (o_if2 (fun x y => decide (x = y)) 1221) := ok_icmp_eq (off := 175) (by decide +kernel) (by decide +kernel)
theorem k_0_1049 : OkOp mt Ev 0 1049 (o_push (.int (0)) 1) := ok_iconst (n := 0) (by decide +kernel) (by decide +kernel)
theorem k_0_1050 : OkOp mt Ev 0 1050 (o_ret 1) := ok_reti (ty := .boolean) (by decide +kernel) rfl (Or.inr (Or.inl ⟨rfl, rfl⟩))
theorem k_0_1051 : OkOp mt Ev 0 1051 (o_aload 1 1) := ok_aload_n (k := 1) (by decide +kernel) rfl
theorem k_0_1052 : OkOp mt Ev 0 1052 (o_aload 0 1) := ok_aload_n (k := 0) (by decide +kernel) rfl
theorem k_0_1053 : OkOp mt Ev 0 1053 (o_iload 3 1) := ok_iload_n (k := 3) (by decide +kernel) rfl
theorem k_0_1054 : OkOp mt Ev 0 1054 (o_push (.int (1)) 1) := ok_iconst (n := 1) (by decide +kernel) (by decide +kernel)
theorem k_0_1055 : OkOp mt Ev 0 1055 (o_ib (fun x y => x + y)) := ok_iadd (by decide +kernel)
theorem k_0_1056 : OkOp mt Ev 0 1056 (o_iald 2) := ok_iald (by decide +kernel)
theorem k_0_1057 : OkOp mt Ev 0 1057 (o_aload 0 1) := ok_aload_n (k := 0) (by decide +kernel) rfl
theorem k_0_1058 : OkOp mt Ev 0 1058 (o_iload 3 1) := ok_iload_n (k := 3) (by decide +kernel) rfl
theorem k_0_1059 : OkOp mt Ev 0 1059 (o_push (.int (2)) 1) := ok_iconst (n := 2) (by decide +kernel) (by decide +kernel)
theorem k_0_1060 : OkOp mt Ev 0 1060 (o_ib (fun x y => x + y)) := ok_iadd (by decide +kernel)
theorem k_0_1061 : OkOp mt Ev 0 1061 (o_iald 2) := ok_iald (by decide +kernel)
theorem k_0_1062 : OkOp mt Ev 0 1062 (o_aload 0 1) := ok_aload_n (k := 0) (by decide +kernel) rfl
theorem k_0_1063 : OkOp mt Ev 0 1063 (o_iload 3 1) := ok_iload_n (k := 3) (by decide +kernel) rfl
theorem k_0_1064 : OkOp mt Ev 0 1064 (o_push (.int (3)) 1) := ok_iconst (n := 3) (by decide +kernel) (by decide +kernel)
theorem k_0_1065 : OkOp mt Ev 0 1065 (o_ib (fun x y => x + y)) := ok_iadd (by decide +kernel)
theorem k_0_1066 : OkOp mt Ev 0 1066 (o_iald 2) := ok_iald (by decide +kernel)
theorem k_0_1067 : OkOp mt Ev 0 1067 (o_i2l) := ok_i2l (by decide +kernel)
theorem k_0_1068 : OkOp mt Ev 0 1068 (o_push (.int (32)) 2) := ok_bipush (n := 32) (by decide +kernel) (by decide +kernel)
theorem k_0_1070 : OkOp mt Ev 0 1070 (o_lshl) := ok_lshl (by decide +kernel)
theorem k_0_1071 : OkOp mt Ev 0 1071 (o_aload 0 1) := ok_aload_n (k := 0) (by decide +kernel) rfl
theorem k_0_1072 : OkOp mt Ev 0 1072 (o_iload 3 1) := ok_iload_n (k := 3) (by decide +kernel) rfl
theorem k_0_1073 : OkOp mt Ev 0 1073 (o_push (.int (4)) 1) := ok_iconst (n := 4) (by decide +kernel) (by decide +kernel)
theorem k_0_1074 : OkOp mt Ev 0 1074 (o_ib (fun x y => x + y)) := ok_iadd (by decide +kernel)
theorem k_0_1075 : OkOp mt Ev 0 1075 (o_iald 2) := ok_iald (by decide +kernel)
theorem k_0_1076 : OkOp mt Ev 0 1076 (o_i2l) := ok_i2l (by decide +kernel)
theorem k_0_1077 : OkOp mt Ev 0 1077 (o_push (.long (4294967295)) 3) := ok_ldc2 (i := 135) (by decide +kernel) wd_1356
theorem k_0_1080 : OkOp mt Ev 0 1080 (o_lb (fun x y => x &&& y)) := ok_land (by decide +kernel)
theorem k_0_1081 : OkOp mt Ev 0 1081 (o_lb (fun x y => x ||| y)) := ok_lor (by decide +kernel)
theorem k_0_1082 : OkOp mt Ev 0 1082 (o_cv [(11, 98)] 3) := ok_cv (i := 137) (by decide +kernel) vc_58
theorem k_0_1085 : OkOp mt Ev 0 1085 (o_aload 2 1) := ok_aload_n (k := 2) (by decide +kernel) rfl
theorem k_0_1086 : OkOp mt Ev 0 1086 (o_aload 0 1) := ok_aload_n (k := 0) (by decide +kernel) rfl
theorem k_0_1087 : OkOp mt Ev 0 1087 (o_iload 3 1) := ok_iload_n (k := 3) (by decide +kernel) rfl
theorem k_0_1088 : OkOp mt Ev 0 1088 (o_push (.int (1)) 1) := ok_iconst (n := 1) (by decide +kernel) (by decide +kernel)
theorem k_0_1089 : OkOp mt Ev 0 1089 (o_ib (fun x y => x + y)) := ok_iadd (by decide +kernel)
theorem k_0_1090 : OkOp mt Ev 0 1090 (o_iald 2) := ok_iald (by decide +kernel)
theorem k_0_1091 : OkOp mt Ev 0 1091 (o_aload 0 1) := ok_aload_n (k := 0) (by decide +kernel) rfl
theorem k_0_1092 : OkOp mt Ev 0 1092 (o_iload 3 1) := ok_iload_n (k := 3) (by decide +kernel) rfl
theorem k_0_1093 : OkOp mt Ev 0 1093 (o_push (.int (2)) 1) := ok_iconst (n := 2) (by decide +kernel) (by decide +kernel)
theorem k_0_1094 : OkOp mt Ev 0 1094 (o_ib (fun x y => x + y)) := ok_iadd (by decide +kernel)
theorem k_0_1095 : OkOp mt Ev 0 1095 (o_iald 2) := ok_iald (by decide +kernel)
theorem k_0_1096 : OkOp mt Ev 0 1096 (o_aload 0 1) := ok_aload_n (k := 0) (by decide +kernel) rfl
theorem k_0_1097 : OkOp mt Ev 0 1097 (o_iload 3 1) := ok_iload_n (k := 3) (by decide +kernel) rfl
theorem k_0_1098 : OkOp mt Ev 0 1098 (o_push (.int (3)) 1) := ok_iconst (n := 3) (by decide +kernel) (by decide +kernel)
theorem k_0_1099 : OkOp mt Ev 0 1099 (o_ib (fun x y => x + y)) := ok_iadd (by decide +kernel)
theorem k_0_1100 : OkOp mt Ev 0 1100 (o_iald 2) := ok_iald (by decide +kernel)
theorem k_0_1101 : OkOp mt Ev 0 1101 (o_i2l) := ok_i2l (by decide +kernel)
theorem k_0_1102 : OkOp mt Ev 0 1102 (o_push (.int (32)) 2) := ok_bipush (n := 32) (by decide +kernel) (by decide +kernel)
theorem k_0_1104 : OkOp mt Ev 0 1104 (o_lshl) := ok_lshl (by decide +kernel)
theorem k_0_1105 : OkOp mt Ev 0 1105 (o_aload 0 1) := ok_aload_n (k := 0) (by decide +kernel) rfl
theorem k_0_1106 : OkOp mt Ev 0 1106 (o_iload 3 1) := ok_iload_n (k := 3) (by decide +kernel) rfl
theorem k_0_1107 : OkOp mt Ev 0 1107 (o_push (.int (4)) 1) := ok_iconst (n := 4) (by decide +kernel) (by decide +kernel)
theorem k_0_1108 : OkOp mt Ev 0 1108 (o_ib (fun x y => x + y)) := ok_iadd (by decide +kernel)
theorem k_0_1109 : OkOp mt Ev 0 1109 (o_iald 2) := ok_iald (by decide +kernel)
theorem k_0_1110 : OkOp mt Ev 0 1110 (o_i2l) := ok_i2l (by decide +kernel)
theorem k_0_1111 : OkOp mt Ev 0 1111 (o_push (.long (4294967295)) 3) := ok_ldc2 (i := 135) (by decide +kernel) wd_1356
theorem k_0_1114 : OkOp mt Ev 0 1114 (o_lb (fun x y => x &&& y)) := ok_land (by decide +kernel)
theorem k_0_1115 : OkOp mt Ev 0 1115 (o_lb (fun x y => x ||| y)) := ok_lor (by decide +kernel)
theorem k_0_1116 : OkOp mt Ev 0 1116 (o_cv [(12, 191)] 3) := ok_cv (i := 141) (by decide +kernel) vc_59
theorem k_0_1119 : OkOp mt Ev 0 1119 (o_if2 (fun x y => decide (x = y)) 1221) := ok_icmp_eq (off := 102) (by decide +kernel) (by decide +kernel)
theorem k_0_1122 : OkOp mt Ev 0 1122 (o_push (.int (0)) 1) := ok_iconst (n := 0) (by decide +kernel) (by decide +kernel)
theorem k_0_1123 : OkOp mt Ev 0 1123 (o_ret 1) := ok_reti (ty := .boolean) (by decide +kernel) rfl (Or.inr (Or.inl ⟨rfl, rfl⟩))
theorem k_0_1124 : OkOp mt Ev 0 1124 (o_aload 1 1) := ok_aload_n (k := 1) (by decide +kernel) rfl
theorem k_0_1125 : OkOp mt Ev 0 1125 (o_aload 0 1) := ok_aload_n (k := 0) (by decide +kernel) rfl
theorem k_0_1126 : OkOp mt Ev 0 1126 (o_iload 3 1) := ok_iload_n (k := 3) (by decide +kernel) rfl
theorem k_0_1127 : OkOp mt Ev 0 1127 (o_push (.int (1)) 1) := ok_iconst (n := 1) (by decide +kernel) (by decide +kernel)
theorem k_0_1128 : OkOp mt Ev 0 1128 (o_ib (fun x y => x + y)) := ok_iadd (by decide +kernel)
theorem k_0_1129 : OkOp mt Ev 0 1129 (o_iald 2) := ok_iald (by decide +kernel)
theorem k_0_1130 : OkOp mt Ev 0 1130 (o_aload 0 1) := ok_aload_n (k := 0) (by decide +kernel) rfl
theorem k_0_1131 : OkOp mt Ev 0 1131 (o_iload 3 1) := ok_iload_n (k := 3) (by decide +kernel) rfl
theorem k_0_1132 : OkOp mt Ev 0 1132 (o_push (.int (2)) 1) := ok_iconst (n := 2) (by decide +kernel) (by decide +kernel)
theorem k_0_1133 : OkOp mt Ev 0 1133 (o_ib (fun x y => x + y)) := ok_iadd (by decide +kernel)
theorem k_0_1134 : OkOp mt Ev 0 1134 (o_iald 2) := ok_iald (by decide +kernel)
theorem k_0_1135 : OkOp mt Ev 0 1135 (o_cv [(11, 99)] 2) := ok_cv (i := 142) (by decide +kernel) vc_60
theorem k_0_1138 : OkOp mt Ev 0 1138 (o_aload 2 1) := ok_aload_n (k := 2) (by decide +kernel) rfl
theorem k_0_1139 : OkOp mt Ev 0 1139 (o_aload 0 1) := ok_aload_n (k := 0) (by decide +kernel) rfl
theorem k_0_1140 : OkOp mt Ev 0 1140 (o_iload 3 1) := ok_iload_n (k := 3) (by decide +kernel) rfl
theorem k_0_1141 : OkOp mt Ev 0 1141 (o_push (.int (1)) 1) := ok_iconst (n := 1) (by decide +kernel) (by decide +kernel)
theorem k_0_1142 : OkOp mt Ev 0 1142 (o_ib (fun x y => x + y)) := ok_iadd (by decide +kernel)
theorem k_0_1143 : OkOp mt Ev 0 1143 (o_iald 2) := ok_iald (by decide +kernel)
theorem k_0_1144 : OkOp mt Ev 0 1144 (o_aload 0 1) := ok_aload_n (k := 0) (by decide +kernel) rfl
theorem k_0_1145 : OkOp mt Ev 0 1145 (o_iload 3 1) := ok_iload_n (k := 3) (by decide +kernel) rfl
theorem k_0_1146 : OkOp mt Ev 0 1146 (o_push (.int (2)) 1) := ok_iconst (n := 2) (by decide +kernel) (by decide +kernel)
theorem k_0_1147 : OkOp mt Ev 0 1147 (o_ib (fun x y => x + y)) := ok_iadd (by decide +kernel)
theorem k_0_1148 : OkOp mt Ev 0 1148 (o_iald 2) := ok_iald (by decide +kernel)
theorem k_0_1149 : OkOp mt Ev 0 1149 (o_cv [(12, 192)] 2) := ok_cv (i := 145) (by decide +kernel) vc_61
theorem k_0_1152 : OkOp mt Ev 0 1152 (o_lcmp) := ok_lcmp (by decide +kernel)
theorem k_0_1153 : OkOp mt Ev 0 1153 (o_if1 (fun x => decide (x = 0)) 1221) := ok_if_eq (off := 68) (by decide +kernel) (by decide +kernel)
theorem k_0_1156 : OkOp mt Ev 0 1156 (o_push (.int (0)) 1) := ok_iconst (n := 0) (by decide +kernel) (by decide +kernel)
theorem k_0_1157 : OkOp mt Ev 0 1157 (o_ret 1) := ok_reti (ty := .boolean) (by decide +kernel) rfl (Or.inr (Or.inl ⟨rfl, rfl⟩))
theorem k_0_1158 : OkOp mt Ev 0 1158 (o_aload 1 1) := ok_aload_n (k := 1) (by decide +kernel) rfl
theorem k_0_1159 : OkOp mt Ev 0 1159 (o_aload 0 1) := ok_aload_n (k := 0) (by decide +kernel) rfl
theorem k_0_1160 : OkOp mt Ev 0 1160 (o_iload 3 1) := ok_iload_n (k := 3) (by decide +kernel) rfl
theorem k_0_1161 : OkOp mt Ev 0 1161 (o_push (.int (1)) 1) := ok_iconst (n := 1) (by decide +kernel) (by decide +kernel)
theorem k_0_1162 : OkOp mt Ev 0 1162 (o_ib (fun x y => x + y)) := ok_iadd (by decide +kernel)
theorem k_0_1163 : OkOp mt Ev 0 1163 (o_iald 2) := ok_iald (by decide +kernel)
theorem k_0_1164 : OkOp mt Ev 0 1164 (o_aload 0 1) := ok_aload_n (k := 0) (by decide +kernel) rfl
theorem k_0_1165 : OkOp mt Ev 0 1165 (o_iload 3 1) := ok_iload_n (k := 3) (by decide +kernel) rfl
theorem k_0_1166 : OkOp mt Ev 0 1166 (o_push (.int (2)) 1) := ok_iconst (n := 2) (by decide +kernel) (by decide +kernel)
theorem k_0_1167 : OkOp mt Ev 0 1167 (o_ib (fun x y => x + y)) := ok_iadd (by decide +kernel)
theorem k_0_1168 : OkOp mt Ev 0 1168 (o_iald 2) := ok_iald (by decide +kernel)
theorem k_0_1169 : OkOp mt Ev 0 1169 (o_aload 0 1) := ok_aload_n (k := 0) (by decide +kernel) rfl
theorem k_0_1170 : OkOp mt Ev 0 1170 (o_iload 3 1) := ok_iload_n (k := 3) (by decide +kernel) rfl
theorem k_0_1171 : OkOp mt Ev 0 1171 (o_push (.int (3)) 1) := ok_iconst (n := 3) (by decide +kernel) (by decide +kernel)
theorem k_0_1172 : OkOp mt Ev 0 1172 (o_ib (fun x y => x + y)) := ok_iadd (by decide +kernel)
theorem k_0_1173 : OkOp mt Ev 0 1173 (o_iald 2) := ok_iald (by decide +kernel)
theorem k_0_1174 : OkOp mt Ev 0 1174 (o_aload 0 1) := ok_aload_n (k := 0) (by decide +kernel) rfl
theorem k_0_1175 : OkOp mt Ev 0 1175 (o_iload 3 1) := ok_iload_n (k := 3) (by decide +kernel) rfl
theorem k_0_1176 : OkOp mt Ev 0 1176 (o_push (.int (4)) 1) := ok_iconst (n := 4) (by decide +kernel) (by decide +kernel)
theorem k_0_1177 : OkOp mt Ev 0 1177 (o_ib (fun x y => x + y)) := ok_iadd (by decide +kernel)
theorem k_0_1178 : OkOp mt Ev 0 1178 (o_iald 2) := ok_iald (by decide +kernel)
theorem k_0_1179 : OkOp mt Ev 0 1179 (o_aload 0 1) := ok_aload_n (k := 0) (by decide +kernel) rfl
theorem k_0_1180 : OkOp mt Ev 0 1180 (o_iload 3 1) := ok_iload_n (k := 3) (by decide +kernel) rfl
theorem k_0_1181 : OkOp mt Ev 0 1181 (o_push (.int (5)) 1) := ok_iconst (n := 5) (by decide +kernel) (by decide +kernel)
theorem k_0_1182 : OkOp mt Ev 0 1182 (o_ib (fun x y => x + y)) := ok_iadd (by decide +kernel)
theorem k_0_1183 : OkOp mt Ev 0 1183 (o_iald 2) := ok_iald (by decide +kernel)
theorem k_0_1184 : OkOp mt Ev 0 1184 (o_cv [(11, 100)] 5) := ok_cv (i := 146) (by decide +kernel) vc_62
theorem k_0_1187 : OkOp mt Ev 0 1187 (o_aload 2 1) := ok_aload_n (k := 2) (by decide +kernel) rfl
theorem k_0_1188 : OkOp mt Ev 0 1188 (o_aload 0 1) := ok_aload_n (k := 0) (by decide +kernel) rfl
theorem k_0_1189 : OkOp mt Ev 0 1189 (o_iload 3 1) := ok_iload_n (k := 3) (by decide +kernel) rfl
theorem k_0_1190 : OkOp mt Ev 0 1190 (o_push (.int (1)) 1) := ok_iconst (n := 1) (by decide +kernel) (by decide +kernel)
theorem k_0_1191 : OkOp mt Ev 0 1191 (o_ib (fun x y => x + y)) := ok_iadd (by decide +kernel)
theorem k_0_1192 : OkOp mt Ev 0 1192 (o_iald 2) := ok_iald (by decide +kernel)
theorem k_0_1193 : OkOp mt Ev 0 1193 (o_aload 0 1) := ok_aload_n (k := 0) (by decide +kernel) rfl
theorem k_0_1194 : OkOp mt Ev 0 1194 (o_iload 3 1) := ok_iload_n (k := 3) (by decide +kernel) rfl
theorem k_0_1195 : OkOp mt Ev 0 1195 (o_push (.int (2)) 1) := ok_iconst (n := 2) (by decide +kernel) (by decide +kernel)
theorem k_0_1196 : OkOp mt Ev 0 1196 (o_ib (fun x y => x + y)) := ok_iadd (by decide +kernel)
theorem k_0_1197 : OkOp mt Ev 0 1197 (o_iald 2) := ok_iald (by decide +kernel)
theorem k_0_1198 : OkOp mt Ev 0 1198 (o_aload 0 1) := ok_aload_n (k := 0) (by decide +kernel) rfl
theorem k_0_1199 : OkOp mt Ev 0 1199 (o_iload 3 1) := ok_iload_n (k := 3) (by decide +kernel) rfl
theorem k_0_1200 : OkOp mt Ev 0 1200 (o_push (.int (3)) 1) := ok_iconst (n := 3) (by decide +kernel) (by decide +kernel)
theorem k_0_1201 : OkOp mt Ev 0 1201 (o_ib (fun x y => x + y)) := ok_iadd (by decide +kernel)
theorem k_0_1202 : OkOp mt Ev 0 1202 (o_iald 2) := ok_iald (by decide +kernel)
theorem k_0_1203 : OkOp mt Ev 0 1203 (o_aload 0 1) := ok_aload_n (k := 0) (by decide +kernel) rfl
theorem k_0_1204 : OkOp mt Ev 0 1204 (o_iload 3 1) := ok_iload_n (k := 3) (by decide +kernel) rfl
theorem k_0_1205 : OkOp mt Ev 0 1205 (o_push (.int (4)) 1) := ok_iconst (n := 4) (by decide +kernel) (by decide +kernel)
theorem k_0_1206 : OkOp mt Ev 0 1206 (o_ib (fun x y => x + y)) := ok_iadd (by decide +kernel)
theorem k_0_1207 : OkOp mt Ev 0 1207 (o_iald 2) := ok_iald (by decide +kernel)
theorem k_0_1208 : OkOp mt Ev 0 1208 (o_aload 0 1) := ok_aload_n (k := 0) (by decide +kernel) rfl
theorem k_0_1209 : OkOp mt Ev 0 1209 (o_iload 3 1) := ok_iload_n (k := 3) (by decide +kernel) rfl
theorem k_0_1210 : OkOp mt Ev 0 1210 (o_push (.int (5)) 1) := ok_iconst (n := 5) (by decide +kernel) (by decide +kernel)
theorem k_0_1211 : OkOp mt Ev 0 1211 (o_ib (fun x y => x + y)) := ok_iadd (by decide +kernel)
theorem k_0_1212 : OkOp mt Ev 0 1212 (o_iald 2) := ok_iald (by decide +kernel)
theorem k_0_1213 : OkOp mt Ev 0 1213 (o_cv [(12, 193)] 5) := ok_cv (i := 150) (by decide +kernel) vc_63
theorem k_0_1216 : OkOp mt Ev 0 1216 (o_if2 (fun x y => decide (x = y)) 1221) := ok_icmp_eq (off := 5) (by decide +kernel) (by decide +kernel)
theorem k_0_1219 : OkOp mt Ev 0 1219 (o_push (.int (0)) 1) := ok_iconst (n := 0) (by decide +kernel) (by decide +kernel)
theorem k_0_1220 : OkOp mt Ev 0 1220 (o_ret 1) := ok_reti (ty := .boolean) (by decide +kernel) rfl (Or.inr (Or.inl ⟨rfl, rfl⟩))
theorem k_0_1221 : OkOp mt Ev 0 1221 (o_iinc 3 (6)) := ok_iinc (n := 6) (by decide +kernel) (by decide +kernel)
theorem k_0_1224 : OkOp mt Ev 0 1224 (o_goto 18) := ok_goto (off := -1206) (by decide +kernel) (by decide +kernel)
theorem k_0_1227 : OkOp mt Ev 0 1227 (o_push (.int (1)) 1) := ok_iconst (n := 1) (by decide +kernel) (by decide +kernel)
theorem k_0_1228 : OkOp mt Ev 0 1228 (o_ret 1) := ok_reti (ty := .boolean) (by decide +kernel) rfl (Or.inr (Or.inl ⟨rfl, rfl⟩))
theorem kt_0 : ∀ pc o, cd_L_law Ev pc = some o → OkOp mt Ev 0 pc o ∧ Gw o := (tN_ok (tN_ok (tN_ok (tN_ok (tN_ok (tN_ok (tN_ok (tN_ok (tN_ok (tL_ok ⟨k_0_0, gw_new⟩) (tN_ok (tL_ok ⟨k_0_3, gw_dup⟩) (tL_ok ⟨k_0_4, gw_ci⟩))) (tN_ok (tL_ok ⟨k_0_7, gw_astore⟩) (tN_ok (tL_ok ⟨k_0_8, gw_new⟩) (tL_ok ⟨k_0_11, gw_dup⟩)))) (tN_ok (tN_ok (tL_ok ⟨k_0_12, gw_ci⟩) (tN_ok (tL_ok ⟨k_0_15, gw_astore⟩) (tL_ok ⟨k_0_16, gw_push⟩))) (tN_ok (tN_ok (tL_ok ⟨k_0_17, gw_istore⟩) (tL_ok ⟨k_0_18, gw_iload⟩)) (tN_ok (tL_ok ⟨k_0_19, gw_aload⟩) (tL_ok ⟨k_0_20, gw_alen⟩))))) (tN_ok (tN_ok (tN_ok (tL_ok ⟨k_0_21, gw_push⟩) (tN_ok (tL_ok ⟨k_0_23, gw_ib⟩) (tL_ok ⟨k_0_24, gw_if2⟩))) (tN_ok (tN_ok (tL_ok ⟨k_0_27, gw_aload⟩) (tL_ok ⟨k_0_28, gw_iload⟩)) (tN_ok (tL_ok ⟨k_0_29, gw_iald⟩) (tL_ok ⟨k_0_30, gw_push⟩)))) (tN_ok (tN_ok (tL_ok ⟨k_0_32, gw_ib⟩) (tN_ok (tL_ok ⟨k_0_33, gw_sw⟩) (tL_ok ⟨k_0_176, gw_aload⟩))) (tN_ok (tN_ok (tL_ok ⟨k_0_177, gw_aload⟩) (tL_ok ⟨k_0_178, gw_iload⟩)) (tN_ok (tL_ok ⟨k_0_179, gw_push⟩) (tL_ok ⟨k_0_180, gw_ib⟩)))))) (tN_ok (tN_ok (tN_ok (tN_ok (tL_ok ⟨k_0_181, gw_iald⟩) (tN_ok (tL_ok ⟨k_0_182, gw_aload⟩) (tL_ok ⟨k_0_183, gw_iload⟩))) (tN_ok (tL_ok ⟨k_0_184, gw_push⟩) (tN_ok (tL_ok ⟨k_0_185, gw_ib⟩) (tL_ok ⟨k_0_186, gw_iald⟩)))) (tN_ok (tN_ok (tL_ok ⟨k_0_187, gw_aload⟩) (tN_ok (tL_ok ⟨k_0_188, gw_iload⟩) (tL_ok ⟨k_0_189, gw_push⟩))) (tN_ok (tN_ok (tL_ok ⟨k_0_190, gw_ib⟩) (tL_ok ⟨k_0_191, gw_iald⟩)) (tN_ok (tL_ok ⟨k_0_192, gw_cv⟩) (tL_ok ⟨k_0_195, gw_aload⟩))))) (tN_ok (tN_ok (tN_ok (tL_ok ⟨k_0_196, gw_aload⟩) (tN_ok (tL_ok ⟨k_0_197, gw_iload⟩) (tL_ok ⟨k_0_198, gw_push⟩))) (tN_ok (tN_ok (tL_ok ⟨k_0_199, gw_ib⟩) (tL_ok ⟨k_0_200, gw_iald⟩)) (tN_ok (tL_ok ⟨k_0_201, gw_aload⟩) (tL_ok ⟨k_0_202, gw_iload⟩)))) (tN_ok (tN_ok (tL_ok ⟨k_0_203, gw_push⟩) (tN_ok (tL_ok ⟨k_0_204, gw_ib⟩) (tL_ok ⟨k_0_205, gw_iald⟩))) (tN_ok (tN_ok (tL_ok ⟨k_0_206, gw_aload⟩) (tL_ok ⟨k_0_207, gw_iload⟩)) (tN_ok (tL_ok ⟨k_0_208, gw_push⟩) (tL_ok ⟨k_0_209, gw_ib⟩))))))) (tN_ok (tN_ok (tN_ok (tN_ok (tN_ok (tL_ok ⟨k_0_210, gw_iald⟩) (tN_ok (tL_ok ⟨k_0_211, gw_cv⟩) (tL_ok ⟨k_0_214, gw_if2⟩))) (tN_ok (tL_ok ⟨k_0_217, gw_push⟩) (tN_ok (tL_ok ⟨k_0_218, gw_ret⟩) (tL_ok ⟨k_0_219, gw_aload⟩)))) (tN_ok (tN_ok (tL_ok ⟨k_0_220, gw_aload⟩) (tN_ok (tL_ok ⟨k_0_221, gw_iload⟩) (tL_ok ⟨k_0_222, gw_push⟩))) (tN_ok (tN_ok (tL_ok ⟨k_0_223, gw_ib⟩) (tL_ok ⟨k_0_224, gw_iald⟩)) (tN_ok (tL_ok ⟨k_0_225, gw_aload⟩) (tL_ok ⟨k_0_226, gw_iload⟩))))) (tN_ok (tN_ok (tN_ok (tL_ok ⟨k_0_227, gw_push⟩) (tN_ok (tL_ok ⟨k_0_228, gw_ib⟩) (tL_ok ⟨k_0_229, gw_iald⟩))) (tN_ok (tN_ok (tL_ok ⟨k_0_230, gw_cv⟩) (tL_ok ⟨k_0_233, gw_aload⟩)) (tN_ok (tL_ok ⟨k_0_234, gw_aload⟩) (tL_ok ⟨k_0_235, gw_iload⟩)))) (tN_ok (tN_ok (tL_ok ⟨k_0_236, gw_push⟩) (tN_ok (tL_ok ⟨k_0_237, gw_ib⟩) (tL_ok ⟨k_0_238, gw_iald⟩))) (tN_ok (tN_ok (tL_ok ⟨k_0_239, gw_aload⟩) (tL_ok ⟨k_0_240, gw_iload⟩)) (tN_ok (tL_ok ⟨k_0_241, gw_push⟩) (tL_ok ⟨k_0_242, gw_ib⟩)))))) (tN_ok (tN_ok (tN_ok (tN_ok (tL_ok ⟨k_0_243, gw_iald⟩) (tN_ok (tL_ok ⟨k_0_244, gw_cv⟩) (tL_ok ⟨k_0_247, gw_if2⟩))) (tN_ok (tL_ok ⟨k_0_250, gw_push⟩) (tN_ok (tL_ok ⟨k_0_251, gw_ret⟩) (tL_ok ⟨k_0_252, gw_aload⟩)))) (tN_ok (tN_ok (tL_ok ⟨k_0_253, gw_aload⟩) (tN_ok (tL_ok ⟨k_0_254, gw_iload⟩) (tL_ok ⟨k_0_255, gw_push⟩))) (tN_ok (tN_ok (tL_ok ⟨k_0_256, gw_ib⟩) (tL_ok ⟨k_0_257, gw_iald⟩)) (tN_ok (tL_ok ⟨k_0_258, gw_aload⟩) (tL_ok ⟨k_0_259, gw_iload⟩))))) (tN_ok (tN_ok (tN_ok (tL_ok ⟨k_0_260, gw_push⟩) (tN_ok (tL_ok ⟨k_0_261, gw_ib⟩) (tL_ok ⟨k_0_262, gw_iald⟩))) (tN_ok (tN_ok (tL_ok ⟨k_0_263, gw_cv⟩) (tL_ok ⟨k_0_266, gw_aload⟩)) (tN_ok (tL_ok ⟨k_0_267, gw_aload⟩) (tL_ok ⟨k_0_268, gw_iload⟩)))) (tN_ok (tN_ok (tL_ok ⟨k_0_269, gw_push⟩) (tN_ok (tL_ok ⟨k_0_270, gw_ib⟩) (tL_ok ⟨k_0_271, gw_iald⟩))) (tN_ok (tN_ok (tL_ok ⟨k_0_272, gw_aload⟩) (tL_ok ⟨k_0_273, gw_iload⟩)) (tN_ok (tL_ok ⟨k_0_274, gw_push⟩) (tL_ok ⟨k_0_275, gw_ib⟩)))))))) (tN_ok (tN_ok (tN_ok (tN_ok (tN_ok (tN_ok (tL_ok ⟨k_0_276, gw_iald⟩) (tN_ok (tL_ok ⟨k_0_277, gw_cv⟩) (tL_ok ⟨k_0_280, gw_if2⟩))) (tN_ok (tL_ok ⟨k_0_283, gw_push⟩) (tN_ok (tL_ok ⟨k_0_284, gw_ret⟩) (tL_ok ⟨k_0_285, gw_aload⟩)))) (tN_ok (tN_ok (tL_ok ⟨k_0_286, gw_aload⟩) (tN_ok (tL_ok ⟨k_0_287, gw_iload⟩) (tL_ok ⟨k_0_288, gw_push⟩))) (tN_ok (tN_ok (tL_ok ⟨k_0_289, gw_ib⟩) (tL_ok ⟨k_0_290, gw_iald⟩)) (tN_ok (tL_ok ⟨k_0_291, gw_aload⟩) (tL_ok ⟨k_0_292, gw_iload⟩))))) (tN_ok (tN_ok (tN_ok (tL_ok ⟨k_0_293, gw_push⟩) (tN_ok (tL_ok ⟨k_0_294, gw_ib⟩) (tL_ok ⟨k_0_295, gw_iald⟩))) (tN_ok (tN_ok (tL_ok ⟨k_0_296, gw_cv⟩) (tL_ok ⟨k_0_299, gw_aload⟩)) (tN_ok (tL_ok ⟨k_0_300, gw_aload⟩) (tL_ok ⟨k_0_301, gw_iload⟩)))) (tN_ok (tN_ok (tL_ok ⟨k_0_302, gw_push⟩) (tN_ok (tL_ok ⟨k_0_303, gw_ib⟩) (tL_ok ⟨k_0_304, gw_iald⟩))) (tN_ok (tN_ok (tL_ok ⟨k_0_305, gw_aload⟩) (tL_ok ⟨k_0_306, gw_iload⟩)) (tN_ok (tL_ok ⟨k_0_307, gw_push⟩) (tL_ok ⟨k_0_308, gw_ib⟩)))))) (tN_ok (tN_ok (tN_ok (tN_ok (tL_ok ⟨k_0_309, gw_iald⟩) (tN_ok (tL_ok ⟨k_0_310, gw_cv⟩) (tL_ok ⟨k_0_313, gw_if2⟩))) (tN_ok (tL_ok ⟨k_0_316, gw_push⟩) (tN_ok (tL_ok ⟨k_0_317, gw_ret⟩) (tL_ok ⟨k_0_318, gw_aload⟩)))) (tN_ok (tN_ok (tL_ok ⟨k_0_319, gw_aload⟩) (tN_ok (tL_ok ⟨k_0_320, gw_iload⟩) (tL_ok ⟨k_0_321, gw_push⟩))) (tN_ok (tN_ok (tL_ok ⟨k_0_322, gw_ib⟩) (tL_ok ⟨k_0_323, gw_iald⟩)) (tN_ok (tL_ok ⟨k_0_324, gw_aload⟩) (tL_ok ⟨k_0_325, gw_iload⟩))))) (tN_ok (tN_ok (tN_ok (tL_ok ⟨k_0_326, gw_push⟩) (tN_ok (tL_ok ⟨k_0_327, gw_ib⟩) (tL_ok ⟨k_0_328, gw_iald⟩))) (tN_ok (tN_ok (tL_ok ⟨k_0_329, gw_if1⟩) (tL_ok ⟨k_0_332, gw_push⟩)) (tN_ok (tL_ok ⟨k_0_333, gw_goto⟩) (tL_ok ⟨k_0_336, gw_push⟩)))) (tN_ok (tN_ok (tL_ok ⟨k_0_337, gw_cv⟩) (tN_ok (tL_ok ⟨k_0_340, gw_aload⟩) (tL_ok ⟨k_0_341, gw_aload⟩))) (tN_ok (tN_ok (tL_ok ⟨k_0_342, gw_iload⟩) (tL_ok ⟨k_0_343, gw_push⟩)) (tN_ok (tL_ok ⟨k_0_344, gw_ib⟩) (tL_ok ⟨k_0_345, gw_iald⟩))))))) (tN_ok (tN_ok (tN_ok (tN_ok (tN_ok (tL_ok ⟨k_0_346, gw_aload⟩) (tN_ok (tL_ok ⟨k_0_347, gw_iload⟩) (tL_ok ⟨k_0_348, gw_push⟩))) (tN_ok (tL_ok ⟨k_0_349, gw_ib⟩) (tN_ok (tL_ok ⟨k_0_350, gw_iald⟩) (tL_ok ⟨k_0_351, gw_if1⟩)))) (tN_ok (tN_ok (tL_ok ⟨k_0_354, gw_push⟩) (tN_ok (tL_ok ⟨k_0_355, gw_goto⟩) (tL_ok ⟨k_0_358, gw_push⟩))) (tN_ok (tN_ok (tL_ok ⟨k_0_359, gw_cv⟩) (tL_ok ⟨k_0_362, gw_if2⟩)) (tN_ok (tL_ok ⟨k_0_365, gw_push⟩) (tL_ok ⟨k_0_366, gw_ret⟩))))) (tN_ok (tN_ok (tN_ok (tL_ok ⟨k_0_367, gw_aload⟩) (tN_ok (tL_ok ⟨k_0_368, gw_aload⟩) (tL_ok ⟨k_0_369, gw_iload⟩))) (tN_ok (tN_ok (tL_ok ⟨k_0_370, gw_push⟩) (tL_ok ⟨k_0_371, gw_ib⟩)) (tN_ok (tL_ok ⟨k_0_372, gw_iald⟩) (tL_ok ⟨k_0_373, gw_aload⟩)))) (tN_ok (tN_ok (tL_ok ⟨k_0_374, gw_iload⟩) (tN_ok (tL_ok ⟨k_0_375, gw_push⟩) (tL_ok ⟨k_0_376, gw_ib⟩))) (tN_ok (tN_ok (tL_ok ⟨k_0_377, gw_iald⟩) (tL_ok ⟨k_0_378, gw_cv⟩)) (tN_ok (tL_ok ⟨k_0_381, gw_aload⟩) (tL_ok ⟨k_0_382, gw_aload⟩)))))) (tN_ok (tN_ok (tN_ok (tN_ok (tL_ok ⟨k_0_383, gw_iload⟩) (tN_ok (tL_ok ⟨k_0_384, gw_push⟩) (tL_ok ⟨k_0_385, gw_ib⟩))) (tN_ok (tL_ok ⟨k_0_386, gw_iald⟩) (tN_ok (tL_ok ⟨k_0_387, gw_aload⟩) (tL_ok ⟨k_0_388, gw_iload⟩)))) (tN_ok (tN_ok (tL_ok ⟨k_0_389, gw_push⟩) (tN_ok (tL_ok ⟨k_0_390, gw_ib⟩) (tL_ok ⟨k_0_391, gw_iald⟩))) (tN_ok (tN_ok (tL_ok ⟨k_0_392, gw_cv⟩) (tL_ok ⟨k_0_395, gw_if2⟩)) (tN_ok (tL_ok ⟨k_0_398, gw_push⟩) (tL_ok ⟨k_0_399, gw_ret⟩))))) (tN_ok (tN_ok (tN_ok (tL_ok ⟨k_0_400, gw_aload⟩) (tN_ok (tL_ok ⟨k_0_401, gw_aload⟩) (tL_ok ⟨k_0_402, gw_iload⟩))) (tN_ok (tN_ok (tL_ok ⟨k_0_403, gw_push⟩) (tL_ok ⟨k_0_404, gw_ib⟩)) (tN_ok (tL_ok ⟨k_0_405, gw_iald⟩) (tL_ok ⟨k_0_406, gw_aload⟩)))) (tN_ok (tN_ok (tL_ok ⟨k_0_407, gw_iload⟩) (tN_ok (tL_ok ⟨k_0_408, gw_push⟩) (tL_ok ⟨k_0_409, gw_ib⟩))) (tN_ok (tN_ok (tL_ok ⟨k_0_410, gw_iald⟩) (tL_ok ⟨k_0_411, gw_aload⟩)) (tN_ok (tL_ok ⟨k_0_412, gw_iload⟩) (tL_ok ⟨k_0_413, gw_push⟩))))))))) (tN_ok (tN_ok (tN_ok (tN_ok (tN_ok (tN_ok (tN_ok (tL_ok ⟨k_0_414, gw_ib⟩) (tN_ok (tL_ok ⟨k_0_415, gw_iald⟩) (tL_ok ⟨k_0_416, gw_cv⟩))) (tN_ok (tL_ok ⟨k_0_419, gw_aload⟩) (tN_ok (tL_ok ⟨k_0_420, gw_aload⟩) (tL_ok ⟨k_0_421, gw_iload⟩)))) (tN_ok (tN_ok (tL_ok ⟨k_0_422, gw_push⟩) (tN_ok (tL_ok ⟨k_0_423, gw_ib⟩) (tL_ok ⟨k_0_424, gw_iald⟩))) (tN_ok (tN_ok (tL_ok ⟨k_0_425, gw_aload⟩) (tL_ok ⟨k_0_426, gw_iload⟩)) (tN_ok (tL_ok ⟨k_0_427, gw_push⟩) (tL_ok ⟨k_0_428, gw_ib⟩))))) (tN_ok (tN_ok (tN_ok (tL_ok ⟨k_0_429, gw_iald⟩) (tN_ok (tL_ok ⟨k_0_430, gw_aload⟩) (tL_ok ⟨k_0_431, gw_iload⟩))) (tN_ok (tN_ok (tL_ok ⟨k_0_432, gw_push⟩) (tL_ok ⟨k_0_433, gw_ib⟩)) (tN_ok (tL_ok ⟨k_0_434, gw_iald⟩) (tL_ok ⟨k_0_435, gw_cv⟩)))) (tN_ok (tN_ok (tL_ok ⟨k_0_438, gw_if2⟩) (tN_ok (tL_ok ⟨k_0_441, gw_push⟩) (tL_ok ⟨k_0_442, gw_ret⟩))) (tN_ok (tN_ok (tL_ok ⟨k_0_443, gw_aload⟩) (tL_ok ⟨k_0_444, gw_aload⟩)) (tN_ok (tL_ok ⟨k_0_445, gw_iload⟩) (tL_ok ⟨k_0_446, gw_push⟩)))))) (tN_ok (tN_ok (tN_ok (tN_ok (tL_ok ⟨k_0_447, gw_ib⟩) (tN_ok (tL_ok ⟨k_0_448, gw_iald⟩) (tL_ok ⟨k_0_449, gw_cv⟩))) (tN_ok (tL_ok ⟨k_0_452, gw_aload⟩) (tN_ok (tL_ok ⟨k_0_453, gw_aload⟩) (tL_ok ⟨k_0_454, gw_iload⟩)))) (tN_ok (tN_ok (tL_ok ⟨k_0_455, gw_push⟩) (tN_ok (tL_ok ⟨k_0_456, gw_ib⟩) (tL_ok ⟨k_0_457, gw_iald⟩))) (tN_ok (tN_ok (tL_ok ⟨k_0_458, gw_cv⟩) (tL_ok ⟨k_0_461, gw_if2⟩)) (tN_ok (tL_ok ⟨k_0_464, gw_push⟩) (tL_ok ⟨k_0_465, gw_ret⟩))))) (tN_ok (tN_ok (tN_ok (tL_ok ⟨k_0_466, gw_aload⟩) (tN_ok (tL_ok ⟨k_0_467, gw_cv⟩) (tL_ok ⟨k_0_470, gw_aload⟩))) (tN_ok (tN_ok (tL_ok ⟨k_0_471, gw_cv⟩) (tL_ok ⟨k_0_474, gw_if2⟩)) (tN_ok (tL_ok ⟨k_0_477, gw_push⟩) (tL_ok ⟨k_0_478, gw_ret⟩)))) (tN_ok (tN_ok (tL_ok ⟨k_0_479, gw_aload⟩) (tN_ok (tL_ok ⟨k_0_480, gw_aload⟩) (tL_ok ⟨k_0_481, gw_iload⟩))) (tN_ok (tN_ok (tL_ok ⟨k_0_482, gw_push⟩) (tL_ok ⟨k_0_483, gw_ib⟩)) (tN_ok (tL_ok ⟨k_0_484, gw_iald⟩) (tL_ok ⟨k_0_485, gw_cv⟩))))))) (tN_ok (tN_ok (tN_ok (tN_ok (tN_ok (tL_ok ⟨k_0_488, gw_aload⟩) (tN_ok (tL_ok ⟨k_0_489, gw_aload⟩) (tL_ok ⟨k_0_490, gw_iload⟩))) (tN_ok (tL_ok ⟨k_0_491, gw_push⟩) (tN_ok (tL_ok ⟨k_0_492, gw_ib⟩) (tL_ok ⟨k_0_493, gw_iald⟩)))) (tN_ok (tN_ok (tL_ok ⟨k_0_494, gw_cv⟩) (tN_ok (tL_ok ⟨k_0_497, gw_if2⟩) (tL_ok ⟨k_0_500, gw_push⟩))) (tN_ok (tN_ok (tL_ok ⟨k_0_501, gw_ret⟩) (tL_ok ⟨k_0_502, gw_aload⟩)) (tN_ok (tL_ok ⟨k_0_503, gw_aload⟩) (tL_ok ⟨k_0_504, gw_iload⟩))))) (tN_ok (tN_ok (tN_ok (tL_ok ⟨k_0_505, gw_push⟩) (tN_ok (tL_ok ⟨k_0_506, gw_ib⟩) (tL_ok ⟨k_0_507, gw_iald⟩))) (tN_ok (tN_ok (tL_ok ⟨k_0_508, gw_cv⟩) (tL_ok ⟨k_0_511, gw_aload⟩)) (tN_ok (tL_ok ⟨k_0_512, gw_aload⟩) (tL_ok ⟨k_0_513, gw_iload⟩)))) (tN_ok (tN_ok (tL_ok ⟨k_0_514, gw_push⟩) (tN_ok (tL_ok ⟨k_0_515, gw_ib⟩) (tL_ok ⟨k_0_516, gw_iald⟩))) (tN_ok (tN_ok (tL_ok ⟨k_0_517, gw_cv⟩) (tL_ok ⟨k_0_520, gw_if2⟩)) (tN_ok (tL_ok ⟨k_0_523, gw_push⟩) (tL_ok ⟨k_0_524, gw_ret⟩)))))) (tN_ok (tN_ok (tN_ok (tN_ok (tL_ok ⟨k_0_525, gw_aload⟩) (tN_ok (tL_ok ⟨k_0_526, gw_aload⟩) (tL_ok ⟨k_0_527, gw_iload⟩))) (tN_ok (tL_ok ⟨k_0_528, gw_push⟩) (tN_ok (tL_ok ⟨k_0_529, gw_ib⟩) (tL_ok ⟨k_0_530, gw_iald⟩)))) (tN_ok (tN_ok (tL_ok ⟨k_0_531, gw_aload⟩) (tN_ok (tL_ok ⟨k_0_532, gw_iload⟩) (tL_ok ⟨k_0_533, gw_push⟩))) (tN_ok (tN_ok (tL_ok ⟨k_0_534, gw_ib⟩) (tL_ok ⟨k_0_535, gw_iald⟩)) (tN_ok (tL_ok ⟨k_0_536, gw_cv⟩) (tL_ok ⟨k_0_539, gw_aload⟩))))) (tN_ok (tN_ok (tN_ok (tL_ok ⟨k_0_540, gw_aload⟩) (tN_ok (tL_ok ⟨k_0_541, gw_iload⟩) (tL_ok ⟨k_0_542, gw_push⟩))) (tN_ok (tN_ok (tL_ok ⟨k_0_543, gw_ib⟩) (tL_ok ⟨k_0_544, gw_iald⟩)) (tN_ok (tL_ok ⟨k_0_545, gw_aload⟩) (tL_ok ⟨k_0_546, gw_iload⟩)))) (tN_ok (tN_ok (tL_ok ⟨k_0_547, gw_push⟩) (tN_ok (tL_ok ⟨k_0_548, gw_ib⟩) (tL_ok ⟨k_0_549, gw_iald⟩))) (tN_ok (tN_ok (tL_ok ⟨k_0_550, gw_cv⟩) (tL_ok ⟨k_0_553, gw_if2⟩)) (tN_ok (tL_ok ⟨k_0_556, gw_push⟩) (tL_ok ⟨k_0_557, gw_ret⟩)))))))) (tN_ok (tN_ok (tN_ok (tN_ok (tN_ok (tN_ok (tL_ok ⟨k_0_558, gw_aload⟩) (tN_ok (tL_ok ⟨k_0_559, gw_aload⟩) (tL_ok ⟨k_0_560, gw_iload⟩))) (tN_ok (tL_ok ⟨k_0_561, gw_push⟩) (tN_ok (tL_ok ⟨k_0_562, gw_ib⟩) (tL_ok ⟨k_0_563, gw_iald⟩)))) (tN_ok (tN_ok (tL_ok ⟨k_0_564, gw_aload⟩) (tN_ok (tL_ok ⟨k_0_565, gw_iload⟩) (tL_ok ⟨k_0_566, gw_push⟩))) (tN_ok (tN_ok (tL_ok ⟨k_0_567, gw_ib⟩) (tL_ok ⟨k_0_568, gw_iald⟩)) (tN_ok (tL_ok ⟨k_0_569, gw_cv⟩) (tL_ok ⟨k_0_572, gw_aload⟩))))) (tN_ok (tN_ok (tN_ok (tL_ok ⟨k_0_573, gw_aload⟩) (tN_ok (tL_ok ⟨k_0_574, gw_iload⟩) (tL_ok ⟨k_0_575, gw_push⟩))) (tN_ok (tN_ok (tL_ok ⟨k_0_576, gw_ib⟩) (tL_ok ⟨k_0_577, gw_iald⟩)) (tN_ok (tL_ok ⟨k_0_578, gw_aload⟩) (tL_ok ⟨k_0_579, gw_iload⟩)))) (tN_ok (tN_ok (tL_ok ⟨k_0_580, gw_push⟩) (tN_ok (tL_ok ⟨k_0_581, gw_ib⟩) (tL_ok ⟨k_0_582, gw_iald⟩))) (tN_ok (tN_ok (tL_ok ⟨k_0_583, gw_cv⟩) (tL_ok ⟨k_0_586, gw_if2⟩)) (tN_ok (tL_ok ⟨k_0_589, gw_push⟩) (tL_ok ⟨k_0_590, gw_ret⟩)))))) (tN_ok (tN_ok (tN_ok (tN_ok (tL_ok ⟨k_0_591, gw_aload⟩) (tN_ok (tL_ok ⟨k_0_592, gw_aload⟩) (tL_ok ⟨k_0_593, gw_iload⟩))) (tN_ok (tL_ok ⟨k_0_594, gw_push⟩) (tN_ok (tL_ok ⟨k_0_595, gw_ib⟩) (tL_ok ⟨k_0_596, gw_iald⟩)))) (tN_ok (tN_ok (tL_ok ⟨k_0_597, gw_aload⟩) (tN_ok (tL_ok ⟨k_0_598, gw_iload⟩) (tL_ok ⟨k_0_599, gw_push⟩))) (tN_ok (tN_ok (tL_ok ⟨k_0_600, gw_ib⟩) (tL_ok ⟨k_0_601, gw_iald⟩)) (tN_ok (tL_ok ⟨k_0_602, gw_cv⟩) (tL_ok ⟨k_0_605, gw_aload⟩))))) (tN_ok (tN_ok (tN_ok (tL_ok ⟨k_0_606, gw_aload⟩) (tN_ok (tL_ok ⟨k_0_607, gw_iload⟩) (tL_ok ⟨k_0_608, gw_push⟩))) (tN_ok (tN_ok (tL_ok ⟨k_0_609, gw_ib⟩) (tL_ok ⟨k_0_610, gw_iald⟩)) (tN_ok (tL_ok ⟨k_0_611, gw_aload⟩) (tL_ok ⟨k_0_612, gw_iload⟩)))) (tN_ok (tN_ok (tL_ok ⟨k_0_613, gw_push⟩) (tN_ok (tL_ok ⟨k_0_614, gw_ib⟩) (tL_ok ⟨k_0_615, gw_iald⟩))) (tN_ok (tN_ok (tL_ok ⟨k_0_616, gw_cv⟩) (tL_ok ⟨k_0_619, gw_if2⟩)) (tN_ok (tL_ok ⟨k_0_622, gw_push⟩) (tL_ok ⟨k_0_623, gw_ret⟩))))))) (tN_ok (tN_ok (tN_ok (tN_ok (tN_ok (tL_ok ⟨k_0_624, gw_aload⟩) (tN_ok (tL_ok ⟨k_0_625, gw_aload⟩) (tL_ok ⟨k_0_626, gw_iload⟩))) (tN_ok (tL_ok ⟨k_0_627, gw_push⟩) (tN_ok (tL_ok ⟨k_0_628, gw_ib⟩) (tL_ok ⟨k_0_629, gw_iald⟩)))) (tN_ok (tN_ok (tL_ok ⟨k_0_630, gw_aload⟩) (tN_ok (tL_ok ⟨k_0_631, gw_iload⟩) (tL_ok ⟨k_0_632, gw_push⟩))) (tN_ok (tN_ok (tL_ok ⟨k_0_633, gw_ib⟩) (tL_ok ⟨k_0_634, gw_iald⟩)) (tN_ok (tL_ok ⟨k_0_635, gw_cv⟩) (tL_ok ⟨k_0_638, gw_aload⟩))))) (tN_ok (tN_ok (tN_ok (tL_ok ⟨k_0_639, gw_aload⟩) (tN_ok (tL_ok ⟨k_0_640, gw_iload⟩) (tL_ok ⟨k_0_641, gw_push⟩))) (tN_ok (tN_ok (tL_ok ⟨k_0_642, gw_ib⟩) (tL_ok ⟨k_0_643, gw_iald⟩)) (tN_ok (tL_ok ⟨k_0_644, gw_aload⟩) (tL_ok ⟨k_0_645, gw_iload⟩)))) (tN_ok (tN_ok (tL_ok ⟨k_0_646, gw_push⟩) (tN_ok (tL_ok ⟨k_0_647, gw_ib⟩) (tL_ok ⟨k_0_648, gw_iald⟩))) (tN_ok (tN_ok (tL_ok ⟨k_0_649, gw_cv⟩) (tL_ok ⟨k_0_652, gw_if2⟩)) (tN_ok (tL_ok ⟨k_0_655, gw_push⟩) (tL_ok ⟨k_0_656, gw_ret⟩)))))) (tN_ok (tN_ok (tN_ok (tN_ok (tL_ok ⟨k_0_657, gw_aload⟩) (tN_ok (tL_ok ⟨k_0_658, gw_aload⟩) (tL_ok ⟨k_0_659, gw_iload⟩))) (tN_ok (tL_ok ⟨k_0_660, gw_push⟩) (tN_ok (tL_ok ⟨k_0_661, gw_ib⟩) (tL_ok ⟨k_0_662, gw_iald⟩)))) (tN_ok (tN_ok (tL_ok ⟨k_0_663, gw_aload⟩) (tN_ok (tL_ok ⟨k_0_664, gw_iload⟩) (tL_ok ⟨k_0_665, gw_push⟩))) (tN_ok (tN_ok (tL_ok ⟨k_0_666, gw_ib⟩) (tL_ok ⟨k_0_667, gw_iald⟩)) (tN_ok (tL_ok ⟨k_0_668, gw_cv⟩) (tL_ok ⟨k_0_671, gw_aload⟩))))) (tN_ok (tN_ok (tN_ok (tL_ok ⟨k_0_672, gw_aload⟩) (tN_ok (tL_ok ⟨k_0_673, gw_iload⟩) (tL_ok ⟨k_0_674, gw_push⟩))) (tN_ok (tN_ok (tL_ok ⟨k_0_675, gw_ib⟩) (tL_ok ⟨k_0_676, gw_iald⟩)) (tN_ok (tL_ok ⟨k_0_677, gw_aload⟩) (tL_ok ⟨k_0_678, gw_iload⟩)))) (tN_ok (tN_ok (tL_ok ⟨k_0_679, gw_push⟩) (tN_ok (tL_ok ⟨k_0_680, gw_ib⟩) (tL_ok ⟨k_0_681, gw_iald⟩))) (tN_ok (tN_ok (tL_ok ⟨k_0_682, gw_cv⟩) (tL_ok ⟨k_0_685, gw_lcmp⟩)) (tN_ok (tL_ok ⟨k_0_686, gw_if1⟩) (tL_ok ⟨k_0_689, gw_push⟩)))))))))) (tN_ok (tN_ok (tN_ok (tN_ok (tN_ok (tN_ok (tN_ok (tN_ok (tL_ok ⟨k_0_690, gw_ret⟩) (tN_ok (tL_ok ⟨k_0_691, gw_aload⟩) (tL_ok ⟨k_0_692, gw_aload⟩))) (tN_ok (tL_ok ⟨k_0_693, gw_iload⟩) (tN_ok (tL_ok ⟨k_0_694, gw_push⟩) (tL_ok ⟨k_0_695, gw_ib⟩)))) (tN_ok (tN_ok (tL_ok ⟨k_0_696, gw_iald⟩) (tN_ok (tL_ok ⟨k_0_697, gw_aload⟩) (tL_ok ⟨k_0_698, gw_iload⟩))) (tN_ok (tN_ok (tL_ok ⟨k_0_699, gw_push⟩) (tL_ok ⟨k_0_700, gw_ib⟩)) (tN_ok (tL_ok ⟨k_0_701, gw_iald⟩) (tL_ok ⟨k_0_702, gw_cv⟩))))) (tN_ok (tN_ok (tN_ok (tL_ok ⟨k_0_705, gw_aload⟩) (tN_ok (tL_ok ⟨k_0_706, gw_aload⟩) (tL_ok ⟨k_0_707, gw_iload⟩))) (tN_ok (tN_ok (tL_ok ⟨k_0_708, gw_push⟩) (tL_ok ⟨k_0_709, gw_ib⟩)) (tN_ok (tL_ok ⟨k_0_710, gw_iald⟩) (tL_ok ⟨k_0_711, gw_aload⟩)))) (tN_ok (tN_ok (tL_ok ⟨k_0_712, gw_iload⟩) (tN_ok (tL_ok ⟨k_0_713, gw_push⟩) (tL_ok ⟨k_0_714, gw_ib⟩))) (tN_ok (tN_ok (tL_ok ⟨k_0_715, gw_iald⟩) (tL_ok ⟨k_0_716, gw_cv⟩)) (tN_ok (tL_ok ⟨k_0_719, gw_lcmp⟩) (tL_ok ⟨k_0_720, gw_if1⟩)))))) (tN_ok (tN_ok (tN_ok (tN_ok (tL_ok ⟨k_0_723, gw_push⟩) (tN_ok (tL_ok ⟨k_0_724, gw_ret⟩) (tL_ok ⟨k_0_725, gw_aload⟩))) (tN_ok (tL_ok ⟨k_0_726, gw_aload⟩) (tN_ok (tL_ok ⟨k_0_727, gw_iload⟩) (tL_ok ⟨k_0_728, gw_push⟩)))) (tN_ok (tN_ok (tL_ok ⟨k_0_729, gw_ib⟩) (tN_ok (tL_ok ⟨k_0_730, gw_iald⟩) (tL_ok ⟨k_0_731, gw_aload⟩))) (tN_ok (tN_ok (tL_ok ⟨k_0_732, gw_iload⟩) (tL_ok ⟨k_0_733, gw_push⟩)) (tN_ok (tL_ok ⟨k_0_734, gw_ib⟩) (tL_ok ⟨k_0_735, gw_iald⟩))))) (tN_ok (tN_ok (tN_ok (tL_ok ⟨k_0_736, gw_cv⟩) (tN_ok (tL_ok ⟨k_0_739, gw_aload⟩) (tL_ok ⟨k_0_740, gw_aload⟩))) (tN_ok (tN_ok (tL_ok ⟨k_0_741, gw_iload⟩) (tL_ok ⟨k_0_742, gw_push⟩)) (tN_ok (tL_ok ⟨k_0_743, gw_ib⟩) (tL_ok ⟨k_0_744, gw_iald⟩)))) (tN_ok (tN_ok (tL_ok ⟨k_0_745, gw_aload⟩) (tN_ok (tL_ok ⟨k_0_746, gw_iload⟩) (tL_ok ⟨k_0_747, gw_push⟩))) (tN_ok (tN_ok (tL_ok ⟨k_0_748, gw_ib⟩) (tL_ok ⟨k_0_749, gw_iald⟩)) (tN_ok (tL_ok ⟨k_0_750, gw_cv⟩) (tL_ok ⟨k_0_753, gw_if2⟩))))))) (tN_ok (tN_ok (tN_ok (tN_ok (tN_ok (tL_ok ⟨k_0_756, gw_push⟩) (tN_ok (tL_ok ⟨k_0_757, gw_ret⟩) (tL_ok ⟨k_0_758, gw_aload⟩))) (tN_ok (tL_ok ⟨k_0_759, gw_aload⟩) (tN_ok (tL_ok ⟨k_0_760, gw_iload⟩) (tL_ok ⟨k_0_761, gw_push⟩)))) (tN_ok (tN_ok (tL_ok ⟨k_0_762, gw_ib⟩) (tN_ok (tL_ok ⟨k_0_763, gw_iald⟩) (tL_ok ⟨k_0_764, gw_cv⟩))) (tN_ok (tN_ok (tL_ok ⟨k_0_767, gw_aload⟩) (tL_ok ⟨k_0_768, gw_aload⟩)) (tN_ok (tL_ok ⟨k_0_769, gw_iload⟩) (tL_ok ⟨k_0_770, gw_push⟩))))) (tN_ok (tN_ok (tN_ok (tL_ok ⟨k_0_771, gw_ib⟩) (tN_ok (tL_ok ⟨k_0_772, gw_iald⟩) (tL_ok ⟨k_0_773, gw_cv⟩))) (tN_ok (tN_ok (tL_ok ⟨k_0_776, gw_if2⟩) (tL_ok ⟨k_0_779, gw_push⟩)) (tN_ok (tL_ok ⟨k_0_780, gw_ret⟩) (tL_ok ⟨k_0_781, gw_aload⟩)))) (tN_ok (tN_ok (tL_ok ⟨k_0_782, gw_aload⟩) (tN_ok (tL_ok ⟨k_0_783, gw_iload⟩) (tL_ok ⟨k_0_784, gw_push⟩))) (tN_ok (tN_ok (tL_ok ⟨k_0_785, gw_ib⟩) (tL_ok ⟨k_0_786, gw_iald⟩)) (tN_ok (tL_ok ⟨k_0_787, gw_aload⟩) (tL_ok ⟨k_0_788, gw_iload⟩)))))) (tN_ok (tN_ok (tN_ok (tN_ok (tL_ok ⟨k_0_789, gw_push⟩) (tN_ok (tL_ok ⟨k_0_790, gw_ib⟩) (tL_ok ⟨k_0_791, gw_iald⟩))) (tN_ok (tL_ok ⟨k_0_792, gw_cv⟩) (tN_ok (tL_ok ⟨k_0_795, gw_aload⟩) (tL_ok ⟨k_0_796, gw_aload⟩)))) (tN_ok (tN_ok (tL_ok ⟨k_0_797, gw_iload⟩) (tN_ok (tL_ok ⟨k_0_798, gw_push⟩) (tL_ok ⟨k_0_799, gw_ib⟩))) (tN_ok (tN_ok (tL_ok ⟨k_0_800, gw_iald⟩) (tL_ok ⟨k_0_801, gw_aload⟩)) (tN_ok (tL_ok ⟨k_0_802, gw_iload⟩) (tL_ok ⟨k_0_803, gw_push⟩))))) (tN_ok (tN_ok (tN_ok (tL_ok ⟨k_0_804, gw_ib⟩) (tN_ok (tL_ok ⟨k_0_805, gw_iald⟩) (tL_ok ⟨k_0_806, gw_cv⟩))) (tN_ok (tN_ok (tL_ok ⟨k_0_809, gw_if2⟩) (tL_ok ⟨k_0_812, gw_push⟩)) (tN_ok (tL_ok ⟨k_0_813, gw_ret⟩) (tL_ok ⟨k_0_814, gw_aload⟩)))) (tN_ok (tN_ok (tL_ok ⟨k_0_815, gw_cv⟩) (tN_ok (tL_ok ⟨k_0_818, gw_aload⟩) (tL_ok ⟨k_0_819, gw_cv⟩))) (tN_ok (tN_ok (tL_ok ⟨k_0_822, gw_if2⟩) (tL_ok ⟨k_0_825, gw_push⟩)) (tN_ok (tL_ok ⟨k_0_826, gw_ret⟩) (tL_ok ⟨k_0_827, gw_aload⟩)))))))) (tN_ok (tN_ok (tN_ok (tN_ok (tN_ok (tN_ok (tL_ok ⟨k_0_828, gw_aload⟩) (tN_ok (tL_ok ⟨k_0_829, gw_iload⟩) (tL_ok ⟨k_0_830, gw_push⟩))) (tN_ok (tL_ok ⟨k_0_831, gw_ib⟩) (tN_ok (tL_ok ⟨k_0_832, gw_iald⟩) (tL_ok ⟨k_0_833, gw_aload⟩)))) (tN_ok (tN_ok (tL_ok ⟨k_0_834, gw_iload⟩) (tN_ok (tL_ok ⟨k_0_835, gw_push⟩) (tL_ok ⟨k_0_836, gw_ib⟩))) (tN_ok (tN_ok (tL_ok ⟨k_0_837, gw_iald⟩) (tL_ok ⟨k_0_838, gw_cv⟩)) (tN_ok (tL_ok ⟨k_0_841, gw_aload⟩) (tL_ok ⟨k_0_842, gw_aload⟩))))) (tN_ok (tN_ok (tN_ok (tL_ok ⟨k_0_843, gw_iload⟩) (tN_ok (tL_ok ⟨k_0_844, gw_push⟩) (tL_ok ⟨k_0_845, gw_ib⟩))) (tN_ok (tN_ok (tL_ok ⟨k_0_846, gw_iald⟩) (tL_ok ⟨k_0_847, gw_aload⟩)) (tN_ok (tL_ok ⟨k_0_848, gw_iload⟩) (tL_ok ⟨k_0_849, gw_push⟩)))) (tN_ok (tN_ok (tL_ok ⟨k_0_850, gw_ib⟩) (tN_ok (tL_ok ⟨k_0_851, gw_iald⟩) (tL_ok ⟨k_0_852, gw_cv⟩))) (tN_ok (tN_ok (tL_ok ⟨k_0_855, gw_if2⟩) (tL_ok ⟨k_0_858, gw_push⟩)) (tN_ok (tL_ok ⟨k_0_859, gw_ret⟩) (tL_ok ⟨k_0_860, gw_aload⟩)))))) (tN_ok (tN_ok (tN_ok (tN_ok (tL_ok ⟨k_0_861, gw_cv⟩) (tN_ok (tL_ok ⟨k_0_864, gw_aload⟩) (tL_ok ⟨k_0_865, gw_cv⟩))) (tN_ok (tL_ok ⟨k_0_868, gw_if2⟩) (tN_ok (tL_ok ⟨k_0_871, gw_push⟩) (tL_ok ⟨k_0_872, gw_ret⟩)))) (tN_ok (tN_ok (tL_ok ⟨k_0_873, gw_aload⟩) (tN_ok (tL_ok ⟨k_0_874, gw_cv⟩) (tL_ok ⟨k_0_877, gw_aload⟩))) (tN_ok (tN_ok (tL_ok ⟨k_0_878, gw_cv⟩) (tL_ok ⟨k_0_881, gw_if2⟩)) (tN_ok (tL_ok ⟨k_0_884, gw_push⟩) (tL_ok ⟨k_0_885, gw_ret⟩))))) (tN_ok (tN_ok (tN_ok (tL_ok ⟨k_0_886, gw_aload⟩) (tN_ok (tL_ok ⟨k_0_887, gw_aload⟩) (tL_ok ⟨k_0_888, gw_iload⟩))) (tN_ok (tN_ok (tL_ok ⟨k_0_889, gw_push⟩) (tL_ok ⟨k_0_890, gw_ib⟩)) (tN_ok (tL_ok ⟨k_0_891, gw_iald⟩) (tL_ok ⟨k_0_892, gw_aload⟩)))) (tN_ok (tN_ok (tL_ok ⟨k_0_893, gw_iload⟩) (tN_ok (tL_ok ⟨k_0_894, gw_push⟩) (tL_ok ⟨k_0_895, gw_ib⟩))) (tN_ok (tN_ok (tL_ok ⟨k_0_896, gw_iald⟩) (tL_ok ⟨k_0_897, gw_aload⟩)) (tN_ok (tL_ok ⟨k_0_898, gw_iload⟩) (tL_ok ⟨k_0_899, gw_push⟩))))))) (tN_ok (tN_ok (tN_ok (tN_ok (tN_ok (tL_ok ⟨k_0_900, gw_ib⟩) (tN_ok (tL_ok ⟨k_0_901, gw_iald⟩) (tL_ok ⟨k_0_902, gw_cv⟩))) (tN_ok (tL_ok ⟨k_0_905, gw_aload⟩) (tN_ok (tL_ok ⟨k_0_906, gw_aload⟩) (tL_ok ⟨k_0_907, gw_iload⟩)))) (tN_ok (tN_ok (tL_ok ⟨k_0_908, gw_push⟩) (tN_ok (tL_ok ⟨k_0_909, gw_ib⟩) (tL_ok ⟨k_0_910, gw_iald⟩))) (tN_ok (tN_ok (tL_ok ⟨k_0_911, gw_aload⟩) (tL_ok ⟨k_0_912, gw_iload⟩)) (tN_ok (tL_ok ⟨k_0_913, gw_push⟩) (tL_ok ⟨k_0_914, gw_ib⟩))))) (tN_ok (tN_ok (tN_ok (tL_ok ⟨k_0_915, gw_iald⟩) (tN_ok (tL_ok ⟨k_0_916, gw_aload⟩) (tL_ok ⟨k_0_917, gw_iload⟩))) (tN_ok (tN_ok (tL_ok ⟨k_0_918, gw_push⟩) (tL_ok ⟨k_0_919, gw_ib⟩)) (tN_ok (tL_ok ⟨k_0_920, gw_iald⟩) (tL_ok ⟨k_0_921, gw_cv⟩)))) (tN_ok (tN_ok (tL_ok ⟨k_0_924, gw_if2⟩) (tN_ok (tL_ok ⟨k_0_927, gw_push⟩) (tL_ok ⟨k_0_928, gw_ret⟩))) (tN_ok (tN_ok (tL_ok ⟨k_0_929, gw_aload⟩) (tL_ok ⟨k_0_930, gw_aload⟩)) (tN_ok (tL_ok ⟨k_0_931, gw_iload⟩) (tL_ok ⟨k_0_932, gw_push⟩)))))) (tN_ok (tN_ok (tN_ok (tN_ok (tL_ok ⟨k_0_933, gw_ib⟩) (tN_ok (tL_ok ⟨k_0_934, gw_iald⟩) (tL_ok ⟨k_0_935, gw_cv⟩))) (tN_ok (tL_ok ⟨k_0_938, gw_aload⟩) (tN_ok (tL_ok ⟨k_0_939, gw_aload⟩) (tL_ok ⟨k_0_940, gw_iload⟩)))) (tN_ok (tN_ok (tL_ok ⟨k_0_941, gw_push⟩) (tN_ok (tL_ok ⟨k_0_942, gw_ib⟩) (tL_ok ⟨k_0_943, gw_iald⟩))) (tN_ok (tN_ok (tL_ok ⟨k_0_944, gw_cv⟩) (tL_ok ⟨k_0_947, gw_if2⟩)) (tN_ok (tL_ok ⟨k_0_950, gw_push⟩) (tL_ok ⟨k_0_951, gw_ret⟩))))) (tN_ok (tN_ok (tN_ok (tL_ok ⟨k_0_952, gw_aload⟩) (tN_ok (tL_ok ⟨k_0_953, gw_aload⟩) (tL_ok ⟨k_0_954, gw_iload⟩))) (tN_ok (tN_ok (tL_ok ⟨k_0_955, gw_push⟩) (tL_ok ⟨k_0_956, gw_ib⟩)) (tN_ok (tL_ok ⟨k_0_957, gw_iald⟩) (tL_ok ⟨k_0_958, gw_aload⟩)))) (tN_ok (tN_ok (tL_ok ⟨k_0_959, gw_iload⟩) (tN_ok (tL_ok ⟨k_0_960, gw_push⟩) (tL_ok ⟨k_0_961, gw_ib⟩))) (tN_ok (tN_ok (tL_ok ⟨k_0_962, gw_iald⟩) (tL_ok ⟨k_0_963, gw_cv⟩)) (tN_ok (tL_ok ⟨k_0_966, gw_aload⟩) (tL_ok ⟨k_0_967, gw_aload⟩))))))))) (tN_ok (tN_ok (tN_ok (tN_ok (tN_ok (tN_ok (tN_ok (tL_ok ⟨k_0_968, gw_iload⟩) (tN_ok (tL_ok ⟨k_0_969, gw_push⟩) (tL_ok ⟨k_0_970, gw_ib⟩))) (tN_ok (tL_ok ⟨k_0_971, gw_iald⟩) (tN_ok (tL_ok ⟨k_0_972, gw_aload⟩) (tL_ok ⟨k_0_973, gw_iload⟩)))) (tN_ok (tN_ok (tL_ok ⟨k_0_974, gw_push⟩) (tN_ok (tL_ok ⟨k_0_975, gw_ib⟩) (tL_ok ⟨k_0_976, gw_iald⟩))) (tN_ok (tN_ok (tL_ok ⟨k_0_977, gw_cv⟩) (tL_ok ⟨k_0_980, gw_if2⟩)) (tN_ok (tL_ok ⟨k_0_983, gw_push⟩) (tL_ok ⟨k_0_984, gw_ret⟩))))) (tN_ok (tN_ok (tN_ok (tL_ok ⟨k_0_985, gw_aload⟩) (tN_ok (tL_ok ⟨k_0_986, gw_aload⟩) (tL_ok ⟨k_0_987, gw_iload⟩))) (tN_ok (tN_ok (tL_ok ⟨k_0_988, gw_push⟩) (tL_ok ⟨k_0_989, gw_ib⟩)) (tN_ok (tL_ok ⟨k_0_990, gw_iald⟩) (tL_ok ⟨k_0_991, gw_cv⟩)))) (tN_ok (tN_ok (tL_ok ⟨k_0_994, gw_aload⟩) (tN_ok (tL_ok ⟨k_0_995, gw_aload⟩) (tL_ok ⟨k_0_996, gw_iload⟩))) (tN_ok (tN_ok (tL_ok ⟨k_0_997, gw_push⟩) (tL_ok ⟨k_0_998, gw_ib⟩)) (tN_ok (tL_ok ⟨k_0_999, gw_iald⟩) (tL_ok ⟨k_0_1000, gw_cv⟩)))))) (tN_ok (tN_ok (tN_ok (tN_ok (tL_ok ⟨k_0_1003, gw_if2⟩) (tN_ok (tL_ok ⟨k_0_1006, gw_push⟩) (tL_ok ⟨k_0_1007, gw_ret⟩))) (tN_ok (tL_ok ⟨k_0_1008, gw_aload⟩) (tN_ok (tL_ok ⟨k_0_1009, gw_aload⟩) (tL_ok ⟨k_0_1010, gw_iload⟩)))) (tN_ok (tN_ok (tL_ok ⟨k_0_1011, gw_push⟩) (tN_ok (tL_ok ⟨k_0_1012, gw_ib⟩) (tL_ok ⟨k_0_1013, gw_iald⟩))) (tN_ok (tN_ok (tL_ok ⟨k_0_1014, gw_aload⟩) (tL_ok ⟨k_0_1015, gw_iload⟩)) (tN_ok (tL_ok ⟨k_0_1016, gw_push⟩) (tL_ok ⟨k_0_1017, gw_ib⟩))))) (tN_ok (tN_ok (tN_ok (tL_ok ⟨k_0_1018, gw_iald⟩) (tN_ok (tL_ok ⟨k_0_1019, gw_aload⟩) (tL_ok ⟨k_0_1020, gw_iload⟩))) (tN_ok (tN_ok (tL_ok ⟨k_0_1021, gw_push⟩) (tL_ok ⟨k_0_1022, gw_ib⟩)) (tN_ok (tL_ok ⟨k_0_1023, gw_iald⟩) (tL_ok ⟨k_0_1024, gw_cv⟩)))) (tN_ok (tN_ok (tL_ok ⟨k_0_1027, gw_aload⟩) (tN_ok (tL_ok ⟨k_0_1028, gw_aload⟩) (tL_ok ⟨k_0_1029, gw_iload⟩))) (tN_ok (tN_ok (tL_ok ⟨k_0_1030, gw_push⟩) (tL_ok ⟨k_0_1031, gw_ib⟩)) (tN_ok (tL_ok ⟨k_0_1032, gw_iald⟩) (tL_ok ⟨k_0_1033, gw_aload⟩))))))) (tN_ok (tN_ok (tN_ok (tN_ok (tN_ok (tL_ok ⟨k_0_1034, gw_iload⟩) (tN_ok (tL_ok ⟨k_0_1035, gw_push⟩) (tL_ok ⟨k_0_1036, gw_ib⟩))) (tN_ok (tL_ok ⟨k_0_1037, gw_iald⟩) (tN_ok (tL_ok ⟨k_0_1038, gw_aload⟩) (tL_ok ⟨k_0_1039, gw_iload⟩)))) (tN_ok (tN_ok (tL_ok ⟨k_0_1040, gw_push⟩) (tN_ok (tL_ok ⟨k_0_1041, gw_ib⟩) (tL_ok ⟨k_0_1042, gw_iald⟩))) (tN_ok (tN_ok (tL_ok ⟨k_0_1043, gw_cv⟩) (tL_ok ⟨k_0_1046, gw_if2⟩)) (tN_ok (tL_ok ⟨k_0_1049, gw_push⟩) (tL_ok ⟨k_0_1050, gw_ret⟩))))) (tN_ok (tN_ok (tN_ok (tL_ok ⟨k_0_1051, gw_aload⟩) (tN_ok (tL_ok ⟨k_0_1052, gw_aload⟩) (tL_ok ⟨k_0_1053, gw_iload⟩))) (tN_ok (tN_ok (tL_ok ⟨k_0_1054, gw_push⟩) (tL_ok ⟨k_0_1055, gw_ib⟩)) (tN_ok (tL_ok ⟨k_0_1056, gw_iald⟩) (tL_ok ⟨k_0_1057, gw_aload⟩)))) (tN_ok (tN_ok (tL_ok ⟨k_0_1058, gw_iload⟩) (tN_ok (tL_ok ⟨k_0_1059, gw_push⟩) (tL_ok ⟨k_0_1060, gw_ib⟩))) (tN_ok (tN_ok (tL_ok ⟨k_0_1061, gw_iald⟩) (tL_ok ⟨k_0_1062, gw_aload⟩)) (tN_ok (tL_ok ⟨k_0_1063, gw_iload⟩) (tL_ok ⟨k_0_1064, gw_push⟩)))))) (tN_ok (tN_ok (tN_ok (tN_ok (tL_ok ⟨k_0_1065, gw_ib⟩) (tN_ok (tL_ok ⟨k_0_1066, gw_iald⟩) (tL_ok ⟨k_0_1067, gw_i2l⟩))) (tN_ok (tL_ok ⟨k_0_1068, gw_push⟩) (tN_ok (tL_ok ⟨k_0_1070, gw_lshl⟩) (tL_ok ⟨k_0_1071, gw_aload⟩)))) (tN_ok (tN_ok (tL_ok ⟨k_0_1072, gw_iload⟩) (tN_ok (tL_ok ⟨k_0_1073, gw_push⟩) (tL_ok ⟨k_0_1074, gw_ib⟩))) (tN_ok (tN_ok (tL_ok ⟨k_0_1075, gw_iald⟩) (tL_ok ⟨k_0_1076, gw_i2l⟩)) (tN_ok (tL_ok ⟨k_0_1077, gw_push⟩) (tL_ok ⟨k_0_1080, gw_lb⟩))))) (tN_ok (tN_ok (tN_ok (tL_ok ⟨k_0_1081, gw_lb⟩) (tN_ok (tL_ok ⟨k_0_1082, gw_cv⟩) (tL_ok ⟨k_0_1085, gw_aload⟩))) (tN_ok (tN_ok (tL_ok ⟨k_0_1086, gw_aload⟩) (tL_ok ⟨k_0_1087, gw_iload⟩)) (tN_ok (tL_ok ⟨k_0_1088, gw_push⟩) (tL_ok ⟨k_0_1089, gw_ib⟩)))) (tN_ok (tN_ok (tL_ok ⟨k_0_1090, gw_iald⟩) (tN_ok (tL_ok ⟨k_0_1091, gw_aload⟩) (tL_ok ⟨k_0_1092, gw_iload⟩))) (tN_ok (tN_ok (tL_ok ⟨k_0_1093, gw_push⟩) (tL_ok ⟨k_0_1094, gw_ib⟩)) (tN_ok (tL_ok ⟨k_0_1095, gw_iald⟩) (tL_ok ⟨k_0_1096, gw_aload⟩)))))))) (tN_ok (tN_ok (tN_ok (tN_ok (tN_ok (tN_ok (tL_ok ⟨k_0_1097, gw_iload⟩) (tN_ok (tL_ok ⟨k_0_1098, gw_push⟩) (tL_ok ⟨k_0_1099, gw_ib⟩))) (tN_ok (tL_ok ⟨k_0_1100, gw_iald⟩) (tN_ok (tL_ok ⟨k_0_1101, gw_i2l⟩) (tL_ok ⟨k_0_1102, gw_push⟩)))) (tN_ok (tN_ok (tL_ok ⟨k_0_1104, gw_lshl⟩) (tN_ok (tL_ok ⟨k_0_1105, gw_aload⟩) (tL_ok ⟨k_0_1106, gw_iload⟩))) (tN_ok (tN_ok (tL_ok ⟨k_0_1107, gw_push⟩) (tL_ok ⟨k_0_1108, gw_ib⟩)) (tN_ok (tL_ok ⟨k_0_1109, gw_iald⟩) (tL_ok ⟨k_0_1110, gw_i2l⟩))))) (tN_ok (tN_ok (tN_ok (tL_ok ⟨k_0_1111, gw_push⟩) (tN_ok (tL_ok ⟨k_0_1114, gw_lb⟩) (tL_ok ⟨k_0_1115, gw_lb⟩))) (tN_ok (tN_ok (tL_ok ⟨k_0_1116, gw_cv⟩) (tL_ok ⟨k_0_1119, gw_if2⟩)) (tN_ok (tL_ok ⟨k_0_1122, gw_push⟩) (tL_ok ⟨k_0_1123, gw_ret⟩)))) (tN_ok (tN_ok (tL_ok ⟨k_0_1124, gw_aload⟩) (tN_ok (tL_ok ⟨k_0_1125, gw_aload⟩) (tL_ok ⟨k_0_1126, gw_iload⟩))) (tN_ok (tN_ok (tL_ok ⟨k_0_1127, gw_push⟩) (tL_ok ⟨k_0_1128, gw_ib⟩)) (tN_ok (tL_ok ⟨k_0_1129, gw_iald⟩) (tL_ok ⟨k_0_1130, gw_aload⟩)))))) (tN_ok (tN_ok (tN_ok (tN_ok (tL_ok ⟨k_0_1131, gw_iload⟩) (tN_ok (tL_ok ⟨k_0_1132, gw_push⟩) (tL_ok ⟨k_0_1133, gw_ib⟩))) (tN_ok (tL_ok ⟨k_0_1134, gw_iald⟩) (tN_ok (tL_ok ⟨k_0_1135, gw_cv⟩) (tL_ok ⟨k_0_1138, gw_aload⟩)))) (tN_ok (tN_ok (tL_ok ⟨k_0_1139, gw_aload⟩) (tN_ok (tL_ok ⟨k_0_1140, gw_iload⟩) (tL_ok ⟨k_0_1141, gw_push⟩))) (tN_ok (tN_ok (tL_ok ⟨k_0_1142, gw_ib⟩) (tL_ok ⟨k_0_1143, gw_iald⟩)) (tN_ok (tL_ok ⟨k_0_1144, gw_aload⟩) (tL_ok ⟨k_0_1145, gw_iload⟩))))) (tN_ok (tN_ok (tN_ok (tL_ok ⟨k_0_1146, gw_push⟩) (tN_ok (tL_ok ⟨k_0_1147, gw_ib⟩) (tL_ok ⟨k_0_1148, gw_iald⟩))) (tN_ok (tN_ok (tL_ok ⟨k_0_1149, gw_cv⟩) (tL_ok ⟨k_0_1152, gw_lcmp⟩)) (tN_ok (tL_ok ⟨k_0_1153, gw_if1⟩) (tL_ok ⟨k_0_1156, gw_push⟩)))) (tN_ok (tN_ok (tL_ok ⟨k_0_1157, gw_ret⟩) (tN_ok (tL_ok ⟨k_0_1158, gw_aload⟩) (tL_ok ⟨k_0_1159, gw_aload⟩))) (tN_ok (tN_ok (tL_ok ⟨k_0_1160, gw_iload⟩) (tL_ok ⟨k_0_1161, gw_push⟩)) (tN_ok (tL_ok ⟨k_0_1162, gw_ib⟩) (tL_ok ⟨k_0_1163, gw_iald⟩))))))) (tN_ok (tN_ok (tN_ok (tN_ok (tN_ok (tL_ok ⟨k_0_1164, gw_aload⟩) (tN_ok (tL_ok ⟨k_0_1165, gw_iload⟩) (tL_ok ⟨k_0_1166, gw_push⟩))) (tN_ok (tL_ok ⟨k_0_1167, gw_ib⟩) (tN_ok (tL_ok ⟨k_0_1168, gw_iald⟩) (tL_ok ⟨k_0_1169, gw_aload⟩)))) (tN_ok (tN_ok (tL_ok ⟨k_0_1170, gw_iload⟩) (tN_ok (tL_ok ⟨k_0_1171, gw_push⟩) (tL_ok ⟨k_0_1172, gw_ib⟩))) (tN_ok (tN_ok (tL_ok ⟨k_0_1173, gw_iald⟩) (tL_ok ⟨k_0_1174, gw_aload⟩)) (tN_ok (tL_ok ⟨k_0_1175, gw_iload⟩) (tL_ok ⟨k_0_1176, gw_push⟩))))) (tN_ok (tN_ok (tN_ok (tL_ok ⟨k_0_1177, gw_ib⟩) (tN_ok (tL_ok ⟨k_0_1178, gw_iald⟩) (tL_ok ⟨k_0_1179, gw_aload⟩))) (tN_ok (tN_ok (tL_ok ⟨k_0_1180, gw_iload⟩) (tL_ok ⟨k_0_1181, gw_push⟩)) (tN_ok (tL_ok ⟨k_0_1182, gw_ib⟩) (tL_ok ⟨k_0_1183, gw_iald⟩)))) (tN_ok (tN_ok (tL_ok ⟨k_0_1184, gw_cv⟩) (tN_ok (tL_ok ⟨k_0_1187, gw_aload⟩) (tL_ok ⟨k_0_1188, gw_aload⟩))) (tN_ok (tN_ok (tL_ok ⟨k_0_1189, gw_iload⟩) (tL_ok ⟨k_0_1190, gw_push⟩)) (tN_ok (tL_ok ⟨k_0_1191, gw_ib⟩) (tL_ok ⟨k_0_1192, gw_iald⟩)))))) (tN_ok (tN_ok (tN_ok (tN_ok (tL_ok ⟨k_0_1193, gw_aload⟩) (tN_ok (tL_ok ⟨k_0_1194, gw_iload⟩) (tL_ok ⟨k_0_1195, gw_push⟩))) (tN_ok (tN_ok (tL_ok ⟨k_0_1196, gw_ib⟩) (tL_ok ⟨k_0_1197, gw_iald⟩)) (tN_ok (tL_ok ⟨k_0_1198, gw_aload⟩) (tL_ok ⟨k_0_1199, gw_iload⟩)))) (tN_ok (tN_ok (tL_ok ⟨k_0_1200, gw_push⟩) (tN_ok (tL_ok ⟨k_0_1201, gw_ib⟩) (tL_ok ⟨k_0_1202, gw_iald⟩))) (tN_ok (tN_ok (tL_ok ⟨k_0_1203, gw_aload⟩) (tL_ok ⟨k_0_1204, gw_iload⟩)) (tN_ok (tL_ok ⟨k_0_1205, gw_push⟩) (tL_ok ⟨k_0_1206, gw_ib⟩))))) (tN_ok (tN_ok (tN_ok (tL_ok ⟨k_0_1207, gw_iald⟩) (tN_ok (tL_ok ⟨k_0_1208, gw_aload⟩) (tL_ok ⟨k_0_1209, gw_iload⟩))) (tN_ok (tN_ok (tL_ok ⟨k_0_1210, gw_push⟩) (tL_ok ⟨k_0_1211, gw_ib⟩)) (tN_ok (tL_ok ⟨k_0_1212, gw_iald⟩) (tL_ok ⟨k_0_1213, gw_cv⟩)))) (tN_ok (tN_ok (tL_ok ⟨k_0_1216, gw_if2⟩) (tN_ok (tL_ok ⟨k_0_1219, gw_push⟩) (tL_ok ⟨k_0_1220, gw_ret⟩))) (tN_ok (tN_ok (tL_ok ⟨k_0_1221, gw_iinc⟩) (tL_ok ⟨k_0_1224, gw_goto⟩)) (tN_ok (tL_ok ⟨k_0_1227, gw_push⟩) (tL_ok ⟨k_0_1228, gw_ret⟩)))))))))))
theorem k_1_0 : OkOp mt Ev 1 0 (o_aload 0 1) := ok_aload_n (k := 0) (by decide +kernel) rfl
theorem k_1_1 : OkOp mt Ev 1 1 (o_oi) := ok_oi (i := 3) (by decide +kernel) wd_168 wd_83 wd_84
theorem k_1_4 : OkOp mt Ev 1 4 (o_aload 0 1) := ok_aload_n (k := 0) (by decide +kernel) rfl
theorem k_1_5 : OkOp mt Ev 1 5 (o_push (.int (101)) 2) := ok_bipush (n := 101) (by decide +kernel) (by decide +kernel)
theorem k_1_7 : OkOp mt Ev 1 7 (o_newa 0 (.inl (fun _ => 0)) 2) := ok_newa (at_ := .byte) (by decide +kernel) (by decide) rfl (fun _ _ => rfl) (by decide) wd_200
theorem k_1_9 : OkOp mt Ev 1 9 (o_putf 0 [0] 2) := ok_putf (i := 9) (rf := "BridgeSentences$Bridge") (nm := "text") (ds := "[B") (ty := (.array .byte)) (fin := true) (by decide +kernel) fc_0 wd_169 (tc_0) ff_0 (by decide) (by decide +kernel) (ov_arr .byte)
theorem k_1_12 : OkOp mt Ev 1 12 (o_aload 0 1) := ok_aload_n (k := 0) (by decide +kernel) rfl
theorem k_1_13 : OkOp mt Ev 1 13 (o_push (.int (100)) 2) := ok_bipush (n := 100) (by decide +kernel) (by decide +kernel)
theorem k_1_15 : OkOp mt Ev 1 15 (o_newa 2 (.inl (fun _ => 0)) 2) := ok_newa (at_ := .int) (by decide +kernel) (by decide) rfl (fun _ _ => rfl) (by decide) wd_118
theorem k_1_17 : OkOp mt Ev 1 17 (o_putf 3 [0] 2) := ok_putf (i := 15) (rf := "BridgeSentences$Bridge") (nm := "code") (ds := "[I") (ty := (.array .int)) (fin := true) (by decide +kernel) fc_1 wd_174 (tc_0) ff_1 (by decide) (by decide +kernel) (ov_arr .int)
theorem k_1_20 : OkOp mt Ev 1 20 (o_aload 0 1) := ok_aload_n (k := 0) (by decide +kernel) rfl
theorem k_1_21 : OkOp mt Ev 1 21 (o_push (.int (10)) 2) := ok_bipush (n := 10) (by decide +kernel) (by decide +kernel)
theorem k_1_23 : OkOp mt Ev 1 23 (o_newa 2 (.inl (fun _ => 0)) 2) := ok_newa (at_ := .int) (by decide +kernel) (by decide) rfl (fun _ _ => rfl) (by decide) wd_118
theorem k_1_25 : OkOp mt Ev 1 25 (o_putf 5 [0] 2) := ok_putf (i := 19) (rf := "BridgeSentences$Bridge") (nm := "weights") (ds := "[I") (ty := (.array .int)) (fin := true) (by decide +kernel) fc_2 wd_176 (tc_0) ff_2 (by decide) (by decide +kernel) (ov_arr .int)
theorem k_1_28 : OkOp mt Ev 1 28 (o_aload 0 1) := ok_aload_n (k := 0) (by decide +kernel) rfl
theorem k_1_29 : OkOp mt Ev 1 29 (o_push (.int (10)) 2) := ok_bipush (n := 10) (by decide +kernel) (by decide +kernel)
theorem k_1_31 : OkOp mt Ev 1 31 (o_newa 2 (.inl (fun _ => 0)) 2) := ok_newa (at_ := .int) (by decide +kernel) (by decide) rfl (fun _ _ => rfl) (by decide) wd_118
theorem k_1_33 : OkOp mt Ev 1 33 (o_putf 6 [0] 2) := ok_putf (i := 22) (rf := "BridgeSentences$Bridge") (nm := "codeEnds") (ds := "[I") (ty := (.array .int)) (fin := true) (by decide +kernel) fc_3 wd_177 (tc_0) ff_3 (by decide) (by decide +kernel) (ov_arr .int)
theorem k_1_36 : OkOp mt Ev 1 36 (o_retv) := ok_retv (by decide +kernel) rfl
theorem kt_1 : ∀ pc o, cd_X0_init Ev pc = some o → OkOp mt Ev 1 pc o ∧ Gw o := (tN_ok (tN_ok (tN_ok (tN_ok (tL_ok ⟨k_1_0, gw_aload⟩) (tL_ok ⟨k_1_1, gw_oi⟩)) (tN_ok (tL_ok ⟨k_1_4, gw_aload⟩) (tL_ok ⟨k_1_5, gw_push⟩))) (tN_ok (tN_ok (tL_ok ⟨k_1_7, gw_newa⟩) (tL_ok ⟨k_1_9, gw_putf⟩)) (tN_ok (tL_ok ⟨k_1_12, gw_aload⟩) (tN_ok (tL_ok ⟨k_1_13, gw_push⟩) (tL_ok ⟨k_1_15, gw_newa⟩))))) (tN_ok (tN_ok (tN_ok (tL_ok ⟨k_1_17, gw_putf⟩) (tL_ok ⟨k_1_20, gw_aload⟩)) (tN_ok (tL_ok ⟨k_1_21, gw_push⟩) (tN_ok (tL_ok ⟨k_1_23, gw_newa⟩) (tL_ok ⟨k_1_25, gw_putf⟩)))) (tN_ok (tN_ok (tL_ok ⟨k_1_28, gw_aload⟩) (tL_ok ⟨k_1_29, gw_push⟩)) (tN_ok (tL_ok ⟨k_1_31, gw_newa⟩) (tN_ok (tL_ok ⟨k_1_33, gw_putf⟩) (tL_ok ⟨k_1_36, gw_retv⟩))))))
theorem k_2_0 : OkOp mt Ev 2 0 (o_aload 0 1) := ok_aload_n (k := 0) (by decide +kernel) rfl
theorem k_2_1 : OkOp mt Ev 2 1 (o_getf 0 [0]) := ok_getf (i := 9) (rf := "BridgeSentences$Bridge") (nm := "text") (ds := "[B") (by decide +kernel) fc_0 wd_169
theorem k_2_4 : OkOp mt Ev 2 4 (o_aload 0 1) := ok_aload_n (k := 0) (by decide +kernel) rfl
theorem k_2_5 : OkOp mt Ev 2 5 (o_getf 1 [0]) := ok_getf (i := 25) (rf := "BridgeSentences$Bridge") (nm := "length") (ds := "I") (by decide +kernel) fc_4 wd_171
theorem k_2_8 : OkOp mt Ev 2 8 (o_push (.int (0)) 1) := ok_iconst (n := 0) (by decide +kernel) (by decide +kernel)
theorem k_2_9 : OkOp mt Ev 2 9 (o_iast 0 (fun x => vp_nar .byte x)) := ok_bast (by decide +kernel)
theorem k_2_10 : OkOp mt Ev 2 10 (o_aload 0 1) := ok_aload_n (k := 0) (by decide +kernel) rfl
theorem k_2_11 : OkOp mt Ev 2 11 (o_push (.int (0)) 1) := ok_iconst (n := 0) (by decide +kernel) (by decide +kernel)
theorem k_2_12 : OkOp mt Ev 2 12 (o_putf 2 [0] 0) := ok_putf (i := 29) (rf := "BridgeSentences$Bridge") (nm := "at") (ds := "I") (ty := .int) (fin := false) (by decide +kernel) fc_5 wd_173 (tc_0) ff_4 (by decide) (by decide +kernel) ov_int
theorem k_2_15 : OkOp mt Ev 2 15 (o_aload 0 1) := ok_aload_n (k := 0) (by decide +kernel) rfl
theorem k_2_16 : OkOp mt Ev 2 16 (o_push (.int (0)) 1) := ok_iconst (n := 0) (by decide +kernel) (by decide +kernel)
theorem k_2_17 : OkOp mt Ev 2 17 (o_putf 4 [0] 0) := ok_putf (i := 32) (rf := "BridgeSentences$Bridge") (nm := "codeSize") (ds := "I") (ty := .int) (fin := false) (by decide +kernel) fc_6 wd_175 (tc_0) ff_5 (by decide) (by decide +kernel) ov_int
theorem k_2_20 : OkOp mt Ev 2 20 (o_aload 0 1) := ok_aload_n (k := 0) (by decide +kernel) rfl
theorem k_2_21 : OkOp mt Ev 2 21 (o_push (.int (0)) 1) := ok_iconst (n := 0) (by decide +kernel) (by decide +kernel)
theorem k_2_22 : OkOp mt Ev 2 22 (o_putf 7 [0] 0) := ok_putf (i := 35) (rf := "BridgeSentences$Bridge") (nm := "clauses") (ds := "I") (ty := .int) (fin := false) (by decide +kernel) fc_7 wd_178 (tc_0) ff_6 (by decide) (by decide +kernel) ov_int
theorem k_2_25 : OkOp mt Ev 2 25 (o_aload 0 1) := ok_aload_n (k := 0) (by decide +kernel) rfl
theorem k_2_26 : OkOp mt Ev 2 26 (o_push (.int (0)) 1) := ok_iconst (n := 0) (by decide +kernel) (by decide +kernel)
theorem k_2_27 : OkOp mt Ev 2 27 (o_putf 8 [0] 0) := ok_putf (i := 38) (rf := "BridgeSentences$Bridge") (nm := "free") (ds := "I") (ty := .int) (fin := false) (by decide +kernel) fc_8 wd_179 (tc_0) ff_7 (by decide) (by decide +kernel) ov_int
theorem k_2_30 : OkOp mt Ev 2 30 (o_aload 0 1) := ok_aload_n (k := 0) (by decide +kernel) rfl
theorem k_2_31 : OkOp mt Ev 2 31 (o_cv [(0, 3)] 0) := ok_cv (i := 41) (by decide +kernel) vc_64
theorem k_2_34 : OkOp mt Ev 2 34 (o_istore 1 1) := ok_istore_n (k := 1) (by decide +kernel) rfl
theorem k_2_35 : OkOp mt Ev 2 35 (o_push (.int (1)) 1) := ok_iconst (n := 1) (by decide +kernel) (by decide +kernel)
theorem k_2_36 : OkOp mt Ev 2 36 (o_istore 2 1) := ok_istore_n (k := 2) (by decide +kernel) rfl
theorem k_2_37 : OkOp mt Ev 2 37 (o_iload 2 1) := ok_iload_n (k := 2) (by decide +kernel) rfl
theorem k_2_38 : OkOp mt Ev 2 38 (o_push (.int (10)) 2) := ok_bipush (n := 10) (by decide +kernel) (by decide +kernel)
theorem k_2_40 : OkOp mt Ev 2 40 (o_if2 (fun x y => decide (y ≤ x)) 67) := ok_icmp_ge (off := 27) (by decide +kernel) (by decide +kernel)
theorem k_2_43 : OkOp mt Ev 2 43 (o_iload 1 1) := ok_iload_n (k := 1) (by decide +kernel) rfl
theorem k_2_44 : OkOp mt Ev 2 44 (o_if1 (fun x => decide (x = 0)) 67) := ok_if_eq (off := 23) (by decide +kernel) (by decide +kernel)
theorem k_2_47 : OkOp mt Ev 2 47 (o_aload 0 1) := ok_aload_n (k := 0) (by decide +kernel) rfl
theorem k_2_48 : OkOp mt Ev 2 48 (o_push (.int (59)) 2) := ok_bipush (n := 59) (by decide +kernel) (by decide +kernel)
theorem k_2_50 : OkOp mt Ev 2 50 (o_cv [(0, 10)] 1) := ok_cv (i := 45) (by decide +kernel) vc_65
theorem k_2_53 : OkOp mt Ev 2 53 (o_if1 (fun x => decide (x = 0)) 67) := ok_if_eq (off := 14) (by decide +kernel) (by decide +kernel)
theorem k_2_56 : OkOp mt Ev 2 56 (o_aload 0 1) := ok_aload_n (k := 0) (by decide +kernel) rfl
theorem k_2_57 : OkOp mt Ev 2 57 (o_cv [(0, 3)] 0) := ok_cv (i := 41) (by decide +kernel) vc_64
theorem k_2_60 : OkOp mt Ev 2 60 (o_istore 1 1) := ok_istore_n (k := 1) (by decide +kernel) rfl
theorem k_2_61 : OkOp mt Ev 2 61 (o_iinc 2 (1)) := ok_iinc (n := 1) (by decide +kernel) (by decide +kernel)
theorem k_2_64 : OkOp mt Ev 2 64 (o_goto 37) := ok_goto (off := -27) (by decide +kernel) (by decide +kernel)
theorem k_2_67 : OkOp mt Ev 2 67 (o_iload 1 1) := ok_iload_n (k := 1) (by decide +kernel) rfl
theorem k_2_68 : OkOp mt Ev 2 68 (o_if1 (fun x => decide (x = 0)) 86) := ok_if_eq (off := 18) (by decide +kernel) (by decide +kernel)
theorem k_2_71 : OkOp mt Ev 2 71 (o_aload 0 1) := ok_aload_n (k := 0) (by decide +kernel) rfl
theorem k_2_72 : OkOp mt Ev 2 72 (o_getf 2 [0]) := ok_getf (i := 29) (rf := "BridgeSentences$Bridge") (nm := "at") (ds := "I") (by decide +kernel) fc_5 wd_173
theorem k_2_75 : OkOp mt Ev 2 75 (o_aload 0 1) := ok_aload_n (k := 0) (by decide +kernel) rfl
theorem k_2_76 : OkOp mt Ev 2 76 (o_getf 1 [0]) := ok_getf (i := 25) (rf := "BridgeSentences$Bridge") (nm := "length") (ds := "I") (by decide +kernel) fc_4 wd_171
theorem k_2_79 : OkOp mt Ev 2 79 (o_if2 (fun x y => decide (¬ x = y)) 86) := ok_icmp_ne (off := 7) (by decide +kernel) (by decide +kernel)
theorem k_2_82 : OkOp mt Ev 2 82 (o_push (.int (-1)) 1) := ok_iconst (n := -1) (by decide +kernel) (by decide +kernel)
theorem k_2_83 : OkOp mt Ev 2 83 (o_goto 90) := ok_goto (off := 7) (by decide +kernel) (by decide +kernel)
theorem k_2_86 : OkOp mt Ev 2 86 (o_aload 0 1) := ok_aload_n (k := 0) (by decide +kernel) rfl
theorem k_2_87 : OkOp mt Ev 2 87 (o_getf 2 [0]) := ok_getf (i := 29) (rf := "BridgeSentences$Bridge") (nm := "at") (ds := "I") (by decide +kernel) fc_5 wd_173
theorem k_2_90 : OkOp mt Ev 2 90 (o_ret 0) := ok_reti (ty := .int) (by decide +kernel) rfl (Or.inl ⟨rfl, rfl⟩)
theorem kt_2 : ∀ pc o, cd_X0_faultOfText Ev pc = some o → OkOp mt Ev 2 pc o ∧ Gw o := (tN_ok (tN_ok (tN_ok (tN_ok (tN_ok (tL_ok ⟨k_2_0, gw_aload⟩) (tN_ok (tL_ok ⟨k_2_1, gw_getf⟩) (tL_ok ⟨k_2_4, gw_aload⟩))) (tN_ok (tL_ok ⟨k_2_5, gw_getf⟩) (tN_ok (tL_ok ⟨k_2_8, gw_push⟩) (tL_ok ⟨k_2_9, gw_iast⟩)))) (tN_ok (tN_ok (tL_ok ⟨k_2_10, gw_aload⟩) (tN_ok (tL_ok ⟨k_2_11, gw_push⟩) (tL_ok ⟨k_2_12, gw_putf⟩))) (tN_ok (tL_ok ⟨k_2_15, gw_aload⟩) (tN_ok (tL_ok ⟨k_2_16, gw_push⟩) (tL_ok ⟨k_2_17, gw_putf⟩))))) (tN_ok (tN_ok (tN_ok (tL_ok ⟨k_2_20, gw_aload⟩) (tN_ok (tL_ok ⟨k_2_21, gw_push⟩) (tL_ok ⟨k_2_22, gw_putf⟩))) (tN_ok (tL_ok ⟨k_2_25, gw_aload⟩) (tN_ok (tL_ok ⟨k_2_26, gw_push⟩) (tL_ok ⟨k_2_27, gw_putf⟩)))) (tN_ok (tN_ok (tL_ok ⟨k_2_30, gw_aload⟩) (tN_ok (tL_ok ⟨k_2_31, gw_cv⟩) (tL_ok ⟨k_2_34, gw_istore⟩))) (tN_ok (tL_ok ⟨k_2_35, gw_push⟩) (tN_ok (tL_ok ⟨k_2_36, gw_istore⟩) (tL_ok ⟨k_2_37, gw_iload⟩)))))) (tN_ok (tN_ok (tN_ok (tN_ok (tL_ok ⟨k_2_38, gw_push⟩) (tN_ok (tL_ok ⟨k_2_40, gw_if2⟩) (tL_ok ⟨k_2_43, gw_iload⟩))) (tN_ok (tL_ok ⟨k_2_44, gw_if1⟩) (tN_ok (tL_ok ⟨k_2_47, gw_aload⟩) (tL_ok ⟨k_2_48, gw_push⟩)))) (tN_ok (tN_ok (tL_ok ⟨k_2_50, gw_cv⟩) (tN_ok (tL_ok ⟨k_2_53, gw_if1⟩) (tL_ok ⟨k_2_56, gw_aload⟩))) (tN_ok (tL_ok ⟨k_2_57, gw_cv⟩) (tN_ok (tL_ok ⟨k_2_60, gw_istore⟩) (tL_ok ⟨k_2_61, gw_iinc⟩))))) (tN_ok (tN_ok (tN_ok (tL_ok ⟨k_2_64, gw_goto⟩) (tN_ok (tL_ok ⟨k_2_67, gw_iload⟩) (tL_ok ⟨k_2_68, gw_if1⟩))) (tN_ok (tL_ok ⟨k_2_71, gw_aload⟩) (tN_ok (tL_ok ⟨k_2_72, gw_getf⟩) (tL_ok ⟨k_2_75, gw_aload⟩)))) (tN_ok (tN_ok (tL_ok ⟨k_2_76, gw_getf⟩) (tN_ok (tL_ok ⟨k_2_79, gw_if2⟩) (tL_ok ⟨k_2_82, gw_push⟩))) (tN_ok (tN_ok (tL_ok ⟨k_2_83, gw_goto⟩) (tL_ok ⟨k_2_86, gw_aload⟩)) (tN_ok (tL_ok ⟨k_2_87, gw_getf⟩) (tL_ok ⟨k_2_90, gw_ret⟩)))))))
theorem k_3_0 : OkOp mt Ev 3 0 (o_aload 0 1) := ok_aload_n (k := 0) (by decide +kernel) rfl
theorem k_3_1 : OkOp mt Ev 3 1 (o_getf 0 [0]) := ok_getf (i := 9) (rf := "BridgeSentences$Bridge") (nm := "text") (ds := "[B") (by decide +kernel) fc_0 wd_169
theorem k_3_4 : OkOp mt Ev 3 4 (o_aload 0 1) := ok_aload_n (k := 0) (by decide +kernel) rfl
theorem k_3_5 : OkOp mt Ev 3 5 (o_getf 2 [0]) := ok_getf (i := 29) (rf := "BridgeSentences$Bridge") (nm := "at") (ds := "I") (by decide +kernel) fc_5 wd_173
theorem k_3_8 : OkOp mt Ev 3 8 (o_iald 0) := ok_bald (by decide +kernel)
theorem k_3_9 : OkOp mt Ev 3 9 (o_istore 1 1) := ok_istore_n (k := 1) (by decide +kernel) rfl
theorem k_3_10 : OkOp mt Ev 3 10 (o_iload 1 1) := ok_iload_n (k := 1) (by decide +kernel) rfl
theorem k_3_11 : OkOp mt Ev 3 11 (o_push (.int (112)) 2) := ok_bipush (n := 112) (by decide +kernel) (by decide +kernel)
theorem k_3_13 : OkOp mt Ev 3 13 (o_if2 (fun x y => decide (¬ x = y)) 21) := ok_icmp_ne (off := 8) (by decide +kernel) (by decide +kernel)
theorem k_3_16 : OkOp mt Ev 3 16 (o_push (Ev 1) 2) := ok_ldcS (i := 49) (k := 1) (tx := "press ") (by decide +kernel) rfl (by simp [strL])
theorem k_3_18 : OkOp mt Ev 3 18 (o_goto 34) := ok_goto (off := 16) (by decide +kernel) (by decide +kernel)
theorem k_3_21 : OkOp mt Ev 3 21 (o_iload 1 1) := ok_iload_n (k := 1) (by decide +kernel) rfl
theorem k_3_22 : OkOp mt Ev 3 22 (o_push (.int (104)) 2) := ok_bipush (n := 104) (by decide +kernel) (by decide +kernel)
theorem k_3_24 : OkOp mt Ev 3 24 (o_if2 (fun x y => decide (¬ x = y)) 32) := ok_icmp_ne (off := 8) (by decide +kernel) (by decide +kernel)
theorem k_3_27 : OkOp mt Ev 3 27 (o_push (Ev 2) 2) := ok_ldcS (i := 51) (k := 2) (tx := "hold ") (by decide +kernel) rfl (by simp [strL])
theorem k_3_29 : OkOp mt Ev 3 29 (o_goto 34) := ok_goto (off := 5) (by decide +kernel) (by decide +kernel)
theorem k_3_32 : OkOp mt Ev 3 32 (o_push (Ev 3) 2) := ok_ldcS (i := 53) (k := 3) (tx := "free ") (by decide +kernel) rfl (by simp [strL])
theorem k_3_34 : OkOp mt Ev 3 34 (o_astore 2 1) := ok_astore_n (k := 2) (by decide +kernel) rfl
theorem k_3_35 : OkOp mt Ev 3 35 (o_aload 0 1) := ok_aload_n (k := 0) (by decide +kernel) rfl
theorem k_3_36 : OkOp mt Ev 3 36 (o_aload 2 1) := ok_aload_n (k := 2) (by decide +kernel) rfl
theorem k_3_37 : OkOp mt Ev 3 37 (o_cv [(0, 11)] 1) := ok_cv (i := 55) (by decide +kernel) vc_66
theorem k_3_40 : OkOp mt Ev 3 40 (o_if1 (fun x => decide (¬ x = 0)) 45) := ok_if_ne (off := 5) (by decide +kernel) (by decide +kernel)
theorem k_3_43 : OkOp mt Ev 3 43 (o_push (.int (0)) 1) := ok_iconst (n := 0) (by decide +kernel) (by decide +kernel)
theorem k_3_44 : OkOp mt Ev 3 44 (o_ret 1) := ok_reti (ty := .boolean) (by decide +kernel) rfl (Or.inr (Or.inl ⟨rfl, rfl⟩))
theorem k_3_45 : OkOp mt Ev 3 45 (o_aload 0 1) := ok_aload_n (k := 0) (by decide +kernel) rfl
theorem k_3_46 : OkOp mt Ev 3 46 (o_cv [(0, 12)] 0) := ok_cv (i := 59) (by decide +kernel) vc_67
theorem k_3_49 : OkOp mt Ev 3 49 (o_istore 3 1) := ok_istore_n (k := 3) (by decide +kernel) rfl
theorem k_3_50 : OkOp mt Ev 3 50 (o_iload 3 1) := ok_iload_n (k := 3) (by decide +kernel) rfl
theorem k_3_51 : OkOp mt Ev 3 51 (o_if1 (fun x => decide (0 ≤ x)) 56) := ok_if_ge (off := 5) (by decide +kernel) (by decide +kernel)
theorem k_3_54 : OkOp mt Ev 3 54 (o_push (.int (0)) 1) := ok_iconst (n := 0) (by decide +kernel) (by decide +kernel)
theorem k_3_55 : OkOp mt Ev 3 55 (o_ret 1) := ok_reti (ty := .boolean) (by decide +kernel) rfl (Or.inr (Or.inl ⟨rfl, rfl⟩))
theorem k_3_56 : OkOp mt Ev 3 56 (o_iload 1 1) := ok_iload_n (k := 1) (by decide +kernel) rfl
theorem k_3_57 : OkOp mt Ev 3 57 (o_push (.int (102)) 2) := ok_bipush (n := 102) (by decide +kernel) (by decide +kernel)
theorem k_3_59 : OkOp mt Ev 3 59 (o_if2 (fun x y => decide (¬ x = y)) 73) := ok_icmp_ne (off := 14) (by decide +kernel) (by decide +kernel)
theorem k_3_62 : OkOp mt Ev 3 62 (o_aload 0 1) := ok_aload_n (k := 0) (by decide +kernel) rfl
theorem k_3_63 : OkOp mt Ev 3 63 (o_iload 3 1) := ok_iload_n (k := 3) (by decide +kernel) rfl
theorem k_3_64 : OkOp mt Ev 3 64 (o_putf 8 [0] 0) := ok_putf (i := 38) (rf := "BridgeSentences$Bridge") (nm := "free") (ds := "I") (ty := .int) (fin := false) (by decide +kernel) fc_8 wd_179 (tc_0) ff_7 (by decide) (by decide +kernel) ov_int
theorem k_3_67 : OkOp mt Ev 3 67 (o_aload 0 1) := ok_aload_n (k := 0) (by decide +kernel) rfl
theorem k_3_68 : OkOp mt Ev 3 68 (o_push (.int (0)) 1) := ok_iconst (n := 0) (by decide +kernel) (by decide +kernel)
theorem k_3_69 : OkOp mt Ev 3 69 (o_cv [(0, 4)] 1) := ok_cv (i := 63) (by decide +kernel) vc_68
theorem k_3_72 : OkOp mt Ev 3 72 (o_ret 1) := ok_reti (ty := .boolean) (by decide +kernel) rfl (Or.inr (Or.inl ⟨rfl, rfl⟩))
theorem k_3_73 : OkOp mt Ev 3 73 (o_aload 0 1) := ok_aload_n (k := 0) (by decide +kernel) rfl
theorem k_3_74 : OkOp mt Ev 3 74 (o_push (.int (32)) 2) := ok_bipush (n := 32) (by decide +kernel) (by decide +kernel)
theorem k_3_76 : OkOp mt Ev 3 76 (o_cv [(0, 10)] 1) := ok_cv (i := 45) (by decide +kernel) vc_65
theorem k_3_79 : OkOp mt Ev 3 79 (o_if1 (fun x => decide (x = 0)) 113) := ok_if_eq (off := 34) (by decide +kernel) (by decide +kernel)
theorem k_3_82 : OkOp mt Ev 3 82 (o_aload 0 1) := ok_aload_n (k := 0) (by decide +kernel) rfl
theorem k_3_83 : OkOp mt Ev 3 83 (o_push (.int (0)) 1) := ok_iconst (n := 0) (by decide +kernel) (by decide +kernel)
theorem k_3_84 : OkOp mt Ev 3 84 (o_cv [(0, 5)] 1) := ok_cv (i := 67) (by decide +kernel) vc_69
theorem k_3_87 : OkOp mt Ev 3 87 (o_if1 (fun x => decide (x = 0)) 113) := ok_if_eq (off := 26) (by decide +kernel) (by decide +kernel)
theorem k_3_90 : OkOp mt Ev 3 90 (o_aload 0 1) := ok_aload_n (k := 0) (by decide +kernel) rfl
theorem k_3_91 : OkOp mt Ev 3 91 (o_iload 1 1) := ok_iload_n (k := 1) (by decide +kernel) rfl
theorem k_3_92 : OkOp mt Ev 3 92 (o_push (.int (112)) 2) := ok_bipush (n := 112) (by decide +kernel) (by decide +kernel)
theorem k_3_94 : OkOp mt Ev 3 94 (o_if2 (fun x y => decide (¬ x = y)) 101) := ok_icmp_ne (off := 7) (by decide +kernel) (by decide +kernel)
theorem k_3_97 : OkOp mt Ev 3 97 (o_iload 3 1) := ok_iload_n (k := 3) (by decide +kernel) rfl
theorem k_3_98 : OkOp mt Ev 3 98 (o_goto 103) := ok_goto (off := 5) (by decide +kernel) (by decide +kernel)
theorem k_3_101 : OkOp mt Ev 3 101 (o_iload 3 1) := ok_iload_n (k := 3) (by decide +kernel) rfl
theorem k_3_102 : OkOp mt Ev 3 102 (o_iu (fun x => -x)) := ok_ineg (by decide +kernel)
theorem k_3_103 : OkOp mt Ev 3 103 (o_cv [(0, 4)] 1) := ok_cv (i := 63) (by decide +kernel) vc_68
theorem k_3_106 : OkOp mt Ev 3 106 (o_if1 (fun x => decide (x = 0)) 113) := ok_if_eq (off := 7) (by decide +kernel) (by decide +kernel)
theorem k_3_109 : OkOp mt Ev 3 109 (o_push (.int (1)) 1) := ok_iconst (n := 1) (by decide +kernel) (by decide +kernel)
theorem k_3_110 : OkOp mt Ev 3 110 (o_goto 114) := ok_goto (off := 4) (by decide +kernel) (by decide +kernel)
theorem k_3_113 : OkOp mt Ev 3 113 (o_push (.int (0)) 1) := ok_iconst (n := 0) (by decide +kernel) (by decide +kernel)
theorem k_3_114 : OkOp mt Ev 3 114 (o_ret 1) := ok_reti (ty := .boolean) (by decide +kernel) rfl (Or.inr (Or.inl ⟨rfl, rfl⟩))
theorem kt_3 : ∀ pc o, cd_X0_isClause Ev pc = some o → OkOp mt Ev 3 pc o ∧ Gw o := (tN_ok (tN_ok (tN_ok (tN_ok (tN_ok (tL_ok ⟨k_3_0, gw_aload⟩) (tN_ok (tL_ok ⟨k_3_1, gw_getf⟩) (tL_ok ⟨k_3_4, gw_aload⟩))) (tN_ok (tN_ok (tL_ok ⟨k_3_5, gw_getf⟩) (tL_ok ⟨k_3_8, gw_iald⟩)) (tN_ok (tL_ok ⟨k_3_9, gw_istore⟩) (tL_ok ⟨k_3_10, gw_iload⟩)))) (tN_ok (tN_ok (tN_ok (tL_ok ⟨k_3_11, gw_push⟩) (tL_ok ⟨k_3_13, gw_if2⟩)) (tN_ok (tL_ok ⟨k_3_16, gw_push⟩) (tL_ok ⟨k_3_18, gw_goto⟩))) (tN_ok (tN_ok (tL_ok ⟨k_3_21, gw_iload⟩) (tL_ok ⟨k_3_22, gw_push⟩)) (tN_ok (tL_ok ⟨k_3_24, gw_if2⟩) (tL_ok ⟨k_3_27, gw_push⟩))))) (tN_ok (tN_ok (tN_ok (tN_ok (tL_ok ⟨k_3_29, gw_goto⟩) (tL_ok ⟨k_3_32, gw_push⟩)) (tN_ok (tL_ok ⟨k_3_34, gw_astore⟩) (tL_ok ⟨k_3_35, gw_aload⟩))) (tN_ok (tN_ok (tL_ok ⟨k_3_36, gw_aload⟩) (tL_ok ⟨k_3_37, gw_cv⟩)) (tN_ok (tL_ok ⟨k_3_40, gw_if1⟩) (tL_ok ⟨k_3_43, gw_push⟩)))) (tN_ok (tN_ok (tN_ok (tL_ok ⟨k_3_44, gw_ret⟩) (tL_ok ⟨k_3_45, gw_aload⟩)) (tN_ok (tL_ok ⟨k_3_46, gw_cv⟩) (tL_ok ⟨k_3_49, gw_istore⟩))) (tN_ok (tN_ok (tL_ok ⟨k_3_50, gw_iload⟩) (tL_ok ⟨k_3_51, gw_if1⟩)) (tN_ok (tL_ok ⟨k_3_54, gw_push⟩) (tL_ok ⟨k_3_55, gw_ret⟩)))))) (tN_ok (tN_ok (tN_ok (tN_ok (tN_ok (tL_ok ⟨k_3_56, gw_iload⟩) (tL_ok ⟨k_3_57, gw_push⟩)) (tN_ok (tL_ok ⟨k_3_59, gw_if2⟩) (tL_ok ⟨k_3_62, gw_aload⟩))) (tN_ok (tN_ok (tL_ok ⟨k_3_63, gw_iload⟩) (tL_ok ⟨k_3_64, gw_putf⟩)) (tN_ok (tL_ok ⟨k_3_67, gw_aload⟩) (tL_ok ⟨k_3_68, gw_push⟩)))) (tN_ok (tN_ok (tN_ok (tL_ok ⟨k_3_69, gw_cv⟩) (tL_ok ⟨k_3_72, gw_ret⟩)) (tN_ok (tL_ok ⟨k_3_73, gw_aload⟩) (tL_ok ⟨k_3_74, gw_push⟩))) (tN_ok (tN_ok (tL_ok ⟨k_3_76, gw_cv⟩) (tL_ok ⟨k_3_79, gw_if1⟩)) (tN_ok (tL_ok ⟨k_3_82, gw_aload⟩) (tL_ok ⟨k_3_83, gw_push⟩))))) (tN_ok (tN_ok (tN_ok (tN_ok (tL_ok ⟨k_3_84, gw_cv⟩) (tL_ok ⟨k_3_87, gw_if1⟩)) (tN_ok (tL_ok ⟨k_3_90, gw_aload⟩) (tL_ok ⟨k_3_91, gw_iload⟩))) (tN_ok (tN_ok (tL_ok ⟨k_3_92, gw_push⟩) (tL_ok ⟨k_3_94, gw_if2⟩)) (tN_ok (tL_ok ⟨k_3_97, gw_iload⟩) (tL_ok ⟨k_3_98, gw_goto⟩)))) (tN_ok (tN_ok (tN_ok (tL_ok ⟨k_3_101, gw_iload⟩) (tL_ok ⟨k_3_102, gw_iu⟩)) (tN_ok (tL_ok ⟨k_3_103, gw_cv⟩) (tL_ok ⟨k_3_106, gw_if1⟩))) (tN_ok (tN_ok (tL_ok ⟨k_3_109, gw_push⟩) (tL_ok ⟨k_3_110, gw_goto⟩)) (tN_ok (tL_ok ⟨k_3_113, gw_push⟩) (tL_ok ⟨k_3_114, gw_ret⟩)))))))
theorem k_4_0 : OkOp mt Ev 4 0 (o_aload 0 1) := ok_aload_n (k := 0) (by decide +kernel) rfl
theorem k_4_1 : OkOp mt Ev 4 1 (o_getf 7 [0]) := ok_getf (i := 35) (rf := "BridgeSentences$Bridge") (nm := "clauses") (ds := "I") (by decide +kernel) fc_7 wd_178
theorem k_4_4 : OkOp mt Ev 4 4 (o_push (.int (10)) 2) := ok_bipush (n := 10) (by decide +kernel) (by decide +kernel)
theorem k_4_6 : OkOp mt Ev 4 6 (o_if2 (fun x y => decide (x < y)) 11) := ok_icmp_lt (off := 5) (by decide +kernel) (by decide +kernel)
theorem k_4_9 : OkOp mt Ev 4 9 (o_push (.int (0)) 1) := ok_iconst (n := 0) (by decide +kernel) (by decide +kernel)
theorem k_4_10 : OkOp mt Ev 4 10 (o_ret 1) := ok_reti (ty := .boolean) (by decide +kernel) rfl (Or.inr (Or.inl ⟨rfl, rfl⟩))
theorem k_4_11 : OkOp mt Ev 4 11 (o_aload 0 1) := ok_aload_n (k := 0) (by decide +kernel) rfl
theorem k_4_12 : OkOp mt Ev 4 12 (o_getf 5 [0]) := ok_getf (i := 19) (rf := "BridgeSentences$Bridge") (nm := "weights") (ds := "[I") (by decide +kernel) fc_2 wd_176
theorem k_4_15 : OkOp mt Ev 4 15 (o_aload 0 1) := ok_aload_n (k := 0) (by decide +kernel) rfl
theorem k_4_16 : OkOp mt Ev 4 16 (o_getf 7 [0]) := ok_getf (i := 35) (rf := "BridgeSentences$Bridge") (nm := "clauses") (ds := "I") (by decide +kernel) fc_7 wd_178
theorem k_4_19 : OkOp mt Ev 4 19 (o_iload 1 1) := ok_iload_n (k := 1) (by decide +kernel) rfl
theorem k_4_20 : OkOp mt Ev 4 20 (o_iast 2 (fun x => x)) := ok_iast (by decide +kernel)
theorem k_4_21 : OkOp mt Ev 4 21 (o_aload 0 1) := ok_aload_n (k := 0) (by decide +kernel) rfl
theorem k_4_22 : OkOp mt Ev 4 22 (o_getf 6 [0]) := ok_getf (i := 22) (rf := "BridgeSentences$Bridge") (nm := "codeEnds") (ds := "[I") (by decide +kernel) fc_3 wd_177
theorem k_4_25 : OkOp mt Ev 4 25 (o_aload 0 1) := ok_aload_n (k := 0) (by decide +kernel) rfl
theorem k_4_26 : OkOp mt Ev 4 26 (o_getf 7 [0]) := ok_getf (i := 35) (rf := "BridgeSentences$Bridge") (nm := "clauses") (ds := "I") (by decide +kernel) fc_7 wd_178
theorem k_4_29 : OkOp mt Ev 4 29 (o_aload 0 1) := ok_aload_n (k := 0) (by decide +kernel) rfl
theorem k_4_30 : OkOp mt Ev 4 30 (o_getf 4 [0]) := ok_getf (i := 32) (rf := "BridgeSentences$Bridge") (nm := "codeSize") (ds := "I") (by decide +kernel) fc_6 wd_175
theorem k_4_33 : OkOp mt Ev 4 33 (o_iast 2 (fun x => x)) := ok_iast (by decide +kernel)
theorem k_4_34 : OkOp mt Ev 4 34 (o_aload 0 1) := ok_aload_n (k := 0) (by decide +kernel) rfl
theorem k_4_35 : OkOp mt Ev 4 35 (o_dup) := ok_dup (by decide +kernel)
theorem k_4_36 : OkOp mt Ev 4 36 (o_getf 7 [0]) := ok_getf (i := 35) (rf := "BridgeSentences$Bridge") (nm := "clauses") (ds := "I") (by decide +kernel) fc_7 wd_178
theorem k_4_39 : OkOp mt Ev 4 39 (o_push (.int (1)) 1) := ok_iconst (n := 1) (by decide +kernel) (by decide +kernel)
theorem k_4_40 : OkOp mt Ev 4 40 (o_ib (fun x y => x + y)) := ok_iadd (by decide +kernel)
theorem k_4_41 : OkOp mt Ev 4 41 (o_putf 7 [0] 0) := ok_putf (i := 35) (rf := "BridgeSentences$Bridge") (nm := "clauses") (ds := "I") (ty := .int) (fin := false) (by decide +kernel) fc_7 wd_178 (tc_0) ff_6 (by decide) (by decide +kernel) ov_int
theorem k_4_44 : OkOp mt Ev 4 44 (o_push (.int (1)) 1) := ok_iconst (n := 1) (by decide +kernel) (by decide +kernel)
theorem k_4_45 : OkOp mt Ev 4 45 (o_ret 1) := ok_reti (ty := .boolean) (by decide +kernel) rfl (Or.inr (Or.inl ⟨rfl, rfl⟩))
theorem kt_4 : ∀ pc o, cd_X0_endClause Ev pc = some o → OkOp mt Ev 4 pc o ∧ Gw o := (tN_ok (tN_ok (tN_ok (tN_ok (tL_ok ⟨k_4_0, gw_aload⟩) (tN_ok (tL_ok ⟨k_4_1, gw_getf⟩) (tL_ok ⟨k_4_4, gw_push⟩))) (tN_ok (tL_ok ⟨k_4_6, gw_if2⟩) (tN_ok (tL_ok ⟨k_4_9, gw_push⟩) (tL_ok ⟨k_4_10, gw_ret⟩)))) (tN_ok (tN_ok (tL_ok ⟨k_4_11, gw_aload⟩) (tN_ok (tL_ok ⟨k_4_12, gw_getf⟩) (tL_ok ⟨k_4_15, gw_aload⟩))) (tN_ok (tN_ok (tL_ok ⟨k_4_16, gw_getf⟩) (tL_ok ⟨k_4_19, gw_iload⟩)) (tN_ok (tL_ok ⟨k_4_20, gw_iast⟩) (tL_ok ⟨k_4_21, gw_aload⟩))))) (tN_ok (tN_ok (tN_ok (tL_ok ⟨k_4_22, gw_getf⟩) (tN_ok (tL_ok ⟨k_4_25, gw_aload⟩) (tL_ok ⟨k_4_26, gw_getf⟩))) (tN_ok (tN_ok (tL_ok ⟨k_4_29, gw_aload⟩) (tL_ok ⟨k_4_30, gw_getf⟩)) (tN_ok (tL_ok ⟨k_4_33, gw_iast⟩) (tL_ok ⟨k_4_34, gw_aload⟩)))) (tN_ok (tN_ok (tL_ok ⟨k_4_35, gw_dup⟩) (tN_ok (tL_ok ⟨k_4_36, gw_getf⟩) (tL_ok ⟨k_4_39, gw_push⟩))) (tN_ok (tN_ok (tL_ok ⟨k_4_40, gw_ib⟩) (tL_ok ⟨k_4_41, gw_putf⟩)) (tN_ok (tL_ok ⟨k_4_44, gw_push⟩) (tL_ok ⟨k_4_45, gw_ret⟩))))))
theorem k_5_0 : OkOp mt Ev 5 0 (o_aload 0 1) := ok_aload_n (k := 0) (by decide +kernel) rfl
theorem k_5_1 : OkOp mt Ev 5 1 (o_iload 1 1) := ok_iload_n (k := 1) (by decide +kernel) rfl
theorem k_5_2 : OkOp mt Ev 5 2 (o_cv [(0, 6)] 1) := ok_cv (i := 70) (by decide +kernel) vc_70
theorem k_5_5 : OkOp mt Ev 5 5 (o_istore 2 1) := ok_istore_n (k := 2) (by decide +kernel) rfl
theorem k_5_6 : OkOp mt Ev 5 6 (o_push (.int (0)) 1) := ok_iconst (n := 0) (by decide +kernel) (by decide +kernel)
theorem k_5_7 : OkOp mt Ev 5 7 (o_istore 3 1) := ok_istore_n (k := 3) (by decide +kernel) rfl
theorem k_5_8 : OkOp mt Ev 5 8 (o_iload 3 1) := ok_iload_n (k := 3) (by decide +kernel) rfl
theorem k_5_9 : OkOp mt Ev 5 9 (o_aload 0 1) := ok_aload_n (k := 0) (by decide +kernel) rfl
theorem k_5_10 : OkOp mt Ev 5 10 (o_getf 1 [0]) := ok_getf (i := 25) (rf := "BridgeSentences$Bridge") (nm := "length") (ds := "I") (by decide +kernel) fc_4 wd_171
theorem k_5_13 : OkOp mt Ev 5 13 (o_if2 (fun x y => decide (y ≤ x)) 58) := ok_icmp_ge (off := 45) (by decide +kernel) (by decide +kernel)
theorem k_5_16 : OkOp mt Ev 5 16 (o_iload 2 1) := ok_iload_n (k := 2) (by decide +kernel) rfl
theorem k_5_17 : OkOp mt Ev 5 17 (o_if1 (fun x => decide (x = 0)) 58) := ok_if_eq (off := 41) (by decide +kernel) (by decide +kernel)
theorem k_5_20 : OkOp mt Ev 5 20 (o_aload 0 1) := ok_aload_n (k := 0) (by decide +kernel) rfl
theorem k_5_21 : OkOp mt Ev 5 21 (o_push (.int (124)) 2) := ok_bipush (n := 124) (by decide +kernel) (by decide +kernel)
theorem k_5_23 : OkOp mt Ev 5 23 (o_cv [(0, 10)] 1) := ok_cv (i := 45) (by decide +kernel) vc_65
theorem k_5_26 : OkOp mt Ev 5 26 (o_if1 (fun x => decide (x = 0)) 58) := ok_if_eq (off := 32) (by decide +kernel) (by decide +kernel)
theorem k_5_29 : OkOp mt Ev 5 29 (o_aload 0 1) := ok_aload_n (k := 0) (by decide +kernel) rfl
theorem k_5_30 : OkOp mt Ev 5 30 (o_iload 1 1) := ok_iload_n (k := 1) (by decide +kernel) rfl
theorem k_5_31 : OkOp mt Ev 5 31 (o_cv [(0, 6)] 1) := ok_cv (i := 70) (by decide +kernel) vc_70
theorem k_5_34 : OkOp mt Ev 5 34 (o_if1 (fun x => decide (x = 0)) 50) := ok_if_eq (off := 16) (by decide +kernel) (by decide +kernel)
theorem k_5_37 : OkOp mt Ev 5 37 (o_aload 0 1) := ok_aload_n (k := 0) (by decide +kernel) rfl
theorem k_5_38 : OkOp mt Ev 5 38 (o_push (.int (-3)) 2) := ok_bipush (n := -3) (by decide +kernel) (by decide +kernel)
theorem k_5_40 : OkOp mt Ev 5 40 (o_cv [(0, 9)] 1) := ok_cv (i := 73) (by decide +kernel) vc_71
theorem k_5_43 : OkOp mt Ev 5 43 (o_if1 (fun x => decide (x = 0)) 50) := ok_if_eq (off := 7) (by decide +kernel) (by decide +kernel)
theorem k_5_46 : OkOp mt Ev 5 46 (o_push (.int (1)) 1) := ok_iconst (n := 1) (by decide +kernel) (by decide +kernel)
theorem k_5_47 : OkOp mt Ev 5 47 (o_goto 51) := ok_goto (off := 4) (by decide +kernel) (by decide +kernel)
theorem k_5_50 : OkOp mt Ev 5 50 (o_push (.int (0)) 1) := ok_iconst (n := 0) (by decide +kernel) (by decide +kernel)
theorem k_5_51 : OkOp mt Ev 5 51 (o_istore 2 1) := ok_istore_n (k := 2) (by decide +kernel) rfl
theorem k_5_52 : OkOp mt Ev 5 52 (o_iinc 3 (1)) := ok_iinc (n := 1) (by decide +kernel) (by decide +kernel)
theorem k_5_55 : OkOp mt Ev 5 55 (o_goto 8) := ok_goto (off := -47) (by decide +kernel) (by decide +kernel)
theorem k_5_58 : OkOp mt Ev 5 58 (o_iload 2 1) := ok_iload_n (k := 2) (by decide +kernel) rfl
theorem k_5_59 : OkOp mt Ev 5 59 (o_ret 1) := ok_reti (ty := .boolean) (by decide +kernel) rfl (Or.inr (Or.inl ⟨rfl, rfl⟩))
theorem kt_5 : ∀ pc o, cd_X0_isEither Ev pc = some o → OkOp mt Ev 5 pc o ∧ Gw o := (tN_ok (tN_ok (tN_ok (tN_ok (tN_ok (tL_ok ⟨k_5_0, gw_aload⟩) (tL_ok ⟨k_5_1, gw_iload⟩)) (tN_ok (tL_ok ⟨k_5_2, gw_cv⟩) (tL_ok ⟨k_5_5, gw_istore⟩))) (tN_ok (tN_ok (tL_ok ⟨k_5_6, gw_push⟩) (tL_ok ⟨k_5_7, gw_istore⟩)) (tN_ok (tL_ok ⟨k_5_8, gw_iload⟩) (tL_ok ⟨k_5_9, gw_aload⟩)))) (tN_ok (tN_ok (tN_ok (tL_ok ⟨k_5_10, gw_getf⟩) (tL_ok ⟨k_5_13, gw_if2⟩)) (tN_ok (tL_ok ⟨k_5_16, gw_iload⟩) (tL_ok ⟨k_5_17, gw_if1⟩))) (tN_ok (tN_ok (tL_ok ⟨k_5_20, gw_aload⟩) (tL_ok ⟨k_5_21, gw_push⟩)) (tN_ok (tL_ok ⟨k_5_23, gw_cv⟩) (tL_ok ⟨k_5_26, gw_if1⟩))))) (tN_ok (tN_ok (tN_ok (tN_ok (tL_ok ⟨k_5_29, gw_aload⟩) (tL_ok ⟨k_5_30, gw_iload⟩)) (tN_ok (tL_ok ⟨k_5_31, gw_cv⟩) (tL_ok ⟨k_5_34, gw_if1⟩))) (tN_ok (tN_ok (tL_ok ⟨k_5_37, gw_aload⟩) (tL_ok ⟨k_5_38, gw_push⟩)) (tN_ok (tL_ok ⟨k_5_40, gw_cv⟩) (tL_ok ⟨k_5_43, gw_if1⟩)))) (tN_ok (tN_ok (tN_ok (tL_ok ⟨k_5_46, gw_push⟩) (tL_ok ⟨k_5_47, gw_goto⟩)) (tN_ok (tL_ok ⟨k_5_50, gw_push⟩) (tL_ok ⟨k_5_51, gw_istore⟩))) (tN_ok (tN_ok (tL_ok ⟨k_5_52, gw_iinc⟩) (tL_ok ⟨k_5_55, gw_goto⟩)) (tN_ok (tL_ok ⟨k_5_58, gw_iload⟩) (tL_ok ⟨k_5_59, gw_ret⟩))))))
theorem k_6_0 : OkOp mt Ev 6 0 (o_aload 0 1) := ok_aload_n (k := 0) (by decide +kernel) rfl
theorem k_6_1 : OkOp mt Ev 6 1 (o_iload 1 1) := ok_iload_n (k := 1) (by decide +kernel) rfl
theorem k_6_2 : OkOp mt Ev 6 2 (o_cv [(0, 7)] 1) := ok_cv (i := 76) (by decide +kernel) vc_72
theorem k_6_5 : OkOp mt Ev 6 5 (o_istore 2 1) := ok_istore_n (k := 2) (by decide +kernel) rfl
theorem k_6_6 : OkOp mt Ev 6 6 (o_push (.int (0)) 1) := ok_iconst (n := 0) (by decide +kernel) (by decide +kernel)
theorem k_6_7 : OkOp mt Ev 6 7 (o_istore 3 1) := ok_istore_n (k := 3) (by decide +kernel) rfl
theorem k_6_8 : OkOp mt Ev 6 8 (o_iload 3 1) := ok_iload_n (k := 3) (by decide +kernel) rfl
theorem k_6_9 : OkOp mt Ev 6 9 (o_aload 0 1) := ok_aload_n (k := 0) (by decide +kernel) rfl
theorem k_6_10 : OkOp mt Ev 6 10 (o_getf 1 [0]) := ok_getf (i := 25) (rf := "BridgeSentences$Bridge") (nm := "length") (ds := "I") (by decide +kernel) fc_4 wd_171
theorem k_6_13 : OkOp mt Ev 6 13 (o_if2 (fun x y => decide (y ≤ x)) 58) := ok_icmp_ge (off := 45) (by decide +kernel) (by decide +kernel)
theorem k_6_16 : OkOp mt Ev 6 16 (o_iload 2 1) := ok_iload_n (k := 2) (by decide +kernel) rfl
theorem k_6_17 : OkOp mt Ev 6 17 (o_if1 (fun x => decide (x = 0)) 58) := ok_if_eq (off := 41) (by decide +kernel) (by decide +kernel)
theorem k_6_20 : OkOp mt Ev 6 20 (o_aload 0 1) := ok_aload_n (k := 0) (by decide +kernel) rfl
theorem k_6_21 : OkOp mt Ev 6 21 (o_push (.int (38)) 2) := ok_bipush (n := 38) (by decide +kernel) (by decide +kernel)
theorem k_6_23 : OkOp mt Ev 6 23 (o_cv [(0, 10)] 1) := ok_cv (i := 45) (by decide +kernel) vc_65
theorem k_6_26 : OkOp mt Ev 6 26 (o_if1 (fun x => decide (x = 0)) 58) := ok_if_eq (off := 32) (by decide +kernel) (by decide +kernel)
theorem k_6_29 : OkOp mt Ev 6 29 (o_aload 0 1) := ok_aload_n (k := 0) (by decide +kernel) rfl
theorem k_6_30 : OkOp mt Ev 6 30 (o_iload 1 1) := ok_iload_n (k := 1) (by decide +kernel) rfl
theorem k_6_31 : OkOp mt Ev 6 31 (o_cv [(0, 7)] 1) := ok_cv (i := 76) (by decide +kernel) vc_72
theorem k_6_34 : OkOp mt Ev 6 34 (o_if1 (fun x => decide (x = 0)) 50) := ok_if_eq (off := 16) (by decide +kernel) (by decide +kernel)
theorem k_6_37 : OkOp mt Ev 6 37 (o_aload 0 1) := ok_aload_n (k := 0) (by decide +kernel) rfl
theorem k_6_38 : OkOp mt Ev 6 38 (o_push (.int (-2)) 2) := ok_bipush (n := -2) (by decide +kernel) (by decide +kernel)
theorem k_6_40 : OkOp mt Ev 6 40 (o_cv [(0, 9)] 1) := ok_cv (i := 73) (by decide +kernel) vc_71
theorem k_6_43 : OkOp mt Ev 6 43 (o_if1 (fun x => decide (x = 0)) 50) := ok_if_eq (off := 7) (by decide +kernel) (by decide +kernel)
theorem k_6_46 : OkOp mt Ev 6 46 (o_push (.int (1)) 1) := ok_iconst (n := 1) (by decide +kernel) (by decide +kernel)
theorem k_6_47 : OkOp mt Ev 6 47 (o_goto 51) := ok_goto (off := 4) (by decide +kernel) (by decide +kernel)
theorem k_6_50 : OkOp mt Ev 6 50 (o_push (.int (0)) 1) := ok_iconst (n := 0) (by decide +kernel) (by decide +kernel)
theorem k_6_51 : OkOp mt Ev 6 51 (o_istore 2 1) := ok_istore_n (k := 2) (by decide +kernel) rfl
theorem k_6_52 : OkOp mt Ev 6 52 (o_iinc 3 (1)) := ok_iinc (n := 1) (by decide +kernel) (by decide +kernel)
theorem k_6_55 : OkOp mt Ev 6 55 (o_goto 8) := ok_goto (off := -47) (by decide +kernel) (by decide +kernel)
theorem k_6_58 : OkOp mt Ev 6 58 (o_iload 2 1) := ok_iload_n (k := 2) (by decide +kernel) rfl
theorem k_6_59 : OkOp mt Ev 6 59 (o_ret 1) := ok_reti (ty := .boolean) (by decide +kernel) rfl (Or.inr (Or.inl ⟨rfl, rfl⟩))
theorem kt_6 : ∀ pc o, cd_X0_isBoth Ev pc = some o → OkOp mt Ev 6 pc o ∧ Gw o := (tN_ok (tN_ok (tN_ok (tN_ok (tN_ok (tL_ok ⟨k_6_0, gw_aload⟩) (tL_ok ⟨k_6_1, gw_iload⟩)) (tN_ok (tL_ok ⟨k_6_2, gw_cv⟩) (tL_ok ⟨k_6_5, gw_istore⟩))) (tN_ok (tN_ok (tL_ok ⟨k_6_6, gw_push⟩) (tL_ok ⟨k_6_7, gw_istore⟩)) (tN_ok (tL_ok ⟨k_6_8, gw_iload⟩) (tL_ok ⟨k_6_9, gw_aload⟩)))) (tN_ok (tN_ok (tN_ok (tL_ok ⟨k_6_10, gw_getf⟩) (tL_ok ⟨k_6_13, gw_if2⟩)) (tN_ok (tL_ok ⟨k_6_16, gw_iload⟩) (tL_ok ⟨k_6_17, gw_if1⟩))) (tN_ok (tN_ok (tL_ok ⟨k_6_20, gw_aload⟩) (tL_ok ⟨k_6_21, gw_push⟩)) (tN_ok (tL_ok ⟨k_6_23, gw_cv⟩) (tL_ok ⟨k_6_26, gw_if1⟩))))) (tN_ok (tN_ok (tN_ok (tN_ok (tL_ok ⟨k_6_29, gw_aload⟩) (tL_ok ⟨k_6_30, gw_iload⟩)) (tN_ok (tL_ok ⟨k_6_31, gw_cv⟩) (tL_ok ⟨k_6_34, gw_if1⟩))) (tN_ok (tN_ok (tL_ok ⟨k_6_37, gw_aload⟩) (tL_ok ⟨k_6_38, gw_push⟩)) (tN_ok (tL_ok ⟨k_6_40, gw_cv⟩) (tL_ok ⟨k_6_43, gw_if1⟩)))) (tN_ok (tN_ok (tN_ok (tL_ok ⟨k_6_46, gw_push⟩) (tL_ok ⟨k_6_47, gw_goto⟩)) (tN_ok (tL_ok ⟨k_6_50, gw_push⟩) (tL_ok ⟨k_6_51, gw_istore⟩))) (tN_ok (tN_ok (tL_ok ⟨k_6_52, gw_iinc⟩) (tL_ok ⟨k_6_55, gw_goto⟩)) (tN_ok (tL_ok ⟨k_6_58, gw_iload⟩) (tL_ok ⟨k_6_59, gw_ret⟩))))))
theorem k_7_0 : OkOp mt Ev 7 0 (o_aload 0 1) := ok_aload_n (k := 0) (by decide +kernel) rfl
theorem k_7_1 : OkOp mt Ev 7 1 (o_getf 0 [0]) := ok_getf (i := 9) (rf := "BridgeSentences$Bridge") (nm := "text") (ds := "[B") (by decide +kernel) fc_0 wd_169
theorem k_7_4 : OkOp mt Ev 7 4 (o_aload 0 1) := ok_aload_n (k := 0) (by decide +kernel) rfl
theorem k_7_5 : OkOp mt Ev 7 5 (o_getf 2 [0]) := ok_getf (i := 29) (rf := "BridgeSentences$Bridge") (nm := "at") (ds := "I") (by decide +kernel) fc_5 wd_173
theorem k_7_8 : OkOp mt Ev 7 8 (o_iald 0) := ok_bald (by decide +kernel)
theorem k_7_9 : OkOp mt Ev 7 9 (o_push (.int (33)) 2) := ok_bipush (n := 33) (by decide +kernel) (by decide +kernel)
theorem k_7_11 : OkOp mt Ev 7 11 (o_if2 (fun x y => decide (x = y)) 33) := ok_icmp_eq (off := 22) (by decide +kernel) (by decide +kernel)
theorem k_7_14 : OkOp mt Ev 7 14 (o_aload 0 1) := ok_aload_n (k := 0) (by decide +kernel) rfl
theorem k_7_15 : OkOp mt Ev 7 15 (o_getf 0 [0]) := ok_getf (i := 9) (rf := "BridgeSentences$Bridge") (nm := "text") (ds := "[B") (by decide +kernel) fc_0 wd_169
theorem k_7_18 : OkOp mt Ev 7 18 (o_aload 0 1) := ok_aload_n (k := 0) (by decide +kernel) rfl
theorem k_7_19 : OkOp mt Ev 7 19 (o_getf 2 [0]) := ok_getf (i := 29) (rf := "BridgeSentences$Bridge") (nm := "at") (ds := "I") (by decide +kernel) fc_5 wd_173
theorem k_7_22 : OkOp mt Ev 7 22 (o_iald 0) := ok_bald (by decide +kernel)
theorem k_7_23 : OkOp mt Ev 7 23 (o_push (.int (40)) 2) := ok_bipush (n := 40) (by decide +kernel) (by decide +kernel)
theorem k_7_25 : OkOp mt Ev 7 25 (o_if2 (fun x y => decide (x = y)) 33) := ok_icmp_eq (off := 8) (by decide +kernel) (by decide +kernel)
theorem k_7_28 : OkOp mt Ev 7 28 (o_aload 0 1) := ok_aload_n (k := 0) (by decide +kernel) rfl
theorem k_7_29 : OkOp mt Ev 7 29 (o_cv [(0, 8)] 0) := ok_cv (i := 79) (by decide +kernel) vc_73
theorem k_7_32 : OkOp mt Ev 7 32 (o_ret 1) := ok_reti (ty := .boolean) (by decide +kernel) rfl (Or.inr (Or.inl ⟨rfl, rfl⟩))
theorem k_7_33 : OkOp mt Ev 7 33 (o_iload 1 1) := ok_iload_n (k := 1) (by decide +kernel) rfl
theorem k_7_34 : OkOp mt Ev 7 34 (o_push (.int (4)) 1) := ok_iconst (n := 4) (by decide +kernel) (by decide +kernel)
theorem k_7_35 : OkOp mt Ev 7 35 (o_if2 (fun x y => decide (x < y)) 40) := ok_icmp_lt (off := 5) (by decide +kernel) (by decide +kernel)
theorem k_7_38 : OkOp mt Ev 7 38 (o_push (.int (0)) 1) := ok_iconst (n := 0) (by decide +kernel) (by decide +kernel)
theorem k_7_39 : OkOp mt Ev 7 39 (o_ret 1) := ok_reti (ty := .boolean) (by decide +kernel) rfl (Or.inr (Or.inl ⟨rfl, rfl⟩))
theorem k_7_40 : OkOp mt Ev 7 40 (o_aload 0 1) := ok_aload_n (k := 0) (by decide +kernel) rfl
theorem k_7_41 : OkOp mt Ev 7 41 (o_push (.int (33)) 2) := ok_bipush (n := 33) (by decide +kernel) (by decide +kernel)
theorem k_7_43 : OkOp mt Ev 7 43 (o_cv [(0, 10)] 1) := ok_cv (i := 45) (by decide +kernel) vc_65
theorem k_7_46 : OkOp mt Ev 7 46 (o_if1 (fun x => decide (x = 0)) 73) := ok_if_eq (off := 27) (by decide +kernel) (by decide +kernel)
theorem k_7_49 : OkOp mt Ev 7 49 (o_aload 0 1) := ok_aload_n (k := 0) (by decide +kernel) rfl
theorem k_7_50 : OkOp mt Ev 7 50 (o_iload 1 1) := ok_iload_n (k := 1) (by decide +kernel) rfl
theorem k_7_51 : OkOp mt Ev 7 51 (o_push (.int (1)) 1) := ok_iconst (n := 1) (by decide +kernel) (by decide +kernel)
theorem k_7_52 : OkOp mt Ev 7 52 (o_ib (fun x y => x + y)) := ok_iadd (by decide +kernel)
theorem k_7_53 : OkOp mt Ev 7 53 (o_cv [(0, 7)] 1) := ok_cv (i := 76) (by decide +kernel) vc_72
theorem k_7_56 : OkOp mt Ev 7 56 (o_if1 (fun x => decide (x = 0)) 71) := ok_if_eq (off := 15) (by decide +kernel) (by decide +kernel)
theorem k_7_59 : OkOp mt Ev 7 59 (o_aload 0 1) := ok_aload_n (k := 0) (by decide +kernel) rfl
theorem k_7_60 : OkOp mt Ev 7 60 (o_push (.int (-1)) 1) := ok_iconst (n := -1) (by decide +kernel) (by decide +kernel)
theorem k_7_61 : OkOp mt Ev 7 61 (o_cv [(0, 9)] 1) := ok_cv (i := 73) (by decide +kernel) vc_71
theorem k_7_64 : OkOp mt Ev 7 64 (o_if1 (fun x => decide (x = 0)) 71) := ok_if_eq (off := 7) (by decide +kernel) (by decide +kernel)
theorem k_7_67 : OkOp mt Ev 7 67 (o_push (.int (1)) 1) := ok_iconst (n := 1) (by decide +kernel) (by decide +kernel)
theorem k_7_68 : OkOp mt Ev 7 68 (o_goto 72) := ok_goto (off := 4) (by decide +kernel) (by decide +kernel)
theorem k_7_71 : OkOp mt Ev 7 71 (o_push (.int (0)) 1) := ok_iconst (n := 0) (by decide +kernel) (by decide +kernel)
theorem k_7_72 : OkOp mt Ev 7 72 (o_ret 1) := ok_reti (ty := .boolean) (by decide +kernel) rfl (Or.inr (Or.inl ⟨rfl, rfl⟩))
theorem k_7_73 : OkOp mt Ev 7 73 (o_aload 0 1) := ok_aload_n (k := 0) (by decide +kernel) rfl
theorem k_7_74 : OkOp mt Ev 7 74 (o_dup) := ok_dup (by decide +kernel)
theorem k_7_75 : OkOp mt Ev 7 75 (o_getf 2 [0]) := ok_getf (i := 29) (rf := "BridgeSentences$Bridge") (nm := "at") (ds := "I") (by decide +kernel) fc_5 wd_173
theorem k_7_78 : OkOp mt Ev 7 78 (o_push (.int (1)) 1) := ok_iconst (n := 1) (by decide +kernel) (by decide +kernel)
theorem k_7_79 : OkOp mt Ev 7 79 (o_ib (fun x y => x + y)) := ok_iadd (by decide +kernel)
theorem k_7_80 : OkOp mt Ev 7 80 (o_putf 2 [0] 0) := ok_putf (i := 29) (rf := "BridgeSentences$Bridge") (nm := "at") (ds := "I") (ty := .int) (fin := false) (by decide +kernel) fc_5 wd_173 (tc_0) ff_4 (by decide) (by decide +kernel) ov_int
theorem k_7_83 : OkOp mt Ev 7 83 (o_aload 0 1) := ok_aload_n (k := 0) (by decide +kernel) rfl
theorem k_7_84 : OkOp mt Ev 7 84 (o_iload 1 1) := ok_iload_n (k := 1) (by decide +kernel) rfl
theorem k_7_85 : OkOp mt Ev 7 85 (o_push (.int (1)) 1) := ok_iconst (n := 1) (by decide +kernel) (by decide +kernel)
theorem k_7_86 : OkOp mt Ev 7 86 (o_ib (fun x y => x + y)) := ok_iadd (by decide +kernel)
theorem k_7_87 : OkOp mt Ev 7 87 (o_cv [(0, 5)] 1) := ok_cv (i := 67) (by decide +kernel) vc_69
theorem k_7_90 : OkOp mt Ev 7 90 (o_if1 (fun x => decide (x = 0)) 106) := ok_if_eq (off := 16) (by decide +kernel) (by decide +kernel)
theorem k_7_93 : OkOp mt Ev 7 93 (o_aload 0 1) := ok_aload_n (k := 0) (by decide +kernel) rfl
theorem k_7_94 : OkOp mt Ev 7 94 (o_push (.int (41)) 2) := ok_bipush (n := 41) (by decide +kernel) (by decide +kernel)
theorem k_7_96 : OkOp mt Ev 7 96 (o_cv [(0, 10)] 1) := ok_cv (i := 45) (by decide +kernel) vc_65
theorem k_7_99 : OkOp mt Ev 7 99 (o_if1 (fun x => decide (x = 0)) 106) := ok_if_eq (off := 7) (by decide +kernel) (by decide +kernel)
theorem k_7_102 : OkOp mt Ev 7 102 (o_push (.int (1)) 1) := ok_iconst (n := 1) (by decide +kernel) (by decide +kernel)
theorem k_7_103 : OkOp mt Ev 7 103 (o_goto 107) := ok_goto (off := 4) (by decide +kernel) (by decide +kernel)
theorem k_7_106 : OkOp mt Ev 7 106 (o_push (.int (0)) 1) := ok_iconst (n := 0) (by decide +kernel) (by decide +kernel)
theorem k_7_107 : OkOp mt Ev 7 107 (o_ret 1) := ok_reti (ty := .boolean) (by decide +kernel) rfl (Or.inr (Or.inl ⟨rfl, rfl⟩))
theorem kt_7 : ∀ pc o, cd_X0_isFactor Ev pc = some o → OkOp mt Ev 7 pc o ∧ Gw o := (tN_ok (tN_ok (tN_ok (tN_ok (tN_ok (tL_ok ⟨k_7_0, gw_aload⟩) (tN_ok (tL_ok ⟨k_7_1, gw_getf⟩) (tL_ok ⟨k_7_4, gw_aload⟩))) (tN_ok (tN_ok (tL_ok ⟨k_7_5, gw_getf⟩) (tL_ok ⟨k_7_8, gw_iald⟩)) (tN_ok (tL_ok ⟨k_7_9, gw_push⟩) (tL_ok ⟨k_7_11, gw_if2⟩)))) (tN_ok (tN_ok (tN_ok (tL_ok ⟨k_7_14, gw_aload⟩) (tL_ok ⟨k_7_15, gw_getf⟩)) (tN_ok (tL_ok ⟨k_7_18, gw_aload⟩) (tL_ok ⟨k_7_19, gw_getf⟩))) (tN_ok (tN_ok (tL_ok ⟨k_7_22, gw_iald⟩) (tL_ok ⟨k_7_23, gw_push⟩)) (tN_ok (tL_ok ⟨k_7_25, gw_if2⟩) (tL_ok ⟨k_7_28, gw_aload⟩))))) (tN_ok (tN_ok (tN_ok (tL_ok ⟨k_7_29, gw_cv⟩) (tN_ok (tL_ok ⟨k_7_32, gw_ret⟩) (tL_ok ⟨k_7_33, gw_iload⟩))) (tN_ok (tN_ok (tL_ok ⟨k_7_34, gw_push⟩) (tL_ok ⟨k_7_35, gw_if2⟩)) (tN_ok (tL_ok ⟨k_7_38, gw_push⟩) (tL_ok ⟨k_7_39, gw_ret⟩)))) (tN_ok (tN_ok (tN_ok (tL_ok ⟨k_7_40, gw_aload⟩) (tL_ok ⟨k_7_41, gw_push⟩)) (tN_ok (tL_ok ⟨k_7_43, gw_cv⟩) (tL_ok ⟨k_7_46, gw_if1⟩))) (tN_ok (tN_ok (tL_ok ⟨k_7_49, gw_aload⟩) (tL_ok ⟨k_7_50, gw_iload⟩)) (tN_ok (tL_ok ⟨k_7_51, gw_push⟩) (tL_ok ⟨k_7_52, gw_ib⟩)))))) (tN_ok (tN_ok (tN_ok (tN_ok (tL_ok ⟨k_7_53, gw_cv⟩) (tN_ok (tL_ok ⟨k_7_56, gw_if1⟩) (tL_ok ⟨k_7_59, gw_aload⟩))) (tN_ok (tN_ok (tL_ok ⟨k_7_60, gw_push⟩) (tL_ok ⟨k_7_61, gw_cv⟩)) (tN_ok (tL_ok ⟨k_7_64, gw_if1⟩) (tL_ok ⟨k_7_67, gw_push⟩)))) (tN_ok (tN_ok (tN_ok (tL_ok ⟨k_7_68, gw_goto⟩) (tL_ok ⟨k_7_71, gw_push⟩)) (tN_ok (tL_ok ⟨k_7_72, gw_ret⟩) (tL_ok ⟨k_7_73, gw_aload⟩))) (tN_ok (tN_ok (tL_ok ⟨k_7_74, gw_dup⟩) (tL_ok ⟨k_7_75, gw_getf⟩)) (tN_ok (tL_ok ⟨k_7_78, gw_push⟩) (tL_ok ⟨k_7_79, gw_ib⟩))))) (tN_ok (tN_ok (tN_ok (tL_ok ⟨k_7_80, gw_putf⟩) (tN_ok (tL_ok ⟨k_7_83, gw_aload⟩) (tL_ok ⟨k_7_84, gw_iload⟩))) (tN_ok (tN_ok (tL_ok ⟨k_7_85, gw_push⟩) (tL_ok ⟨k_7_86, gw_ib⟩)) (tN_ok (tL_ok ⟨k_7_87, gw_cv⟩) (tL_ok ⟨k_7_90, gw_if1⟩)))) (tN_ok (tN_ok (tN_ok (tL_ok ⟨k_7_93, gw_aload⟩) (tL_ok ⟨k_7_94, gw_push⟩)) (tN_ok (tL_ok ⟨k_7_96, gw_cv⟩) (tL_ok ⟨k_7_99, gw_if1⟩))) (tN_ok (tN_ok (tL_ok ⟨k_7_102, gw_push⟩) (tL_ok ⟨k_7_103, gw_goto⟩)) (tN_ok (tL_ok ⟨k_7_106, gw_push⟩) (tL_ok ⟨k_7_107, gw_ret⟩)))))))
theorem k_8_0 : OkOp mt Ev 8 0 (o_push (Ev 4) 2) := ok_ldcS (i := 82) (k := 4) (tx := "pkvswd") (by decide +kernel) rfl (by simp [strL])
theorem k_8_2 : OkOp mt Ev 8 2 (o_aload 0 1) := ok_aload_n (k := 0) (by decide +kernel) rfl
theorem k_8_3 : OkOp mt Ev 8 3 (o_getf 0 [0]) := ok_getf (i := 9) (rf := "BridgeSentences$Bridge") (nm := "text") (ds := "[B") (by decide +kernel) fc_0 wd_169
theorem k_8_6 : OkOp mt Ev 8 6 (o_aload 0 1) := ok_aload_n (k := 0) (by decide +kernel) rfl
theorem k_8_7 : OkOp mt Ev 8 7 (o_getf 2 [0]) := ok_getf (i := 29) (rf := "BridgeSentences$Bridge") (nm := "at") (ds := "I") (by decide +kernel) fc_5 wd_173
theorem k_8_10 : OkOp mt Ev 8 10 (o_iald 0) := ok_bald (by decide +kernel)
theorem k_8_11 : OkOp mt Ev 8 11 (o_iu (fun x => (x.toUInt32 % 65536).toInt32)) := ok_i2c (by decide +kernel)
theorem k_8_12 : OkOp mt Ev 8 12 (o_cstr 200 1) := ok_cstr (i := 84) (by decide +kernel) rfl nk_2 wd_655 wd_656 wd_657 wd_72 wd_658
theorem k_8_15 : OkOp mt Ev 8 15 (o_istore 1 1) := ok_istore_n (k := 1) (by decide +kernel) rfl
theorem k_8_16 : OkOp mt Ev 8 16 (o_iload 1 1) := ok_iload_n (k := 1) (by decide +kernel) rfl
theorem k_8_17 : OkOp mt Ev 8 17 (o_if1 (fun x => decide (0 ≤ x)) 22) := ok_if_ge (off := 5) (by decide +kernel) (by decide +kernel)
theorem k_8_20 : OkOp mt Ev 8 20 (o_push (.int (0)) 1) := ok_iconst (n := 0) (by decide +kernel) (by decide +kernel)
theorem k_8_21 : OkOp mt Ev 8 21 (o_ret 1) := ok_reti (ty := .boolean) (by decide +kernel) rfl (Or.inr (Or.inl ⟨rfl, rfl⟩))
theorem k_8_22 : OkOp mt Ev 8 22 (o_aload 0 1) := ok_aload_n (k := 0) (by decide +kernel) rfl
theorem k_8_23 : OkOp mt Ev 8 23 (o_dup) := ok_dup (by decide +kernel)
theorem k_8_24 : OkOp mt Ev 8 24 (o_getf 2 [0]) := ok_getf (i := 29) (rf := "BridgeSentences$Bridge") (nm := "at") (ds := "I") (by decide +kernel) fc_5 wd_173
theorem k_8_27 : OkOp mt Ev 8 27 (o_push (.int (1)) 1) := ok_iconst (n := 1) (by decide +kernel) (by decide +kernel)
theorem k_8_28 : OkOp mt Ev 8 28 (o_ib (fun x y => x + y)) := ok_iadd (by decide +kernel)
theorem k_8_29 : OkOp mt Ev 8 29 (o_putf 2 [0] 0) := ok_putf (i := 29) (rf := "BridgeSentences$Bridge") (nm := "at") (ds := "I") (ty := .int) (fin := false) (by decide +kernel) fc_5 wd_173 (tc_0) ff_4 (by decide) (by decide +kernel) ov_int
theorem k_8_32 : OkOp mt Ev 8 32 (o_push (Ev 5) 2) := ok_ldcS (i := 90) (k := 5) (tx := "<=>") (by decide +kernel) rfl (by simp [strL])
theorem k_8_34 : OkOp mt Ev 8 34 (o_aload 0 1) := ok_aload_n (k := 0) (by decide +kernel) rfl
theorem k_8_35 : OkOp mt Ev 8 35 (o_getf 0 [0]) := ok_getf (i := 9) (rf := "BridgeSentences$Bridge") (nm := "text") (ds := "[B") (by decide +kernel) fc_0 wd_169
theorem k_8_38 : OkOp mt Ev 8 38 (o_aload 0 1) := ok_aload_n (k := 0) (by decide +kernel) rfl
theorem k_8_39 : OkOp mt Ev 8 39 (o_getf 2 [0]) := ok_getf (i := 29) (rf := "BridgeSentences$Bridge") (nm := "at") (ds := "I") (by decide +kernel) fc_5 wd_173
theorem k_8_42 : OkOp mt Ev 8 42 (o_iald 0) := ok_bald (by decide +kernel)
theorem k_8_43 : OkOp mt Ev 8 43 (o_iu (fun x => (x.toUInt32 % 65536).toInt32)) := ok_i2c (by decide +kernel)
theorem k_8_44 : OkOp mt Ev 8 44 (o_cstr 200 1) := ok_cstr (i := 84) (by decide +kernel) rfl nk_2 wd_655 wd_656 wd_657 wd_72 wd_658
theorem k_8_47 : OkOp mt Ev 8 47 (o_istore 2 1) := ok_istore_n (k := 2) (by decide +kernel) rfl
theorem k_8_48 : OkOp mt Ev 8 48 (o_iload 2 1) := ok_iload_n (k := 2) (by decide +kernel) rfl
theorem k_8_49 : OkOp mt Ev 8 49 (o_if1 (fun x => decide (0 ≤ x)) 54) := ok_if_ge (off := 5) (by decide +kernel) (by decide +kernel)
theorem k_8_52 : OkOp mt Ev 8 52 (o_push (.int (0)) 1) := ok_iconst (n := 0) (by decide +kernel) (by decide +kernel)
theorem k_8_53 : OkOp mt Ev 8 53 (o_ret 1) := ok_reti (ty := .boolean) (by decide +kernel) rfl (Or.inr (Or.inl ⟨rfl, rfl⟩))
theorem k_8_54 : OkOp mt Ev 8 54 (o_aload 0 1) := ok_aload_n (k := 0) (by decide +kernel) rfl
theorem k_8_55 : OkOp mt Ev 8 55 (o_dup) := ok_dup (by decide +kernel)
theorem k_8_56 : OkOp mt Ev 8 56 (o_getf 2 [0]) := ok_getf (i := 29) (rf := "BridgeSentences$Bridge") (nm := "at") (ds := "I") (by decide +kernel) fc_5 wd_173
theorem k_8_59 : OkOp mt Ev 8 59 (o_push (.int (1)) 1) := ok_iconst (n := 1) (by decide +kernel) (by decide +kernel)
theorem k_8_60 : OkOp mt Ev 8 60 (o_ib (fun x y => x + y)) := ok_iadd (by decide +kernel)
theorem k_8_61 : OkOp mt Ev 8 61 (o_putf 2 [0] 0) := ok_putf (i := 29) (rf := "BridgeSentences$Bridge") (nm := "at") (ds := "I") (ty := .int) (fin := false) (by decide +kernel) fc_5 wd_173 (tc_0) ff_4 (by decide) (by decide +kernel) ov_int
theorem k_8_64 : OkOp mt Ev 8 64 (o_aload 0 1) := ok_aload_n (k := 0) (by decide +kernel) rfl
theorem k_8_65 : OkOp mt Ev 8 65 (o_cv [(0, 12)] 0) := ok_cv (i := 59) (by decide +kernel) vc_67
theorem k_8_68 : OkOp mt Ev 8 68 (o_istore 3 1) := ok_istore_n (k := 3) (by decide +kernel) rfl
theorem k_8_69 : OkOp mt Ev 8 69 (o_iload 3 1) := ok_iload_n (k := 3) (by decide +kernel) rfl
theorem k_8_70 : OkOp mt Ev 8 70 (o_if1 (fun x => decide (x < 0)) 94) := ok_if_lt (off := 24) (by decide +kernel) (by decide +kernel)
theorem k_8_73 : OkOp mt Ev 8 73 (o_aload 0 1) := ok_aload_n (k := 0) (by decide +kernel) rfl
theorem k_8_74 : OkOp mt Ev 8 74 (o_iload 1 1) := ok_iload_n (k := 1) (by decide +kernel) rfl
theorem k_8_75 : OkOp mt Ev 8 75 (o_push (.int (3)) 1) := ok_iconst (n := 3) (by decide +kernel) (by decide +kernel)
theorem k_8_76 : OkOp mt Ev 8 76 (o_ib (fun x y => x * y)) := ok_imul (by decide +kernel)
theorem k_8_77 : OkOp mt Ev 8 77 (o_iload 2 1) := ok_iload_n (k := 2) (by decide +kernel) rfl
theorem k_8_78 : OkOp mt Ev 8 78 (o_ib (fun x y => x + y)) := ok_iadd (by decide +kernel)
theorem k_8_79 : OkOp mt Ev 8 79 (o_push (.int (100)) 2) := ok_bipush (n := 100) (by decide +kernel) (by decide +kernel)
theorem k_8_81 : OkOp mt Ev 8 81 (o_ib (fun x y => x * y)) := ok_imul (by decide +kernel)
theorem k_8_82 : OkOp mt Ev 8 82 (o_iload 3 1) := ok_iload_n (k := 3) (by decide +kernel) rfl
theorem k_8_83 : OkOp mt Ev 8 83 (o_ib (fun x y => x + y)) := ok_iadd (by decide +kernel)
theorem k_8_84 : OkOp mt Ev 8 84 (o_cv [(0, 9)] 1) := ok_cv (i := 73) (by decide +kernel) vc_71
theorem k_8_87 : OkOp mt Ev 8 87 (o_if1 (fun x => decide (x = 0)) 94) := ok_if_eq (off := 7) (by decide +kernel) (by decide +kernel)
theorem k_8_90 : OkOp mt Ev 8 90 (o_push (.int (1)) 1) := ok_iconst (n := 1) (by decide +kernel) (by decide +kernel)
theorem k_8_91 : OkOp mt Ev 8 91 (o_goto 95) := ok_goto (off := 4) (by decide +kernel) (by decide +kernel)
theorem k_8_94 : OkOp mt Ev 8 94 (o_push (.int (0)) 1) := ok_iconst (n := 0) (by decide +kernel) (by decide +kernel)
theorem k_8_95 : OkOp mt Ev 8 95 (o_ret 1) := ok_reti (ty := .boolean) (by decide +kernel) rfl (Or.inr (Or.inl ⟨rfl, rfl⟩))
theorem kt_8 : ∀ pc o, cd_X0_isTest Ev pc = some o → OkOp mt Ev 8 pc o ∧ Gw o := (tN_ok (tN_ok (tN_ok (tN_ok (tN_ok (tL_ok ⟨k_8_0, gw_push⟩) (tN_ok (tL_ok ⟨k_8_2, gw_aload⟩) (tL_ok ⟨k_8_3, gw_getf⟩))) (tN_ok (tN_ok (tL_ok ⟨k_8_6, gw_aload⟩) (tL_ok ⟨k_8_7, gw_getf⟩)) (tN_ok (tL_ok ⟨k_8_10, gw_iald⟩) (tL_ok ⟨k_8_11, gw_iu⟩)))) (tN_ok (tN_ok (tL_ok ⟨k_8_12, gw_cstr⟩) (tN_ok (tL_ok ⟨k_8_15, gw_istore⟩) (tL_ok ⟨k_8_16, gw_iload⟩))) (tN_ok (tN_ok (tL_ok ⟨k_8_17, gw_if1⟩) (tL_ok ⟨k_8_20, gw_push⟩)) (tN_ok (tL_ok ⟨k_8_21, gw_ret⟩) (tL_ok ⟨k_8_22, gw_aload⟩))))) (tN_ok (tN_ok (tN_ok (tL_ok ⟨k_8_23, gw_dup⟩) (tN_ok (tL_ok ⟨k_8_24, gw_getf⟩) (tL_ok ⟨k_8_27, gw_push⟩))) (tN_ok (tN_ok (tL_ok ⟨k_8_28, gw_ib⟩) (tL_ok ⟨k_8_29, gw_putf⟩)) (tN_ok (tL_ok ⟨k_8_32, gw_push⟩) (tL_ok ⟨k_8_34, gw_aload⟩)))) (tN_ok (tN_ok (tN_ok (tL_ok ⟨k_8_35, gw_getf⟩) (tL_ok ⟨k_8_38, gw_aload⟩)) (tN_ok (tL_ok ⟨k_8_39, gw_getf⟩) (tL_ok ⟨k_8_42, gw_iald⟩))) (tN_ok (tN_ok (tL_ok ⟨k_8_43, gw_iu⟩) (tL_ok ⟨k_8_44, gw_cstr⟩)) (tN_ok (tL_ok ⟨k_8_47, gw_istore⟩) (tL_ok ⟨k_8_48, gw_iload⟩)))))) (tN_ok (tN_ok (tN_ok (tN_ok (tL_ok ⟨k_8_49, gw_if1⟩) (tN_ok (tL_ok ⟨k_8_52, gw_push⟩) (tL_ok ⟨k_8_53, gw_ret⟩))) (tN_ok (tN_ok (tL_ok ⟨k_8_54, gw_aload⟩) (tL_ok ⟨k_8_55, gw_dup⟩)) (tN_ok (tL_ok ⟨k_8_56, gw_getf⟩) (tL_ok ⟨k_8_59, gw_push⟩)))) (tN_ok (tN_ok (tN_ok (tL_ok ⟨k_8_60, gw_ib⟩) (tL_ok ⟨k_8_61, gw_putf⟩)) (tN_ok (tL_ok ⟨k_8_64, gw_aload⟩) (tL_ok ⟨k_8_65, gw_cv⟩))) (tN_ok (tN_ok (tL_ok ⟨k_8_68, gw_istore⟩) (tL_ok ⟨k_8_69, gw_iload⟩)) (tN_ok (tL_ok ⟨k_8_70, gw_if1⟩) (tL_ok ⟨k_8_73, gw_aload⟩))))) (tN_ok (tN_ok (tN_ok (tL_ok ⟨k_8_74, gw_iload⟩) (tN_ok (tL_ok ⟨k_8_75, gw_push⟩) (tL_ok ⟨k_8_76, gw_ib⟩))) (tN_ok (tN_ok (tL_ok ⟨k_8_77, gw_iload⟩) (tL_ok ⟨k_8_78, gw_ib⟩)) (tN_ok (tL_ok ⟨k_8_79, gw_push⟩) (tL_ok ⟨k_8_81, gw_ib⟩)))) (tN_ok (tN_ok (tN_ok (tL_ok ⟨k_8_82, gw_iload⟩) (tL_ok ⟨k_8_83, gw_ib⟩)) (tN_ok (tL_ok ⟨k_8_84, gw_cv⟩) (tL_ok ⟨k_8_87, gw_if1⟩))) (tN_ok (tN_ok (tL_ok ⟨k_8_90, gw_push⟩) (tL_ok ⟨k_8_91, gw_goto⟩)) (tN_ok (tL_ok ⟨k_8_94, gw_push⟩) (tL_ok ⟨k_8_95, gw_ret⟩)))))))
theorem k_9_0 : OkOp mt Ev 9 0 (o_aload 0 1) := ok_aload_n (k := 0) (by decide +kernel) rfl
theorem k_9_1 : OkOp mt Ev 9 1 (o_getf 4 [0]) := ok_getf (i := 32) (rf := "BridgeSentences$Bridge") (nm := "codeSize") (ds := "I") (by decide +kernel) fc_6 wd_175
theorem k_9_4 : OkOp mt Ev 9 4 (o_aload 0 1) := ok_aload_n (k := 0) (by decide +kernel) rfl
theorem k_9_5 : OkOp mt Ev 9 5 (o_getf 3 [0]) := ok_getf (i := 15) (rf := "BridgeSentences$Bridge") (nm := "code") (ds := "[I") (by decide +kernel) fc_1 wd_174
theorem k_9_8 : OkOp mt Ev 9 8 (o_alen) := ok_alen (by decide +kernel)
theorem k_9_9 : OkOp mt Ev 9 9 (o_if2 (fun x y => decide (x < y)) 14) := ok_icmp_lt (off := 5) (by decide +kernel) (by decide +kernel)
theorem k_9_12 : OkOp mt Ev 9 12 (o_push (.int (0)) 1) := ok_iconst (n := 0) (by decide +kernel) (by decide +kernel)
theorem k_9_13 : OkOp mt Ev 9 13 (o_ret 1) := ok_reti (ty := .boolean) (by decide +kernel) rfl (Or.inr (Or.inl ⟨rfl, rfl⟩))
theorem k_9_14 : OkOp mt Ev 9 14 (o_aload 0 1) := ok_aload_n (k := 0) (by decide +kernel) rfl
theorem k_9_15 : OkOp mt Ev 9 15 (o_getf 3 [0]) := ok_getf (i := 15) (rf := "BridgeSentences$Bridge") (nm := "code") (ds := "[I") (by decide +kernel) fc_1 wd_174
theorem k_9_18 : OkOp mt Ev 9 18 (o_aload 0 1) := ok_aload_n (k := 0) (by decide +kernel) rfl
theorem k_9_19 : OkOp mt Ev 9 19 (o_getf 4 [0]) := ok_getf (i := 32) (rf := "BridgeSentences$Bridge") (nm := "codeSize") (ds := "I") (by decide +kernel) fc_6 wd_175
theorem k_9_22 : OkOp mt Ev 9 22 (o_iload 1 1) := ok_iload_n (k := 1) (by decide +kernel) rfl
theorem k_9_23 : OkOp mt Ev 9 23 (o_iast 2 (fun x => x)) := ok_iast (by decide +kernel)
theorem k_9_24 : OkOp mt Ev 9 24 (o_aload 0 1) := ok_aload_n (k := 0) (by decide +kernel) rfl
theorem k_9_25 : OkOp mt Ev 9 25 (o_dup) := ok_dup (by decide +kernel)
theorem k_9_26 : OkOp mt Ev 9 26 (o_getf 4 [0]) := ok_getf (i := 32) (rf := "BridgeSentences$Bridge") (nm := "codeSize") (ds := "I") (by decide +kernel) fc_6 wd_175
theorem k_9_29 : OkOp mt Ev 9 29 (o_push (.int (1)) 1) := ok_iconst (n := 1) (by decide +kernel) (by decide +kernel)
theorem k_9_30 : OkOp mt Ev 9 30 (o_ib (fun x y => x + y)) := ok_iadd (by decide +kernel)
theorem k_9_31 : OkOp mt Ev 9 31 (o_putf 4 [0] 0) := ok_putf (i := 32) (rf := "BridgeSentences$Bridge") (nm := "codeSize") (ds := "I") (ty := .int) (fin := false) (by decide +kernel) fc_6 wd_175 (tc_0) ff_5 (by decide) (by decide +kernel) ov_int
theorem k_9_34 : OkOp mt Ev 9 34 (o_push (.int (1)) 1) := ok_iconst (n := 1) (by decide +kernel) (by decide +kernel)
theorem k_9_35 : OkOp mt Ev 9 35 (o_ret 1) := ok_reti (ty := .boolean) (by decide +kernel) rfl (Or.inr (Or.inl ⟨rfl, rfl⟩))
theorem kt_9 : ∀ pc o, cd_X0_isKept Ev pc = some o → OkOp mt Ev 9 pc o ∧ Gw o := (tN_ok (tN_ok (tN_ok (tN_ok (tL_ok ⟨k_9_0, gw_aload⟩) (tL_ok ⟨k_9_1, gw_getf⟩)) (tN_ok (tL_ok ⟨k_9_4, gw_aload⟩) (tN_ok (tL_ok ⟨k_9_5, gw_getf⟩) (tL_ok ⟨k_9_8, gw_alen⟩)))) (tN_ok (tN_ok (tL_ok ⟨k_9_9, gw_if2⟩) (tN_ok (tL_ok ⟨k_9_12, gw_push⟩) (tL_ok ⟨k_9_13, gw_ret⟩))) (tN_ok (tL_ok ⟨k_9_14, gw_aload⟩) (tN_ok (tL_ok ⟨k_9_15, gw_getf⟩) (tL_ok ⟨k_9_18, gw_aload⟩))))) (tN_ok (tN_ok (tN_ok (tL_ok ⟨k_9_19, gw_getf⟩) (tL_ok ⟨k_9_22, gw_iload⟩)) (tN_ok (tL_ok ⟨k_9_23, gw_iast⟩) (tN_ok (tL_ok ⟨k_9_24, gw_aload⟩) (tL_ok ⟨k_9_25, gw_dup⟩)))) (tN_ok (tN_ok (tL_ok ⟨k_9_26, gw_getf⟩) (tN_ok (tL_ok ⟨k_9_29, gw_push⟩) (tL_ok ⟨k_9_30, gw_ib⟩))) (tN_ok (tL_ok ⟨k_9_31, gw_putf⟩) (tN_ok (tL_ok ⟨k_9_34, gw_push⟩) (tL_ok ⟨k_9_35, gw_ret⟩))))))
theorem k_10_0 : OkOp mt Ev 10 0 (o_aload 0 1) := ok_aload_n (k := 0) (by decide +kernel) rfl
theorem k_10_1 : OkOp mt Ev 10 1 (o_getf 0 [0]) := ok_getf (i := 9) (rf := "BridgeSentences$Bridge") (nm := "text") (ds := "[B") (by decide +kernel) fc_0 wd_169
theorem k_10_4 : OkOp mt Ev 10 4 (o_aload 0 1) := ok_aload_n (k := 0) (by decide +kernel) rfl
theorem k_10_5 : OkOp mt Ev 10 5 (o_getf 2 [0]) := ok_getf (i := 29) (rf := "BridgeSentences$Bridge") (nm := "at") (ds := "I") (by decide +kernel) fc_5 wd_173
theorem k_10_8 : OkOp mt Ev 10 8 (o_iald 0) := ok_bald (by decide +kernel)
theorem k_10_9 : OkOp mt Ev 10 9 (o_iload 1 1) := ok_iload_n (k := 1) (by decide +kernel) rfl
theorem k_10_10 : OkOp mt Ev 10 10 (o_if2 (fun x y => decide (x = y)) 15) := ok_icmp_eq (off := 5) (by decide +kernel) (by decide +kernel)
theorem k_10_13 : OkOp mt Ev 10 13 (o_push (.int (0)) 1) := ok_iconst (n := 0) (by decide +kernel) (by decide +kernel)
theorem k_10_14 : OkOp mt Ev 10 14 (o_ret 1) := ok_reti (ty := .boolean) (by decide +kernel) rfl (Or.inr (Or.inl ⟨rfl, rfl⟩))
theorem k_10_15 : OkOp mt Ev 10 15 (o_aload 0 1) := ok_aload_n (k := 0) (by decide +kernel) rfl
theorem k_10_16 : OkOp mt Ev 10 16 (o_dup) := ok_dup (by decide +kernel)
theorem k_10_17 : OkOp mt Ev 10 17 (o_getf 2 [0]) := ok_getf (i := 29) (rf := "BridgeSentences$Bridge") (nm := "at") (ds := "I") (by decide +kernel) fc_5 wd_173
theorem k_10_20 : OkOp mt Ev 10 20 (o_push (.int (1)) 1) := ok_iconst (n := 1) (by decide +kernel) (by decide +kernel)
theorem k_10_21 : OkOp mt Ev 10 21 (o_ib (fun x y => x + y)) := ok_iadd (by decide +kernel)
theorem k_10_22 : OkOp mt Ev 10 22 (o_putf 2 [0] 0) := ok_putf (i := 29) (rf := "BridgeSentences$Bridge") (nm := "at") (ds := "I") (ty := .int) (fin := false) (by decide +kernel) fc_5 wd_173 (tc_0) ff_4 (by decide) (by decide +kernel) ov_int
theorem k_10_25 : OkOp mt Ev 10 25 (o_push (.int (1)) 1) := ok_iconst (n := 1) (by decide +kernel) (by decide +kernel)
theorem k_10_26 : OkOp mt Ev 10 26 (o_ret 1) := ok_reti (ty := .boolean) (by decide +kernel) rfl (Or.inr (Or.inl ⟨rfl, rfl⟩))
theorem kt_10 : ∀ pc o, cd_X0_isNext Ev pc = some o → OkOp mt Ev 10 pc o ∧ Gw o := (tN_ok (tN_ok (tN_ok (tN_ok (tL_ok ⟨k_10_0, gw_aload⟩) (tL_ok ⟨k_10_1, gw_getf⟩)) (tN_ok (tL_ok ⟨k_10_4, gw_aload⟩) (tL_ok ⟨k_10_5, gw_getf⟩))) (tN_ok (tN_ok (tL_ok ⟨k_10_8, gw_iald⟩) (tL_ok ⟨k_10_9, gw_iload⟩)) (tN_ok (tL_ok ⟨k_10_10, gw_if2⟩) (tL_ok ⟨k_10_13, gw_push⟩)))) (tN_ok (tN_ok (tN_ok (tL_ok ⟨k_10_14, gw_ret⟩) (tL_ok ⟨k_10_15, gw_aload⟩)) (tN_ok (tL_ok ⟨k_10_16, gw_dup⟩) (tL_ok ⟨k_10_17, gw_getf⟩))) (tN_ok (tN_ok (tL_ok ⟨k_10_20, gw_push⟩) (tL_ok ⟨k_10_21, gw_ib⟩)) (tN_ok (tL_ok ⟨k_10_22, gw_putf⟩) (tN_ok (tL_ok ⟨k_10_25, gw_push⟩) (tL_ok ⟨k_10_26, gw_ret⟩))))))
theorem k_11_0 : OkOp mt Ev 11 0 (o_push (.int (0)) 1) := ok_iconst (n := 0) (by decide +kernel) (by decide +kernel)
theorem k_11_1 : OkOp mt Ev 11 1 (o_istore 2 1) := ok_istore_n (k := 2) (by decide +kernel) rfl
theorem k_11_2 : OkOp mt Ev 11 2 (o_iload 2 1) := ok_iload_n (k := 2) (by decide +kernel) rfl
theorem k_11_3 : OkOp mt Ev 11 3 (o_aload 1 1) := ok_aload_n (k := 1) (by decide +kernel) rfl
theorem k_11_4 : OkOp mt Ev 11 4 (o_cstr 198 0) := ok_cstr (i := 92) (by decide +kernel) rfl nk_3 wd_578 wd_579 wd_580 wd_72 wd_581
theorem k_11_7 : OkOp mt Ev 11 7 (o_if2 (fun x y => decide (y ≤ x)) 30) := ok_icmp_ge (off := 23) (by decide +kernel) (by decide +kernel)
theorem k_11_10 : OkOp mt Ev 11 10 (o_aload 0 1) := ok_aload_n (k := 0) (by decide +kernel) rfl
theorem k_11_11 : OkOp mt Ev 11 11 (o_aload 1 1) := ok_aload_n (k := 1) (by decide +kernel) rfl
theorem k_11_12 : OkOp mt Ev 11 12 (o_iload 2 1) := ok_iload_n (k := 2) (by decide +kernel) rfl
theorem k_11_13 : OkOp mt Ev 11 13 (o_cstr 199 1) := ok_cstr (i := 94) (by decide +kernel) rfl nk_4 wd_588 wd_589 wd_590 wd_72 wd_591
theorem k_11_16 : OkOp mt Ev 11 16 (o_cv [(0, 10)] 1) := ok_cv (i := 45) (by decide +kernel) vc_65
theorem k_11_19 : OkOp mt Ev 11 19 (o_if1 (fun x => decide (¬ x = 0)) 24) := ok_if_ne (off := 5) (by decide +kernel) (by decide +kernel)
theorem k_11_22 : OkOp mt Ev 11 22 (o_push (.int (0)) 1) := ok_iconst (n := 0) (by decide +kernel) (by decide +kernel)
theorem k_11_23 : OkOp mt Ev 11 23 (o_ret 1) := ok_reti (ty := .boolean) (by decide +kernel) rfl (Or.inr (Or.inl ⟨rfl, rfl⟩))
theorem k_11_24 : OkOp mt Ev 11 24 (o_iinc 2 (1)) := ok_iinc (n := 1) (by decide +kernel) (by decide +kernel)
theorem k_11_27 : OkOp mt Ev 11 27 (o_goto 2) := ok_goto (off := -25) (by decide +kernel) (by decide +kernel)
theorem k_11_30 : OkOp mt Ev 11 30 (o_push (.int (1)) 1) := ok_iconst (n := 1) (by decide +kernel) (by decide +kernel)
theorem k_11_31 : OkOp mt Ev 11 31 (o_ret 1) := ok_reti (ty := .boolean) (by decide +kernel) rfl (Or.inr (Or.inl ⟨rfl, rfl⟩))
theorem kt_11 : ∀ pc o, cd_X0_isWord Ev pc = some o → OkOp mt Ev 11 pc o ∧ Gw o := (tN_ok (tN_ok (tN_ok (tN_ok (tL_ok ⟨k_11_0, gw_push⟩) (tL_ok ⟨k_11_1, gw_istore⟩)) (tN_ok (tL_ok ⟨k_11_2, gw_iload⟩) (tL_ok ⟨k_11_3, gw_aload⟩))) (tN_ok (tN_ok (tL_ok ⟨k_11_4, gw_cstr⟩) (tL_ok ⟨k_11_7, gw_if2⟩)) (tN_ok (tL_ok ⟨k_11_10, gw_aload⟩) (tN_ok (tL_ok ⟨k_11_11, gw_aload⟩) (tL_ok ⟨k_11_12, gw_iload⟩))))) (tN_ok (tN_ok (tN_ok (tL_ok ⟨k_11_13, gw_cstr⟩) (tL_ok ⟨k_11_16, gw_cv⟩)) (tN_ok (tL_ok ⟨k_11_19, gw_if1⟩) (tL_ok ⟨k_11_22, gw_push⟩))) (tN_ok (tN_ok (tL_ok ⟨k_11_23, gw_ret⟩) (tL_ok ⟨k_11_24, gw_iinc⟩)) (tN_ok (tL_ok ⟨k_11_27, gw_goto⟩) (tN_ok (tL_ok ⟨k_11_30, gw_push⟩) (tL_ok ⟨k_11_31, gw_ret⟩))))))
theorem k_12_0 : OkOp mt Ev 12 0 (o_push (.int (0)) 1) := ok_iconst (n := 0) (by decide +kernel) (by decide +kernel)
theorem k_12_1 : OkOp mt Ev 12 1 (o_istore 1 1) := ok_istore_n (k := 1) (by decide +kernel) rfl
theorem k_12_2 : OkOp mt Ev 12 2 (o_push (.int (0)) 1) := ok_iconst (n := 0) (by decide +kernel) (by decide +kernel)
theorem k_12_3 : OkOp mt Ev 12 3 (o_istore 2 1) := ok_istore_n (k := 2) (by decide +kernel) rfl
theorem k_12_4 : OkOp mt Ev 12 4 (o_iload 2 1) := ok_iload_n (k := 2) (by decide +kernel) rfl
theorem k_12_5 : OkOp mt Ev 12 5 (o_push (.int (2)) 1) := ok_iconst (n := 2) (by decide +kernel) (by decide +kernel)
theorem k_12_6 : OkOp mt Ev 12 6 (o_if2 (fun x y => decide (y ≤ x)) 71) := ok_icmp_ge (off := 65) (by decide +kernel) (by decide +kernel)
theorem k_12_9 : OkOp mt Ev 12 9 (o_aload 0 1) := ok_aload_n (k := 0) (by decide +kernel) rfl
theorem k_12_10 : OkOp mt Ev 12 10 (o_getf 0 [0]) := ok_getf (i := 9) (rf := "BridgeSentences$Bridge") (nm := "text") (ds := "[B") (by decide +kernel) fc_0 wd_169
theorem k_12_13 : OkOp mt Ev 12 13 (o_aload 0 1) := ok_aload_n (k := 0) (by decide +kernel) rfl
theorem k_12_14 : OkOp mt Ev 12 14 (o_getf 2 [0]) := ok_getf (i := 29) (rf := "BridgeSentences$Bridge") (nm := "at") (ds := "I") (by decide +kernel) fc_5 wd_173
theorem k_12_17 : OkOp mt Ev 12 17 (o_iald 0) := ok_bald (by decide +kernel)
theorem k_12_18 : OkOp mt Ev 12 18 (o_push (.int (48)) 2) := ok_bipush (n := 48) (by decide +kernel) (by decide +kernel)
theorem k_12_20 : OkOp mt Ev 12 20 (o_if2 (fun x y => decide (x < y)) 71) := ok_icmp_lt (off := 51) (by decide +kernel) (by decide +kernel)
theorem k_12_23 : OkOp mt Ev 12 23 (o_aload 0 1) := ok_aload_n (k := 0) (by decide +kernel) rfl
theorem k_12_24 : OkOp mt Ev 12 24 (o_getf 0 [0]) := ok_getf (i := 9) (rf := "BridgeSentences$Bridge") (nm := "text") (ds := "[B") (by decide +kernel) fc_0 wd_169
theorem k_12_27 : OkOp mt Ev 12 27 (o_aload 0 1) := ok_aload_n (k := 0) (by decide +kernel) rfl
theorem k_12_28 : OkOp mt Ev 12 28 (o_getf 2 [0]) := ok_getf (i := 29) (rf := "BridgeSentences$Bridge") (nm := "at") (ds := "I") (by decide +kernel) fc_5 wd_173
theorem k_12_31 : OkOp mt Ev 12 31 (o_iald 0) := ok_bald (by decide +kernel)
theorem k_12_32 : OkOp mt Ev 12 32 (o_push (.int (57)) 2) := ok_bipush (n := 57) (by decide +kernel) (by decide +kernel)
theorem k_12_34 : OkOp mt Ev 12 34 (o_if2 (fun x y => decide (y < x)) 71) := ok_icmp_gt (off := 37) (by decide +kernel) (by decide +kernel)
theorem k_12_37 : OkOp mt Ev 12 37 (o_iload 1 1) := ok_iload_n (k := 1) (by decide +kernel) rfl
theorem k_12_38 : OkOp mt Ev 12 38 (o_push (.int (10)) 2) := ok_bipush (n := 10) (by decide +kernel) (by decide +kernel)
theorem k_12_40 : OkOp mt Ev 12 40 (o_ib (fun x y => x * y)) := ok_imul (by decide +kernel)
theorem k_12_41 : OkOp mt Ev 12 41 (o_aload 0 1) := ok_aload_n (k := 0) (by decide +kernel) rfl
theorem k_12_42 : OkOp mt Ev 12 42 (o_getf 0 [0]) := ok_getf (i := 9) (rf := "BridgeSentences$Bridge") (nm := "text") (ds := "[B") (by decide +kernel) fc_0 wd_169
theorem k_12_45 : OkOp mt Ev 12 45 (o_aload 0 1) := ok_aload_n (k := 0) (by decide +kernel) rfl
theorem k_12_46 : OkOp mt Ev 12 46 (o_getf 2 [0]) := ok_getf (i := 29) (rf := "BridgeSentences$Bridge") (nm := "at") (ds := "I") (by decide +kernel) fc_5 wd_173
theorem k_12_49 : OkOp mt Ev 12 49 (o_iald 0) := ok_bald (by decide +kernel)
theorem k_12_50 : OkOp mt Ev 12 50 (o_ib (fun x y => x + y)) := ok_iadd (by decide +kernel)
theorem k_12_51 : OkOp mt Ev 12 51 (o_push (.int (48)) 2) := ok_bipush (n := 48) (by decide +kernel) (by decide +kernel)
theorem k_12_53 : OkOp mt Ev 12 53 (o_ib (fun x y => x - y)) := ok_isub (by decide +kernel)
theorem k_12_54 : OkOp mt Ev 12 54 (o_istore 1 1) := ok_istore_n (k := 1) (by decide +kernel) rfl
theorem k_12_55 : OkOp mt Ev 12 55 (o_aload 0 1) := ok_aload_n (k := 0) (by decide +kernel) rfl
theorem k_12_56 : OkOp mt Ev 12 56 (o_dup) := ok_dup (by decide +kernel)
theorem k_12_57 : OkOp mt Ev 12 57 (o_getf 2 [0]) := ok_getf (i := 29) (rf := "BridgeSentences$Bridge") (nm := "at") (ds := "I") (by decide +kernel) fc_5 wd_173
theorem k_12_60 : OkOp mt Ev 12 60 (o_push (.int (1)) 1) := ok_iconst (n := 1) (by decide +kernel) (by decide +kernel)
theorem k_12_61 : OkOp mt Ev 12 61 (o_ib (fun x y => x + y)) := ok_iadd (by decide +kernel)
theorem k_12_62 : OkOp mt Ev 12 62 (o_putf 2 [0] 0) := ok_putf (i := 29) (rf := "BridgeSentences$Bridge") (nm := "at") (ds := "I") (ty := .int) (fin := false) (by decide +kernel) fc_5 wd_173 (tc_0) ff_4 (by decide) (by decide +kernel) ov_int
theorem k_12_65 : OkOp mt Ev 12 65 (o_iinc 2 (1)) := ok_iinc (n := 1) (by decide +kernel) (by decide +kernel)
theorem k_12_68 : OkOp mt Ev 12 68 (o_goto 4) := ok_goto (off := -64) (by decide +kernel) (by decide +kernel)
theorem k_12_71 : OkOp mt Ev 12 71 (o_iload 2 1) := ok_iload_n (k := 2) (by decide +kernel) rfl
theorem k_12_72 : OkOp mt Ev 12 72 (o_if1 (fun x => decide (¬ x = 0)) 79) := ok_if_ne (off := 7) (by decide +kernel) (by decide +kernel)
theorem k_12_75 : OkOp mt Ev 12 75 (o_push (.int (-1)) 1) := ok_iconst (n := -1) (by decide +kernel) (by decide +kernel)
theorem k_12_76 : OkOp mt Ev 12 76 (o_goto 80) := ok_goto (off := 4) (by decide +kernel) (by decide +kernel)
theorem k_12_79 : OkOp mt Ev 12 79 (o_iload 1 1) := ok_iload_n (k := 1) (by decide +kernel) rfl
theorem k_12_80 : OkOp mt Ev 12 80 (o_ret 0) := ok_reti (ty := .int) (by decide +kernel) rfl (Or.inl ⟨rfl, rfl⟩)
theorem kt_12 : ∀ pc o, cd_X0_number Ev pc = some o → OkOp mt Ev 12 pc o ∧ Gw o := (tN_ok (tN_ok (tN_ok (tN_ok (tN_ok (tL_ok ⟨k_12_0, gw_push⟩) (tL_ok ⟨k_12_1, gw_istore⟩)) (tN_ok (tL_ok ⟨k_12_2, gw_push⟩) (tN_ok (tL_ok ⟨k_12_3, gw_istore⟩) (tL_ok ⟨k_12_4, gw_iload⟩)))) (tN_ok (tN_ok (tL_ok ⟨k_12_5, gw_push⟩) (tN_ok (tL_ok ⟨k_12_6, gw_if2⟩) (tL_ok ⟨k_12_9, gw_aload⟩))) (tN_ok (tL_ok ⟨k_12_10, gw_getf⟩) (tN_ok (tL_ok ⟨k_12_13, gw_aload⟩) (tL_ok ⟨k_12_14, gw_getf⟩))))) (tN_ok (tN_ok (tN_ok (tL_ok ⟨k_12_17, gw_iald⟩) (tN_ok (tL_ok ⟨k_12_18, gw_push⟩) (tL_ok ⟨k_12_20, gw_if2⟩))) (tN_ok (tL_ok ⟨k_12_23, gw_aload⟩) (tN_ok (tL_ok ⟨k_12_24, gw_getf⟩) (tL_ok ⟨k_12_27, gw_aload⟩)))) (tN_ok (tN_ok (tL_ok ⟨k_12_28, gw_getf⟩) (tN_ok (tL_ok ⟨k_12_31, gw_iald⟩) (tL_ok ⟨k_12_32, gw_push⟩))) (tN_ok (tL_ok ⟨k_12_34, gw_if2⟩) (tN_ok (tL_ok ⟨k_12_37, gw_iload⟩) (tL_ok ⟨k_12_38, gw_push⟩)))))) (tN_ok (tN_ok (tN_ok (tN_ok (tL_ok ⟨k_12_40, gw_ib⟩) (tN_ok (tL_ok ⟨k_12_41, gw_aload⟩) (tL_ok ⟨k_12_42, gw_getf⟩))) (tN_ok (tL_ok ⟨k_12_45, gw_aload⟩) (tN_ok (tL_ok ⟨k_12_46, gw_getf⟩) (tL_ok ⟨k_12_49, gw_iald⟩)))) (tN_ok (tN_ok (tL_ok ⟨k_12_50, gw_ib⟩) (tN_ok (tL_ok ⟨k_12_51, gw_push⟩) (tL_ok ⟨k_12_53, gw_ib⟩))) (tN_ok (tL_ok ⟨k_12_54, gw_istore⟩) (tN_ok (tL_ok ⟨k_12_55, gw_aload⟩) (tL_ok ⟨k_12_56, gw_dup⟩))))) (tN_ok (tN_ok (tN_ok (tL_ok ⟨k_12_57, gw_getf⟩) (tN_ok (tL_ok ⟨k_12_60, gw_push⟩) (tL_ok ⟨k_12_61, gw_ib⟩))) (tN_ok (tL_ok ⟨k_12_62, gw_putf⟩) (tN_ok (tL_ok ⟨k_12_65, gw_iinc⟩) (tL_ok ⟨k_12_68, gw_goto⟩)))) (tN_ok (tN_ok (tL_ok ⟨k_12_71, gw_iload⟩) (tN_ok (tL_ok ⟨k_12_72, gw_if1⟩) (tL_ok ⟨k_12_75, gw_push⟩))) (tN_ok (tL_ok ⟨k_12_76, gw_goto⟩) (tN_ok (tL_ok ⟨k_12_79, gw_iload⟩) (tL_ok ⟨k_12_80, gw_ret⟩)))))))
end
