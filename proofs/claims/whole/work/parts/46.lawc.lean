section LAWC
variable {E : hg_Wd} {p : Program} {l : Launch} {e : Env} {s : State} {m : MethodId} {args : Array Value} {below : List Frame} {meth : Method} {c : Code} {Q : State → Prop} {σ : hg_Mem} {S : sp_S} {b L i : Nat} {xs : Nat → Int32}
set_option maxHeartbeats 4000000 in
set_option maxRecDepth 100000 in
theorem lc_0 (cx : hl_Cx E p s m args c b L xs) (hI : hl_I σ S) (hi : i + 6 ≤ L) (hL : L ≤ 3072) (kk : ∀ τ S', hl_I τ S' → gg_G (hl_P E τ) (hg_AW E) 60 1091 p l e room_1 s m args below meth c 4 Q 1224 [some (.ref b), some (.ref (hg_ad E 0)), some (.ref (hg_ad E 50)), some (.int (nI i))] []) : gg_G (hl_P E σ) (hg_AW E) 60 1091 p l e room_1 s m args below meth c 4 Q 188 [some (.ref b), some (.ref (hg_ad E 0)), some (.ref (hg_ad E 50)), some (.int (nI i))] [] := by
  have gx := cx.g
  refine gg_aload1 (pc' := 189) gx dL_law_188 rfl ?_
  refine gg_aload0 (pc' := 190) gx dL_law_189 rfl ?_
  refine gg_iload3 (pc' := 191) gx dL_law_190 rfl ?_
  refine gg_iconst (pc' := 192) gx (nI 1) dL_law_191 (by decide) rfl ?_
  refine gg_iadd (pc' := 193) gx dL_law_192 rfl ?_
  rw [nI_add]
  refine hl_sld (pc' := 194) cx (by omega) hL dL_law_193 rfl ?_
  refine gg_aload0 (pc' := 195) gx dL_law_194 rfl ?_
  refine gg_iload3 (pc' := 196) gx dL_law_195 rfl ?_
  refine gg_iconst (pc' := 197) gx (nI 2) dL_law_196 (by decide) rfl ?_
  refine gg_iadd (pc' := 198) gx dL_law_197 rfl ?_
  rw [nI_add]
  refine hl_sld (pc' := 199) cx (by omega) hL dL_law_198 rfl ?_
  refine clL_13 (pc' := 202) cx ⟨Nat.le_of_ble_eq_true rfl, Nat.le_of_ble_eq_true rfl⟩ (K_X5_holds l E _ S hI.1 _ _) ⟨rfl, rfl, Nat.le_of_ble_eq_true rfl, Nat.le_of_ble_eq_true rfl⟩ (Nat.le_of_ble_eq_true rfl) dL_law_199 rfl (fun r1 τ1 h1 => ?_)
  have hM1 := hI.2.1.frC h1.2.2
  refine gg_aload2 (pc' := 203) gx dL_law_202 rfl ?_
  refine gg_aload0 (pc' := 204) gx dL_law_203 rfl ?_
  refine gg_iload3 (pc' := 205) gx dL_law_204 rfl ?_
  refine gg_iconst (pc' := 206) gx (nI 1) dL_law_205 (by decide) rfl ?_
  refine gg_iadd (pc' := 207) gx dL_law_206 rfl ?_
  rw [nI_add]
  refine hl_sld (pc' := 208) cx (by omega) hL dL_law_207 rfl ?_
  refine gg_aload0 (pc' := 209) gx dL_law_208 rfl ?_
  refine gg_iload3 (pc' := 210) gx dL_law_209 rfl ?_
  refine gg_iconst (pc' := 211) gx (nI 2) dL_law_210 (by decide) rfl ?_
  refine gg_iadd (pc' := 212) gx dL_law_211 rfl ?_
  rw [nI_add]
  refine hl_sld (pc' := 213) cx (by omega) hL dL_law_212 rfl ?_
  refine clL_17 (pc' := 216) cx ⟨Nat.le_of_ble_eq_true rfl, Nat.le_of_ble_eq_true rfl⟩ (K_X6_holds l E _ S hM1 hI.2.2 _ _) ⟨rfl, rfl, Nat.le_of_ble_eq_true rfl, Nat.le_of_ble_eq_true rfl⟩ (Nat.le_of_ble_eq_true rfl) dL_law_213 rfl (fun r2 τ2 h2 => ?_)
  refine gg_icmp_eq (pc' := 219) gx 1224 dL_law_216 (by decide) rfl (fun _ => kk τ2 _ ⟨h1.2.1.frM h2.2.2, h2.2.1, kp_holds hI.2.2 _ _⟩) (fun z => absurd (h1.1.trans h2.1.symm) z)
set_option maxHeartbeats 4000000 in
set_option maxRecDepth 100000 in
theorem lc_1 (cx : hl_Cx E p s m args c b L xs) (hI : hl_I σ S) (hi : i + 6 ≤ L) (hL : L ≤ 3072) (kk : ∀ τ S', hl_I τ S' → gg_G (hl_P E τ) (hg_AW E) 60 1091 p l e room_1 s m args below meth c 4 Q 1224 [some (.ref b), some (.ref (hg_ad E 0)), some (.ref (hg_ad E 50)), some (.int (nI i))] []) : gg_G (hl_P E σ) (hg_AW E) 60 1091 p l e room_1 s m args below meth c 4 Q 221 [some (.ref b), some (.ref (hg_ad E 0)), some (.ref (hg_ad E 50)), some (.int (nI i))] [] := by
  have gx := cx.g
  refine gg_aload1 (pc' := 222) gx dL_law_221 rfl ?_
  refine gg_aload0 (pc' := 223) gx dL_law_222 rfl ?_
  refine gg_iload3 (pc' := 224) gx dL_law_223 rfl ?_
  refine gg_iconst (pc' := 225) gx (nI 1) dL_law_224 (by decide) rfl ?_
  refine gg_iadd (pc' := 226) gx dL_law_225 rfl ?_
  rw [nI_add]
  refine hl_sld (pc' := 227) cx (by omega) hL dL_law_226 rfl ?_
  refine clL_18 (pc' := 230) cx ⟨Nat.le_of_ble_eq_true rfl, Nat.le_of_ble_eq_true rfl⟩ (K_X5_now l E _ S hI.1 _) ⟨rfl, rfl, Nat.le_of_ble_eq_true rfl, Nat.le_of_ble_eq_true rfl⟩ (Nat.le_of_ble_eq_true rfl) dL_law_227 rfl (fun r1 τ1 h1 => ?_)
  have hM1 := hI.2.1.frC h1.2.2
  refine gg_aload2 (pc' := 231) gx dL_law_230 rfl ?_
  refine gg_aload0 (pc' := 232) gx dL_law_231 rfl ?_
  refine gg_iload3 (pc' := 233) gx dL_law_232 rfl ?_
  refine gg_iconst (pc' := 234) gx (nI 1) dL_law_233 (by decide) rfl ?_
  refine gg_iadd (pc' := 235) gx dL_law_234 rfl ?_
  rw [nI_add]
  refine hl_sld (pc' := 236) cx (by omega) hL dL_law_235 rfl ?_
  refine clL_22 (pc' := 239) cx ⟨Nat.le_of_ble_eq_true rfl, Nat.le_of_ble_eq_true rfl⟩ (K_X6_now l E _ S hM1 hI.2.2 _) ⟨rfl, rfl, Nat.le_of_ble_eq_true rfl, Nat.le_of_ble_eq_true rfl⟩ (Nat.le_of_ble_eq_true rfl) dL_law_236 rfl (fun r2 τ2 h2 => ?_)
  refine gg_icmp_eq (pc' := 242) gx 1224 dL_law_239 (by decide) rfl (fun _ => kk τ2 _ ⟨h1.2.1.frM h2.2.2, h2.2.1, kp_now hI.2.2 _⟩) (fun z => absurd (h1.1.trans h2.1.symm) z)
set_option maxHeartbeats 4000000 in
set_option maxRecDepth 100000 in
theorem lc_2 (cx : hl_Cx E p s m args c b L xs) (hI : hl_I σ S) (hi : i + 6 ≤ L) (hL : L ≤ 3072) (kk : ∀ τ S', hl_I τ S' → gg_G (hl_P E τ) (hg_AW E) 60 1091 p l e room_1 s m args below meth c 4 Q 1224 [some (.ref b), some (.ref (hg_ad E 0)), some (.ref (hg_ad E 50)), some (.int (nI i))] []) : gg_G (hl_P E σ) (hg_AW E) 60 1091 p l e room_1 s m args below meth c 4 Q 244 [some (.ref b), some (.ref (hg_ad E 0)), some (.ref (hg_ad E 50)), some (.int (nI i))] [] := by
  have gx := cx.g
  refine gg_aload1 (pc' := 245) gx dL_law_244 rfl ?_
  refine gg_aload0 (pc' := 246) gx dL_law_245 rfl ?_
  refine gg_iload3 (pc' := 247) gx dL_law_246 rfl ?_
  refine gg_iconst (pc' := 248) gx (nI 1) dL_law_247 (by decide) rfl ?_
  refine gg_iadd (pc' := 249) gx dL_law_248 rfl ?_
  rw [nI_add]
  refine hl_sld (pc' := 250) cx (by omega) hL dL_law_249 rfl ?_
  refine gg_aload0 (pc' := 251) gx dL_law_250 rfl ?_
  refine gg_iload3 (pc' := 252) gx dL_law_251 rfl ?_
  refine gg_iconst (pc' := 253) gx (nI 2) dL_law_252 (by decide) rfl ?_
  refine gg_iadd (pc' := 254) gx dL_law_253 rfl ?_
  rw [nI_add]
  refine hl_sld (pc' := 255) cx (by omega) hL dL_law_254 rfl ?_
  refine clL_23 (pc' := 258) cx ⟨Nat.le_of_ble_eq_true rfl, Nat.le_of_ble_eq_true rfl⟩ (K_X5_hat l E _ S hI.1 _ _) ⟨rfl, rfl, Nat.le_of_ble_eq_true rfl, Nat.le_of_ble_eq_true rfl⟩ (Nat.le_of_ble_eq_true rfl) dL_law_255 rfl (fun r1 τ1 h1 => ?_)
  have hM1 := hI.2.1.frC h1.2.2
  refine gg_aload2 (pc' := 259) gx dL_law_258 rfl ?_
  refine gg_aload0 (pc' := 260) gx dL_law_259 rfl ?_
  refine gg_iload3 (pc' := 261) gx dL_law_260 rfl ?_
  refine gg_iconst (pc' := 262) gx (nI 1) dL_law_261 (by decide) rfl ?_
  refine gg_iadd (pc' := 263) gx dL_law_262 rfl ?_
  rw [nI_add]
  refine hl_sld (pc' := 264) cx (by omega) hL dL_law_263 rfl ?_
  refine gg_aload0 (pc' := 265) gx dL_law_264 rfl ?_
  refine gg_iload3 (pc' := 266) gx dL_law_265 rfl ?_
  refine gg_iconst (pc' := 267) gx (nI 2) dL_law_266 (by decide) rfl ?_
  refine gg_iadd (pc' := 268) gx dL_law_267 rfl ?_
  rw [nI_add]
  refine hl_sld (pc' := 269) cx (by omega) hL dL_law_268 rfl ?_
  refine clL_26 (pc' := 272) cx ⟨Nat.le_of_ble_eq_true rfl, Nat.le_of_ble_eq_true rfl⟩ (K_X6_hat l E _ S hM1 hI.2.2 _ _) ⟨rfl, rfl, Nat.le_of_ble_eq_true rfl, Nat.le_of_ble_eq_true rfl⟩ (Nat.le_of_ble_eq_true rfl) dL_law_269 rfl (fun r2 τ2 h2 => ?_)
  refine gg_icmp_eq (pc' := 275) gx 1224 dL_law_272 (by decide) rfl (fun _ => kk τ2 _ ⟨h1.2.1.frM h2.2.2, h2.2.1, kp_hat hI.2.2 _ _⟩) (fun z => absurd (h1.1.trans h2.1.symm) z)
set_option maxHeartbeats 4000000 in
set_option maxRecDepth 100000 in
theorem lc_3 (cx : hl_Cx E p s m args c b L xs) (hI : hl_I σ S) (hi : i + 6 ≤ L) (hL : L ≤ 3072) (kk : ∀ τ S', hl_I τ S' → gg_G (hl_P E τ) (hg_AW E) 60 1091 p l e room_1 s m args below meth c 4 Q 1224 [some (.ref b), some (.ref (hg_ad E 0)), some (.ref (hg_ad E 50)), some (.int (nI i))] []) : gg_G (hl_P E σ) (hg_AW E) 60 1091 p l e room_1 s m args below meth c 4 Q 277 [some (.ref b), some (.ref (hg_ad E 0)), some (.ref (hg_ad E 50)), some (.int (nI i))] [] := by
  have gx := cx.g
  refine gg_aload1 (pc' := 278) gx dL_law_277 rfl ?_
  refine gg_aload0 (pc' := 279) gx dL_law_278 rfl ?_
  refine gg_iload3 (pc' := 280) gx dL_law_279 rfl ?_
  refine gg_iconst (pc' := 281) gx (nI 1) dL_law_280 (by decide) rfl ?_
  refine gg_iadd (pc' := 282) gx dL_law_281 rfl ?_
  rw [nI_add]
  refine hl_sld (pc' := 283) cx (by omega) hL dL_law_282 rfl ?_
  refine gg_aload0 (pc' := 284) gx dL_law_283 rfl ?_
  refine gg_iload3 (pc' := 285) gx dL_law_284 rfl ?_
  refine gg_iconst (pc' := 286) gx (nI 2) dL_law_285 (by decide) rfl ?_
  refine gg_iadd (pc' := 287) gx dL_law_286 rfl ?_
  rw [nI_add]
  refine hl_sld (pc' := 288) cx (by omega) hL dL_law_287 rfl ?_
  refine clL_27 (pc' := 291) cx ⟨Nat.le_of_ble_eq_true rfl, Nat.le_of_ble_eq_true rfl⟩ (K_X5_of l E _ S hI.1 _ _) ⟨rfl, rfl, Nat.le_of_ble_eq_true rfl, Nat.le_of_ble_eq_true rfl⟩ (Nat.le_of_ble_eq_true rfl) dL_law_288 rfl (fun r1 τ1 h1 => ?_)
  have hM1 := hI.2.1.frC h1.2.2
  refine gg_aload2 (pc' := 292) gx dL_law_291 rfl ?_
  refine gg_aload0 (pc' := 293) gx dL_law_292 rfl ?_
  refine gg_iload3 (pc' := 294) gx dL_law_293 rfl ?_
  refine gg_iconst (pc' := 295) gx (nI 1) dL_law_294 (by decide) rfl ?_
  refine gg_iadd (pc' := 296) gx dL_law_295 rfl ?_
  rw [nI_add]
  refine hl_sld (pc' := 297) cx (by omega) hL dL_law_296 rfl ?_
  refine gg_aload0 (pc' := 298) gx dL_law_297 rfl ?_
  refine gg_iload3 (pc' := 299) gx dL_law_298 rfl ?_
  refine gg_iconst (pc' := 300) gx (nI 2) dL_law_299 (by decide) rfl ?_
  refine gg_iadd (pc' := 301) gx dL_law_300 rfl ?_
  rw [nI_add]
  refine hl_sld (pc' := 302) cx (by omega) hL dL_law_301 rfl ?_
  refine clL_30 (pc' := 305) cx ⟨Nat.le_of_ble_eq_true rfl, Nat.le_of_ble_eq_true rfl⟩ (K_X6_of l E _ S hM1 hI.2.2 _ _) ⟨rfl, rfl, Nat.le_of_ble_eq_true rfl, Nat.le_of_ble_eq_true rfl⟩ (Nat.le_of_ble_eq_true rfl) dL_law_302 rfl (fun r2 τ2 h2 => ?_)
  refine gg_icmp_eq (pc' := 308) gx 1224 dL_law_305 (by decide) rfl (fun _ => kk τ2 _ ⟨h1.2.1.frM h2.2.2, h2.2.1, kp_of hI.2.2 _ _⟩) (fun z => absurd (h1.1.trans h2.1.symm) z)
set_option maxHeartbeats 4000000 in
set_option maxRecDepth 100000 in
theorem lc_4 (cx : hl_Cx E p s m args c b L xs) (hI : hl_I σ S) (hi : i + 6 ≤ L) (hL : L ≤ 3072) (kk : ∀ τ S', hl_I τ S' → gg_G (hl_P E τ) (hg_AW E) 60 1091 p l e room_1 s m args below meth c 4 Q 1224 [some (.ref b), some (.ref (hg_ad E 0)), some (.ref (hg_ad E 50)), some (.int (nI i))] []) : gg_G (hl_P E σ) (hg_AW E) 60 1091 p l e room_1 s m args below meth c 4 Q 310 [some (.ref b), some (.ref (hg_ad E 0)), some (.ref (hg_ad E 50)), some (.int (nI i))] [] := by
  have gx := cx.g
  refine gg_aload1 (pc' := 311) gx dL_law_310 rfl ?_
  refine gg_aload0 (pc' := 312) gx dL_law_311 rfl ?_
  refine gg_iload3 (pc' := 313) gx dL_law_312 rfl ?_
  refine gg_iconst (pc' := 314) gx (nI 1) dL_law_313 (by decide) rfl ?_
  refine gg_iadd (pc' := 315) gx dL_law_314 rfl ?_
  rw [nI_add]
  refine hl_sld (pc' := 316) cx (by omega) hL dL_law_315 rfl ?_
  refine gg_aload0 (pc' := 317) gx dL_law_316 rfl ?_
  refine gg_iload3 (pc' := 318) gx dL_law_317 rfl ?_
  refine gg_iconst (pc' := 319) gx (nI 2) dL_law_318 (by decide) rfl ?_
  refine gg_iadd (pc' := 320) gx dL_law_319 rfl ?_
  rw [nI_add]
  refine hl_sld (pc' := 321) cx (by omega) hL dL_law_320 rfl ?_
  refine clL_31 (pc' := 324) cx ⟨Nat.le_of_ble_eq_true rfl, Nat.le_of_ble_eq_true rfl⟩ (K_X5_says l E _ S hI.1 _ _) ⟨rfl, rfl, Nat.le_of_ble_eq_true rfl, Nat.le_of_ble_eq_true rfl⟩ (Nat.le_of_ble_eq_true rfl) dL_law_321 rfl (fun r1 τ1 h1 => ?_)
  have hM1 := hI.2.1.frC h1.2.2
  refine gg_aload2 (pc' := 325) gx dL_law_324 rfl ?_
  refine gg_aload0 (pc' := 326) gx dL_law_325 rfl ?_
  refine gg_iload3 (pc' := 327) gx dL_law_326 rfl ?_
  refine gg_iconst (pc' := 328) gx (nI 1) dL_law_327 (by decide) rfl ?_
  refine gg_iadd (pc' := 329) gx dL_law_328 rfl ?_
  rw [nI_add]
  refine hl_sld (pc' := 330) cx (by omega) hL dL_law_329 rfl ?_
  refine gg_aload0 (pc' := 331) gx dL_law_330 rfl ?_
  refine gg_iload3 (pc' := 332) gx dL_law_331 rfl ?_
  refine gg_iconst (pc' := 333) gx (nI 2) dL_law_332 (by decide) rfl ?_
  refine gg_iadd (pc' := 334) gx dL_law_333 rfl ?_
  rw [nI_add]
  refine hl_sld (pc' := 335) cx (by omega) hL dL_law_334 rfl ?_
  refine clL_34 (pc' := 338) cx ⟨Nat.le_of_ble_eq_true rfl, Nat.le_of_ble_eq_true rfl⟩ (K_X6_says l E _ S hM1 hI.2.2 _ _) ⟨rfl, rfl, Nat.le_of_ble_eq_true rfl, Nat.le_of_ble_eq_true rfl⟩ (Nat.le_of_ble_eq_true rfl) dL_law_335 rfl (fun r2 τ2 h2 => ?_)
  refine gg_icmp_eq (pc' := 341) gx 1224 dL_law_338 (by decide) rfl (fun _ => kk τ2 _ ⟨h1.2.1.frM h2.2.2, h2.2.1, kp_says hI.2.2 _ _⟩) (fun z => absurd (h1.1.trans h2.1.symm) z)
set_option maxHeartbeats 4000000 in
set_option maxRecDepth 100000 in
theorem lc_5 (cx : hl_Cx E p s m args c b L xs) (hI : hl_I σ S) (hi : i + 6 ≤ L) (hL : L ≤ 3072) (kk : ∀ τ S', hl_I τ S' → gg_G (hl_P E τ) (hg_AW E) 60 1091 p l e room_1 s m args below meth c 4 Q 1224 [some (.ref b), some (.ref (hg_ad E 0)), some (.ref (hg_ad E 50)), some (.int (nI i))] []) : gg_G (hl_P E σ) (hg_AW E) 60 1091 p l e room_1 s m args below meth c 4 Q 343 [some (.ref b), some (.ref (hg_ad E 0)), some (.ref (hg_ad E 50)), some (.int (nI i))] [] := by
  have gx := cx.g
  refine gg_aload1 (pc' := 344) gx dL_law_343 rfl ?_
  refine gg_aload0 (pc' := 345) gx dL_law_344 rfl ?_
  refine gg_iload3 (pc' := 346) gx dL_law_345 rfl ?_
  refine gg_iconst (pc' := 347) gx (nI 1) dL_law_346 (by decide) rfl ?_
  refine gg_iadd (pc' := 348) gx dL_law_347 rfl ?_
  rw [nI_add]
  refine hl_sld (pc' := 349) cx (by omega) hL dL_law_348 rfl ?_
  refine gg_aload0 (pc' := 350) gx dL_law_349 rfl ?_
  refine gg_iload3 (pc' := 351) gx dL_law_350 rfl ?_
  refine gg_iconst (pc' := 352) gx (nI 2) dL_law_351 (by decide) rfl ?_
  refine gg_iadd (pc' := 353) gx dL_law_352 rfl ?_
  rw [nI_add]
  refine hl_sld (pc' := 354) cx (by omega) hL dL_law_353 rfl ?_
  refine gg_aload0 (pc' := 355) gx dL_law_354 rfl ?_
  refine gg_iload3 (pc' := 356) gx dL_law_355 rfl ?_
  refine gg_iconst (pc' := 357) gx (nI 3) dL_law_356 (by decide) rfl ?_
  refine gg_iadd (pc' := 358) gx dL_law_357 rfl ?_
  rw [nI_add]
  refine hl_sld (pc' := 359) cx (by omega) hL dL_law_358 rfl ?_
  refine clL_35 (pc' := 362) cx ⟨Nat.le_of_ble_eq_true rfl, Nat.le_of_ble_eq_true rfl⟩ (K_X5_set l E _ S hI.1 _ _ _) ⟨rfl, rfl, Nat.le_of_ble_eq_true rfl, Nat.le_of_ble_eq_true rfl⟩ (Nat.le_of_ble_eq_true rfl) dL_law_359 rfl (fun r1 τ1 h1 => ?_)
  have hM1 := hI.2.1.frC h1.2.2
  refine gg_aload2 (pc' := 363) gx dL_law_362 rfl ?_
  refine gg_aload0 (pc' := 364) gx dL_law_363 rfl ?_
  refine gg_iload3 (pc' := 365) gx dL_law_364 rfl ?_
  refine gg_iconst (pc' := 366) gx (nI 1) dL_law_365 (by decide) rfl ?_
  refine gg_iadd (pc' := 367) gx dL_law_366 rfl ?_
  rw [nI_add]
  refine hl_sld (pc' := 368) cx (by omega) hL dL_law_367 rfl ?_
  refine gg_aload0 (pc' := 369) gx dL_law_368 rfl ?_
  refine gg_iload3 (pc' := 370) gx dL_law_369 rfl ?_
  refine gg_iconst (pc' := 371) gx (nI 2) dL_law_370 (by decide) rfl ?_
  refine gg_iadd (pc' := 372) gx dL_law_371 rfl ?_
  rw [nI_add]
  refine hl_sld (pc' := 373) cx (by omega) hL dL_law_372 rfl ?_
  refine gg_aload0 (pc' := 374) gx dL_law_373 rfl ?_
  refine gg_iload3 (pc' := 375) gx dL_law_374 rfl ?_
  refine gg_iconst (pc' := 376) gx (nI 3) dL_law_375 (by decide) rfl ?_
  refine gg_iadd (pc' := 377) gx dL_law_376 rfl ?_
  rw [nI_add]
  refine hl_sld (pc' := 378) cx (by omega) hL dL_law_377 rfl ?_
  refine clL_39 (pc' := 381) cx ⟨Nat.le_of_ble_eq_true rfl, Nat.le_of_ble_eq_true rfl⟩ (K_X6_set l E _ S hM1 hI.2.2 _ _ _) ⟨rfl, rfl, Nat.le_of_ble_eq_true rfl, Nat.le_of_ble_eq_true rfl⟩ (Nat.le_of_ble_eq_true rfl) dL_law_378 rfl (fun r2 τ2 h2 => ?_)
  refine gg_icmp_eq (pc' := 384) gx 1224 dL_law_381 (by decide) rfl (fun _ => kk τ2 _ ⟨h1.2.1.frM h2.2.2, h2.2.1, kp_set hI.2.2 _ _ _⟩) (fun z => absurd (h1.1.trans h2.1.symm) z)
set_option maxHeartbeats 4000000 in
set_option maxRecDepth 100000 in
theorem lc_6 (cx : hl_Cx E p s m args c b L xs) (hI : hl_I σ S) (hi : i + 6 ≤ L) (hL : L ≤ 3072) (kk : ∀ τ S', hl_I τ S' → gg_G (hl_P E τ) (hg_AW E) 60 1091 p l e room_1 s m args below meth c 4 Q 1224 [some (.ref b), some (.ref (hg_ad E 0)), some (.ref (hg_ad E 50)), some (.int (nI i))] []) : gg_G (hl_P E σ) (hg_AW E) 60 1091 p l e room_1 s m args below meth c 4 Q 386 [some (.ref b), some (.ref (hg_ad E 0)), some (.ref (hg_ad E 50)), some (.int (nI i))] [] := by
  have gx := cx.g
  refine gg_aload1 (pc' := 387) gx dL_law_386 rfl ?_
  refine gg_aload0 (pc' := 388) gx dL_law_387 rfl ?_
  refine gg_iload3 (pc' := 389) gx dL_law_388 rfl ?_
  refine gg_iconst (pc' := 390) gx (nI 1) dL_law_389 (by decide) rfl ?_
  refine gg_iadd (pc' := 391) gx dL_law_390 rfl ?_
  rw [nI_add]
  refine hl_sld (pc' := 392) cx (by omega) hL dL_law_391 rfl ?_
  refine gg_aload0 (pc' := 393) gx dL_law_392 rfl ?_
  refine gg_iload3 (pc' := 394) gx dL_law_393 rfl ?_
  refine gg_iconst (pc' := 395) gx (nI 2) dL_law_394 (by decide) rfl ?_
  refine gg_iadd (pc' := 396) gx dL_law_395 rfl ?_
  rw [nI_add]
  refine hl_sld (pc' := 397) cx (by omega) hL dL_law_396 rfl ?_
  refine clL_40 (pc' := 400) cx ⟨Nat.le_of_ble_eq_true rfl, Nat.le_of_ble_eq_true rfl⟩ (K_X5_turn l E _ S hI.1 _ _) ⟨rfl, rfl, Nat.le_of_ble_eq_true rfl, Nat.le_of_ble_eq_true rfl⟩ (Nat.le_of_ble_eq_true rfl) dL_law_397 rfl (fun r1 τ1 h1 => ?_)
  have hM1 := hI.2.1.frC h1.2.2
  refine gg_aload2 (pc' := 401) gx dL_law_400 rfl ?_
  refine gg_aload0 (pc' := 402) gx dL_law_401 rfl ?_
  refine gg_iload3 (pc' := 403) gx dL_law_402 rfl ?_
  refine gg_iconst (pc' := 404) gx (nI 1) dL_law_403 (by decide) rfl ?_
  refine gg_iadd (pc' := 405) gx dL_law_404 rfl ?_
  rw [nI_add]
  refine hl_sld (pc' := 406) cx (by omega) hL dL_law_405 rfl ?_
  refine gg_aload0 (pc' := 407) gx dL_law_406 rfl ?_
  refine gg_iload3 (pc' := 408) gx dL_law_407 rfl ?_
  refine gg_iconst (pc' := 409) gx (nI 2) dL_law_408 (by decide) rfl ?_
  refine gg_iadd (pc' := 410) gx dL_law_409 rfl ?_
  rw [nI_add]
  refine hl_sld (pc' := 411) cx (by omega) hL dL_law_410 rfl ?_
  refine clL_43 (pc' := 414) cx ⟨Nat.le_of_ble_eq_true rfl, Nat.le_of_ble_eq_true rfl⟩ (K_X6_turn l E _ S hM1 hI.2.2 _ _) ⟨rfl, rfl, Nat.le_of_ble_eq_true rfl, Nat.le_of_ble_eq_true rfl⟩ (Nat.le_of_ble_eq_true rfl) dL_law_411 rfl (fun r2 τ2 h2 => ?_)
  refine gg_icmp_eq (pc' := 417) gx 1224 dL_law_414 (by decide) rfl (fun _ => kk τ2 _ ⟨h1.2.1.frM h2.2.2, h2.2.1, kp_turn hI.2.2 _ _⟩) (fun z => absurd (h1.1.trans h2.1.symm) z)
set_option maxHeartbeats 4000000 in
set_option maxRecDepth 100000 in
theorem lc_7 (cx : hl_Cx E p s m args c b L xs) (hI : hl_I σ S) (hi : i + 6 ≤ L) (hL : L ≤ 3072) (kk : ∀ τ S', hl_I τ S' → gg_G (hl_P E τ) (hg_AW E) 60 1091 p l e room_1 s m args below meth c 4 Q 1224 [some (.ref b), some (.ref (hg_ad E 0)), some (.ref (hg_ad E 50)), some (.int (nI i))] []) : gg_G (hl_P E σ) (hg_AW E) 60 1091 p l e room_1 s m args below meth c 4 Q 419 [some (.ref b), some (.ref (hg_ad E 0)), some (.ref (hg_ad E 50)), some (.int (nI i))] [] := by
  have gx := cx.g
  refine gg_aload1 (pc' := 420) gx dL_law_419 rfl ?_
  refine gg_aload0 (pc' := 421) gx dL_law_420 rfl ?_
  refine gg_iload3 (pc' := 422) gx dL_law_421 rfl ?_
  refine gg_iconst (pc' := 423) gx (nI 1) dL_law_422 (by decide) rfl ?_
  refine gg_iadd (pc' := 424) gx dL_law_423 rfl ?_
  rw [nI_add]
  refine hl_sld (pc' := 425) cx (by omega) hL dL_law_424 rfl ?_
  refine gg_aload0 (pc' := 426) gx dL_law_425 rfl ?_
  refine gg_iload3 (pc' := 427) gx dL_law_426 rfl ?_
  refine gg_iconst (pc' := 428) gx (nI 2) dL_law_427 (by decide) rfl ?_
  refine gg_iadd (pc' := 429) gx dL_law_428 rfl ?_
  rw [nI_add]
  refine hl_sld (pc' := 430) cx (by omega) hL dL_law_429 rfl ?_
  refine clL_44 (pc' := 433) cx ⟨Nat.le_of_ble_eq_true rfl, Nat.le_of_ble_eq_true rfl⟩ (K_X5_as l E _ S hI.1 _ _) ⟨rfl, rfl, Nat.le_of_ble_eq_true rfl, Nat.le_of_ble_eq_true rfl⟩ (Nat.le_of_ble_eq_true rfl) dL_law_430 rfl (fun r1 τ1 h1 => ?_)
  have hM1 := hI.2.1.frC h1.2.2
  refine gg_aload2 (pc' := 434) gx dL_law_433 rfl ?_
  refine gg_aload0 (pc' := 435) gx dL_law_434 rfl ?_
  refine gg_iload3 (pc' := 436) gx dL_law_435 rfl ?_
  refine gg_iconst (pc' := 437) gx (nI 1) dL_law_436 (by decide) rfl ?_
  refine gg_iadd (pc' := 438) gx dL_law_437 rfl ?_
  rw [nI_add]
  refine hl_sld (pc' := 439) cx (by omega) hL dL_law_438 rfl ?_
  refine gg_aload0 (pc' := 440) gx dL_law_439 rfl ?_
  refine gg_iload3 (pc' := 441) gx dL_law_440 rfl ?_
  refine gg_iconst (pc' := 442) gx (nI 2) dL_law_441 (by decide) rfl ?_
  refine gg_iadd (pc' := 443) gx dL_law_442 rfl ?_
  rw [nI_add]
  refine hl_sld (pc' := 444) cx (by omega) hL dL_law_443 rfl ?_
  refine clL_47 (pc' := 447) cx ⟨Nat.le_of_ble_eq_true rfl, Nat.le_of_ble_eq_true rfl⟩ (K_X6_as l E _ S hM1 hI.2.2 _ _) ⟨rfl, rfl, Nat.le_of_ble_eq_true rfl, Nat.le_of_ble_eq_true rfl⟩ (Nat.le_of_ble_eq_true rfl) dL_law_444 rfl (fun r2 τ2 h2 => ?_)
  refine gg_icmp_eq (pc' := 450) gx 1224 dL_law_447 (by decide) rfl (fun _ => kk τ2 _ ⟨h1.2.1.frM h2.2.2, h2.2.1, kp_as hI.2.2 _ _⟩) (fun z => absurd (h1.1.trans h2.1.symm) z)
set_option maxHeartbeats 4000000 in
set_option maxRecDepth 100000 in
theorem lc_8 (cx : hl_Cx E p s m args c b L xs) (hI : hl_I σ S) (hi : i + 6 ≤ L) (hL : L ≤ 3072) (kk : ∀ τ S', hl_I τ S' → gg_G (hl_P E τ) (hg_AW E) 60 1091 p l e room_1 s m args below meth c 4 Q 1224 [some (.ref b), some (.ref (hg_ad E 0)), some (.ref (hg_ad E 50)), some (.int (nI i))] []) : gg_G (hl_P E σ) (hg_AW E) 60 1091 p l e room_1 s m args below meth c 4 Q 452 [some (.ref b), some (.ref (hg_ad E 0)), some (.ref (hg_ad E 50)), some (.int (nI i))] [] := by
  have gx := cx.g
  refine gg_aload1 (pc' := 453) gx dL_law_452 rfl ?_
  refine gg_aload0 (pc' := 454) gx dL_law_453 rfl ?_
  refine gg_iload3 (pc' := 455) gx dL_law_454 rfl ?_
  refine gg_iconst (pc' := 456) gx (nI 1) dL_law_455 (by decide) rfl ?_
  refine gg_iadd (pc' := 457) gx dL_law_456 rfl ?_
  rw [nI_add]
  refine hl_sld (pc' := 458) cx (by omega) hL dL_law_457 rfl ?_
  refine clL_48 (pc' := 461) cx ⟨Nat.le_of_ble_eq_true rfl, Nat.le_of_ble_eq_true rfl⟩ (K_X5_sessions l E _ S hI.1 _) ⟨rfl, rfl, Nat.le_of_ble_eq_true rfl, Nat.le_of_ble_eq_true rfl⟩ (Nat.le_of_ble_eq_true rfl) dL_law_458 rfl (fun r1 τ1 h1 => ?_)
  have hM1 := hI.2.1.frC h1.2.2
  refine gg_aload2 (pc' := 462) gx dL_law_461 rfl ?_
  refine gg_aload0 (pc' := 463) gx dL_law_462 rfl ?_
  refine gg_iload3 (pc' := 464) gx dL_law_463 rfl ?_
  refine gg_iconst (pc' := 465) gx (nI 1) dL_law_464 (by decide) rfl ?_
  refine gg_iadd (pc' := 466) gx dL_law_465 rfl ?_
  rw [nI_add]
  refine hl_sld (pc' := 467) cx (by omega) hL dL_law_466 rfl ?_
  refine clL_51 (pc' := 470) cx ⟨Nat.le_of_ble_eq_true rfl, Nat.le_of_ble_eq_true rfl⟩ (K_X6_sessions l E _ S hM1 hI.2.2 _) ⟨rfl, rfl, Nat.le_of_ble_eq_true rfl, Nat.le_of_ble_eq_true rfl⟩ (Nat.le_of_ble_eq_true rfl) dL_law_467 rfl (fun r2 τ2 h2 => ?_)
  refine gg_icmp_eq (pc' := 473) gx 1224 dL_law_470 (by decide) rfl (fun _ => kk τ2 _ ⟨h1.2.1.frM h2.2.2, h2.2.1, kp_sessions hI.2.2 _⟩) (fun z => absurd (h1.1.trans h2.1.symm) z)
set_option maxHeartbeats 4000000 in
set_option maxRecDepth 100000 in
theorem lc_9 (cx : hl_Cx E p s m args c b L xs) (hI : hl_I σ S) (hi : i + 6 ≤ L) (hL : L ≤ 3072) (kk : ∀ τ S', hl_I τ S' → gg_G (hl_P E τ) (hg_AW E) 60 1091 p l e room_1 s m args below meth c 4 Q 1224 [some (.ref b), some (.ref (hg_ad E 0)), some (.ref (hg_ad E 50)), some (.int (nI i))] []) : gg_G (hl_P E σ) (hg_AW E) 60 1091 p l e room_1 s m args below meth c 4 Q 475 [some (.ref b), some (.ref (hg_ad E 0)), some (.ref (hg_ad E 50)), some (.int (nI i))] [] := by
  have gx := cx.g
  refine gg_aload1 (pc' := 476) gx dL_law_475 rfl ?_
  refine gg_aload0 (pc' := 477) gx dL_law_476 rfl ?_
  refine gg_iload3 (pc' := 478) gx dL_law_477 rfl ?_
  refine gg_iconst (pc' := 479) gx (nI 1) dL_law_478 (by decide) rfl ?_
  refine gg_iadd (pc' := 480) gx dL_law_479 rfl ?_
  rw [nI_add]
  refine hl_sld (pc' := 481) cx (by omega) hL dL_law_480 rfl ?_
  refine gg_aload0 (pc' := 482) gx dL_law_481 rfl ?_
  refine gg_iload3 (pc' := 483) gx dL_law_482 rfl ?_
  refine gg_iconst (pc' := 484) gx (nI 2) dL_law_483 (by decide) rfl ?_
  refine gg_iadd (pc' := 485) gx dL_law_484 rfl ?_
  rw [nI_add]
  refine hl_sld (pc' := 486) cx (by omega) hL dL_law_485 rfl ?_
  refine gg_aload0 (pc' := 487) gx dL_law_486 rfl ?_
  refine gg_iload3 (pc' := 488) gx dL_law_487 rfl ?_
  refine gg_iconst (pc' := 489) gx (nI 3) dL_law_488 (by decide) rfl ?_
  refine gg_iadd (pc' := 490) gx dL_law_489 rfl ?_
  rw [nI_add]
  refine hl_sld (pc' := 491) cx (by omega) hL dL_law_490 rfl ?_
  refine clL_52 (pc' := 494) cx ⟨Nat.le_of_ble_eq_true rfl, Nat.le_of_ble_eq_true rfl⟩ (K_X5_on l E _ S hI.1 _ _ _) ⟨rfl, rfl, Nat.le_of_ble_eq_true rfl, Nat.le_of_ble_eq_true rfl⟩ (Nat.le_of_ble_eq_true rfl) dL_law_491 rfl (fun r1 τ1 h1 => ?_)
  have hM1 := hI.2.1.frC h1.2.2
  refine gg_aload2 (pc' := 495) gx dL_law_494 rfl ?_
  refine gg_aload0 (pc' := 496) gx dL_law_495 rfl ?_
  refine gg_iload3 (pc' := 497) gx dL_law_496 rfl ?_
  refine gg_iconst (pc' := 498) gx (nI 1) dL_law_497 (by decide) rfl ?_
  refine gg_iadd (pc' := 499) gx dL_law_498 rfl ?_
  rw [nI_add]
  refine hl_sld (pc' := 500) cx (by omega) hL dL_law_499 rfl ?_
  refine gg_aload0 (pc' := 501) gx dL_law_500 rfl ?_
  refine gg_iload3 (pc' := 502) gx dL_law_501 rfl ?_
  refine gg_iconst (pc' := 503) gx (nI 2) dL_law_502 (by decide) rfl ?_
  refine gg_iadd (pc' := 504) gx dL_law_503 rfl ?_
  rw [nI_add]
  refine hl_sld (pc' := 505) cx (by omega) hL dL_law_504 rfl ?_
  refine gg_aload0 (pc' := 506) gx dL_law_505 rfl ?_
  refine gg_iload3 (pc' := 507) gx dL_law_506 rfl ?_
  refine gg_iconst (pc' := 508) gx (nI 3) dL_law_507 (by decide) rfl ?_
  refine gg_iadd (pc' := 509) gx dL_law_508 rfl ?_
  rw [nI_add]
  refine hl_sld (pc' := 510) cx (by omega) hL dL_law_509 rfl ?_
  refine clL_55 (pc' := 513) cx ⟨Nat.le_of_ble_eq_true rfl, Nat.le_of_ble_eq_true rfl⟩ (K_X6_on l E _ S hM1 hI.2.2 _ _ _) ⟨rfl, rfl, Nat.le_of_ble_eq_true rfl, Nat.le_of_ble_eq_true rfl⟩ (Nat.le_of_ble_eq_true rfl) dL_law_510 rfl (fun r2 τ2 h2 => ?_)
  refine gg_icmp_eq (pc' := 516) gx 1224 dL_law_513 (by decide) rfl (fun _ => kk τ2 _ ⟨h1.2.1.frM h2.2.2, h2.2.1, kp_on hI.2.2 _ _ _⟩) (fun z => absurd (h1.1.trans h2.1.symm) z)
set_option maxHeartbeats 4000000 in
set_option maxRecDepth 100000 in
theorem lc_10 (cx : hl_Cx E p s m args c b L xs) (hI : hl_I σ S) (hi : i + 6 ≤ L) (hL : L ≤ 3072) (kk : ∀ τ S', hl_I τ S' → gg_G (hl_P E τ) (hg_AW E) 60 1091 p l e room_1 s m args below meth c 4 Q 1224 [some (.ref b), some (.ref (hg_ad E 0)), some (.ref (hg_ad E 50)), some (.int (nI i))] []) : gg_G (hl_P E σ) (hg_AW E) 60 1091 p l e room_1 s m args below meth c 4 Q 518 [some (.ref b), some (.ref (hg_ad E 0)), some (.ref (hg_ad E 50)), some (.int (nI i))] [] := by
  have gx := cx.g
  refine gg_aload1 (pc' := 519) gx dL_law_518 rfl ?_
  refine gg_aload0 (pc' := 520) gx dL_law_519 rfl ?_
  refine gg_iload3 (pc' := 521) gx dL_law_520 rfl ?_
  refine gg_iconst (pc' := 522) gx (nI 1) dL_law_521 (by decide) rfl ?_
  refine gg_iadd (pc' := 523) gx dL_law_522 rfl ?_
  rw [nI_add]
  refine hl_sld (pc' := 524) cx (by omega) hL dL_law_523 rfl ?_
  refine gg_aload0 (pc' := 525) gx dL_law_524 rfl ?_
  refine gg_iload3 (pc' := 526) gx dL_law_525 rfl ?_
  refine gg_iconst (pc' := 527) gx (nI 2) dL_law_526 (by decide) rfl ?_
  refine gg_iadd (pc' := 528) gx dL_law_527 rfl ?_
  rw [nI_add]
  refine hl_sld (pc' := 529) cx (by omega) hL dL_law_528 rfl ?_
  refine clL_56 (pc' := 532) cx ⟨Nat.le_of_ble_eq_true rfl, Nat.le_of_ble_eq_true rfl⟩ (K_X5_then l E _ S hI.1 _ _) ⟨rfl, rfl, Nat.le_of_ble_eq_true rfl, Nat.le_of_ble_eq_true rfl⟩ (Nat.le_of_ble_eq_true rfl) dL_law_529 rfl (fun r1 τ1 h1 => ?_)
  have hM1 := hI.2.1.frC h1.2.2
  refine gg_aload2 (pc' := 533) gx dL_law_532 rfl ?_
  refine gg_aload0 (pc' := 534) gx dL_law_533 rfl ?_
  refine gg_iload3 (pc' := 535) gx dL_law_534 rfl ?_
  refine gg_iconst (pc' := 536) gx (nI 1) dL_law_535 (by decide) rfl ?_
  refine gg_iadd (pc' := 537) gx dL_law_536 rfl ?_
  rw [nI_add]
  refine hl_sld (pc' := 538) cx (by omega) hL dL_law_537 rfl ?_
  refine gg_aload0 (pc' := 539) gx dL_law_538 rfl ?_
  refine gg_iload3 (pc' := 540) gx dL_law_539 rfl ?_
  refine gg_iconst (pc' := 541) gx (nI 2) dL_law_540 (by decide) rfl ?_
  refine gg_iadd (pc' := 542) gx dL_law_541 rfl ?_
  rw [nI_add]
  refine hl_sld (pc' := 543) cx (by omega) hL dL_law_542 rfl ?_
  refine clL_59 (pc' := 546) cx ⟨Nat.le_of_ble_eq_true rfl, Nat.le_of_ble_eq_true rfl⟩ (K_X6_then l E _ S hM1 hI.2.2 _ _) ⟨rfl, rfl, Nat.le_of_ble_eq_true rfl, Nat.le_of_ble_eq_true rfl⟩ (Nat.le_of_ble_eq_true rfl) dL_law_543 rfl (fun r2 τ2 h2 => ?_)
  refine gg_icmp_eq (pc' := 549) gx 1224 dL_law_546 (by decide) rfl (fun _ => kk τ2 _ ⟨h1.2.1.frM h2.2.2, h2.2.1, kp_then hI.2.2 _ _⟩) (fun z => absurd (h1.1.trans h2.1.symm) z)
set_option maxHeartbeats 4000000 in
set_option maxRecDepth 100000 in
theorem lc_11 (cx : hl_Cx E p s m args c b L xs) (hI : hl_I σ S) (hi : i + 6 ≤ L) (hL : L ≤ 3072) (kk : ∀ τ S', hl_I τ S' → gg_G (hl_P E τ) (hg_AW E) 60 1091 p l e room_1 s m args below meth c 4 Q 1224 [some (.ref b), some (.ref (hg_ad E 0)), some (.ref (hg_ad E 50)), some (.int (nI i))] []) : gg_G (hl_P E σ) (hg_AW E) 60 1091 p l e room_1 s m args below meth c 4 Q 551 [some (.ref b), some (.ref (hg_ad E 0)), some (.ref (hg_ad E 50)), some (.int (nI i))] [] := by
  have gx := cx.g
  refine gg_aload1 (pc' := 552) gx dL_law_551 rfl ?_
  refine gg_aload0 (pc' := 553) gx dL_law_552 rfl ?_
  refine gg_iload3 (pc' := 554) gx dL_law_553 rfl ?_
  refine gg_iconst (pc' := 555) gx (nI 1) dL_law_554 (by decide) rfl ?_
  refine gg_iadd (pc' := 556) gx dL_law_555 rfl ?_
  rw [nI_add]
  refine hl_sld (pc' := 557) cx (by omega) hL dL_law_556 rfl ?_
  refine gg_aload0 (pc' := 558) gx dL_law_557 rfl ?_
  refine gg_iload3 (pc' := 559) gx dL_law_558 rfl ?_
  refine gg_iconst (pc' := 560) gx (nI 2) dL_law_559 (by decide) rfl ?_
  refine gg_iadd (pc' := 561) gx dL_law_560 rfl ?_
  rw [nI_add]
  refine hl_sld (pc' := 562) cx (by omega) hL dL_law_561 rfl ?_
  refine clL_60 (pc' := 565) cx ⟨Nat.le_of_ble_eq_true rfl, Nat.le_of_ble_eq_true rfl⟩ (K_X5_comes l E _ S hI.1 _ _) ⟨rfl, rfl, Nat.le_of_ble_eq_true rfl, Nat.le_of_ble_eq_true rfl⟩ (Nat.le_of_ble_eq_true rfl) dL_law_562 rfl (fun r1 τ1 h1 => ?_)
  have hM1 := hI.2.1.frC h1.2.2
  refine gg_aload2 (pc' := 566) gx dL_law_565 rfl ?_
  refine gg_aload0 (pc' := 567) gx dL_law_566 rfl ?_
  refine gg_iload3 (pc' := 568) gx dL_law_567 rfl ?_
  refine gg_iconst (pc' := 569) gx (nI 1) dL_law_568 (by decide) rfl ?_
  refine gg_iadd (pc' := 570) gx dL_law_569 rfl ?_
  rw [nI_add]
  refine hl_sld (pc' := 571) cx (by omega) hL dL_law_570 rfl ?_
  refine gg_aload0 (pc' := 572) gx dL_law_571 rfl ?_
  refine gg_iload3 (pc' := 573) gx dL_law_572 rfl ?_
  refine gg_iconst (pc' := 574) gx (nI 2) dL_law_573 (by decide) rfl ?_
  refine gg_iadd (pc' := 575) gx dL_law_574 rfl ?_
  rw [nI_add]
  refine hl_sld (pc' := 576) cx (by omega) hL dL_law_575 rfl ?_
  refine clL_63 (pc' := 579) cx ⟨Nat.le_of_ble_eq_true rfl, Nat.le_of_ble_eq_true rfl⟩ (K_X6_comes l E _ S hM1 hI.2.2 _ _) ⟨rfl, rfl, Nat.le_of_ble_eq_true rfl, Nat.le_of_ble_eq_true rfl⟩ (Nat.le_of_ble_eq_true rfl) dL_law_576 rfl (fun r2 τ2 h2 => ?_)
  refine gg_icmp_eq (pc' := 582) gx 1224 dL_law_579 (by decide) rfl (fun _ => kk τ2 _ ⟨h1.2.1.frM h2.2.2, h2.2.1, kp_comes hI.2.2 _ _⟩) (fun z => absurd (h1.1.trans h2.1.symm) z)
set_option maxHeartbeats 4000000 in
set_option maxRecDepth 100000 in
theorem lc_12 (cx : hl_Cx E p s m args c b L xs) (hI : hl_I σ S) (hi : i + 6 ≤ L) (hL : L ≤ 3072) (kk : ∀ τ S', hl_I τ S' → gg_G (hl_P E τ) (hg_AW E) 60 1091 p l e room_1 s m args below meth c 4 Q 1224 [some (.ref b), some (.ref (hg_ad E 0)), some (.ref (hg_ad E 50)), some (.int (nI i))] []) : gg_G (hl_P E σ) (hg_AW E) 60 1091 p l e room_1 s m args below meth c 4 Q 584 [some (.ref b), some (.ref (hg_ad E 0)), some (.ref (hg_ad E 50)), some (.int (nI i))] [] := by
  have gx := cx.g
  refine gg_aload1 (pc' := 585) gx dL_law_584 rfl ?_
  refine clL_64 (pc' := 588) cx ⟨Nat.le_of_ble_eq_true rfl, Nat.le_of_ble_eq_true rfl⟩ (K_X5_wise l E _ S hI.1) ⟨rfl, rfl, Nat.le_of_ble_eq_true rfl, Nat.le_of_ble_eq_true rfl⟩ (Nat.le_of_ble_eq_true rfl) dL_law_585 rfl (fun r1 τ1 h1 => ?_)
  have hM1 := hI.2.1.frC h1.2.2
  refine gg_aload2 (pc' := 589) gx dL_law_588 rfl ?_
  refine clL_68 (pc' := 592) cx ⟨Nat.le_of_ble_eq_true rfl, Nat.le_of_ble_eq_true rfl⟩ (K_X6_wise l E _ S hM1 hI.2.2) ⟨rfl, rfl, Nat.le_of_ble_eq_true rfl, Nat.le_of_ble_eq_true rfl⟩ (Nat.le_of_ble_eq_true rfl) dL_law_589 rfl (fun r2 τ2 h2 => ?_)
  refine gg_icmp_eq (pc' := 595) gx 1224 dL_law_592 (by decide) rfl (fun _ => kk τ2 _ ⟨h1.2.1.frM h2.2.2, h2.2.1, kp_wise hI.2.2⟩) (fun z => absurd (h1.1.trans h2.1.symm) z)
set_option maxHeartbeats 4000000 in
set_option maxRecDepth 100000 in
theorem lc_13 (cx : hl_Cx E p s m args c b L xs) (hI : hl_I σ S) (hi : i + 6 ≤ L) (hL : L ≤ 3072) (kk : ∀ τ S', hl_I τ S' → gg_G (hl_P E τ) (hg_AW E) 60 1091 p l e room_1 s m args below meth c 4 Q 1224 [some (.ref b), some (.ref (hg_ad E 0)), some (.ref (hg_ad E 50)), some (.int (nI i))] []) : gg_G (hl_P E σ) (hg_AW E) 60 1091 p l e room_1 s m args below meth c 4 Q 597 [some (.ref b), some (.ref (hg_ad E 0)), some (.ref (hg_ad E 50)), some (.int (nI i))] [] := by
  have gx := cx.g
  refine gg_aload1 (pc' := 598) gx dL_law_597 rfl ?_
  refine gg_aload0 (pc' := 599) gx dL_law_598 rfl ?_
  refine gg_iload3 (pc' := 600) gx dL_law_599 rfl ?_
  refine gg_iconst (pc' := 601) gx (nI 1) dL_law_600 (by decide) rfl ?_
  refine gg_iadd (pc' := 602) gx dL_law_601 rfl ?_
  rw [nI_add]
  refine hl_sld (pc' := 603) cx (by omega) hL dL_law_602 rfl ?_
  refine clL_69 (pc' := 606) cx ⟨Nat.le_of_ble_eq_true rfl, Nat.le_of_ble_eq_true rfl⟩ (K_X5_errs l E _ S hI.1 _) ⟨rfl, rfl, Nat.le_of_ble_eq_true rfl, Nat.le_of_ble_eq_true rfl⟩ (Nat.le_of_ble_eq_true rfl) dL_law_603 rfl (fun r1 τ1 h1 => ?_)
  have hM1 := hI.2.1.frC h1.2.2
  refine gg_aload2 (pc' := 607) gx dL_law_606 rfl ?_
  refine gg_aload0 (pc' := 608) gx dL_law_607 rfl ?_
  refine gg_iload3 (pc' := 609) gx dL_law_608 rfl ?_
  refine gg_iconst (pc' := 610) gx (nI 1) dL_law_609 (by decide) rfl ?_
  refine gg_iadd (pc' := 611) gx dL_law_610 rfl ?_
  rw [nI_add]
  refine hl_sld (pc' := 612) cx (by omega) hL dL_law_611 rfl ?_
  refine clL_72 (pc' := 615) cx ⟨Nat.le_of_ble_eq_true rfl, Nat.le_of_ble_eq_true rfl⟩ (K_X6_errs l E _ S hM1 hI.2.2 _) ⟨rfl, rfl, Nat.le_of_ble_eq_true rfl, Nat.le_of_ble_eq_true rfl⟩ (Nat.le_of_ble_eq_true rfl) dL_law_612 rfl (fun r2 τ2 h2 => ?_)
  refine gg_icmp_eq (pc' := 618) gx 1224 dL_law_615 (by decide) rfl (fun _ => kk τ2 _ ⟨h1.2.1.frM h2.2.2, h2.2.1, kp_errs hI.2.2 _⟩) (fun z => absurd (h1.1.trans h2.1.symm) z)
set_option maxHeartbeats 4000000 in
set_option maxRecDepth 100000 in
theorem lc_14 (cx : hl_Cx E p s m args c b L xs) (hI : hl_I σ S) (hi : i + 6 ≤ L) (hL : L ≤ 3072) (kk : ∀ τ S', hl_I τ S' → gg_G (hl_P E τ) (hg_AW E) 60 1091 p l e room_1 s m args below meth c 4 Q 1224 [some (.ref b), some (.ref (hg_ad E 0)), some (.ref (hg_ad E 50)), some (.int (nI i))] []) : gg_G (hl_P E σ) (hg_AW E) 60 1091 p l e room_1 s m args below meth c 4 Q 620 [some (.ref b), some (.ref (hg_ad E 0)), some (.ref (hg_ad E 50)), some (.int (nI i))] [] := by
  have gx := cx.g
  refine gg_aload1 (pc' := 621) gx dL_law_620 rfl ?_
  refine gg_aload0 (pc' := 622) gx dL_law_621 rfl ?_
  refine gg_iload3 (pc' := 623) gx dL_law_622 rfl ?_
  refine gg_iconst (pc' := 624) gx (nI 1) dL_law_623 (by decide) rfl ?_
  refine gg_iadd (pc' := 625) gx dL_law_624 rfl ?_
  rw [nI_add]
  refine hl_sld (pc' := 626) cx (by omega) hL dL_law_625 rfl ?_
  refine clL_73 (pc' := 629) cx ⟨Nat.le_of_ble_eq_true rfl, Nat.le_of_ble_eq_true rfl⟩ (K_X5_lift l E _ S hI.1 _) ⟨rfl, rfl, Nat.le_of_ble_eq_true rfl, Nat.le_of_ble_eq_true rfl⟩ (Nat.le_of_ble_eq_true rfl) dL_law_626 rfl (fun r1 τ1 h1 => ?_)
  have hM1 := hI.2.1.frC h1.2.2
  refine gg_aload2 (pc' := 630) gx dL_law_629 rfl ?_
  refine gg_aload0 (pc' := 631) gx dL_law_630 rfl ?_
  refine gg_iload3 (pc' := 632) gx dL_law_631 rfl ?_
  refine gg_iconst (pc' := 633) gx (nI 1) dL_law_632 (by decide) rfl ?_
  refine gg_iadd (pc' := 634) gx dL_law_633 rfl ?_
  rw [nI_add]
  refine hl_sld (pc' := 635) cx (by omega) hL dL_law_634 rfl ?_
  refine clL_76 (pc' := 638) cx ⟨Nat.le_of_ble_eq_true rfl, Nat.le_of_ble_eq_true rfl⟩ (K_X6_lift l E _ S hM1 hI.2.2 _) ⟨rfl, rfl, Nat.le_of_ble_eq_true rfl, Nat.le_of_ble_eq_true rfl⟩ (Nat.le_of_ble_eq_true rfl) dL_law_635 rfl (fun r2 τ2 h2 => ?_)
  refine gg_icmp_eq (pc' := 641) gx 1224 dL_law_638 (by decide) rfl (fun _ => kk τ2 _ ⟨h1.2.1.frM h2.2.2, h2.2.1, kp_lift hI.2.2 _⟩) (fun z => absurd (h1.1.trans h2.1.symm) z)
set_option maxHeartbeats 4000000 in
set_option maxRecDepth 100000 in
theorem lc_15 (cx : hl_Cx E p s m args c b L xs) (hI : hl_I σ S) (hi : i + 6 ≤ L) (hL : L ≤ 3072) (kk : ∀ τ S', hl_I τ S' → gg_G (hl_P E τ) (hg_AW E) 60 1091 p l e room_1 s m args below meth c 4 Q 1224 [some (.ref b), some (.ref (hg_ad E 0)), some (.ref (hg_ad E 50)), some (.int (nI i))] []) : gg_G (hl_P E σ) (hg_AW E) 60 1091 p l e room_1 s m args below meth c 4 Q 643 [some (.ref b), some (.ref (hg_ad E 0)), some (.ref (hg_ad E 50)), some (.int (nI i))] [] := by
  have gx := cx.g
  refine gg_aload1 (pc' := 644) gx dL_law_643 rfl ?_
  refine gg_aload0 (pc' := 645) gx dL_law_644 rfl ?_
  refine gg_iload3 (pc' := 646) gx dL_law_645 rfl ?_
  refine gg_iconst (pc' := 647) gx (nI 1) dL_law_646 (by decide) rfl ?_
  refine gg_iadd (pc' := 648) gx dL_law_647 rfl ?_
  rw [nI_add]
  refine hl_sld (pc' := 649) cx (by omega) hL dL_law_648 rfl ?_
  refine gg_aload0 (pc' := 650) gx dL_law_649 rfl ?_
  refine gg_iload3 (pc' := 651) gx dL_law_650 rfl ?_
  refine gg_iconst (pc' := 652) gx (nI 2) dL_law_651 (by decide) rfl ?_
  refine gg_iadd (pc' := 653) gx dL_law_652 rfl ?_
  rw [nI_add]
  refine hl_sld (pc' := 654) cx (by omega) hL dL_law_653 rfl ?_
  refine clL_77 (pc' := 657) cx ⟨Nat.le_of_ble_eq_true rfl, Nat.le_of_ble_eq_true rfl⟩ (K_X5_kind l E _ S hI.1 _ _) ⟨rfl, rfl, Nat.le_of_ble_eq_true rfl, Nat.le_of_ble_eq_true rfl⟩ (Nat.le_of_ble_eq_true rfl) dL_law_654 rfl (fun r1 τ1 h1 => ?_)
  have hM1 := hI.2.1.frC h1.2.2
  refine gg_aload2 (pc' := 658) gx dL_law_657 rfl ?_
  refine gg_aload0 (pc' := 659) gx dL_law_658 rfl ?_
  refine gg_iload3 (pc' := 660) gx dL_law_659 rfl ?_
  refine gg_iconst (pc' := 661) gx (nI 1) dL_law_660 (by decide) rfl ?_
  refine gg_iadd (pc' := 662) gx dL_law_661 rfl ?_
  rw [nI_add]
  refine hl_sld (pc' := 663) cx (by omega) hL dL_law_662 rfl ?_
  refine gg_aload0 (pc' := 664) gx dL_law_663 rfl ?_
  refine gg_iload3 (pc' := 665) gx dL_law_664 rfl ?_
  refine gg_iconst (pc' := 666) gx (nI 2) dL_law_665 (by decide) rfl ?_
  refine gg_iadd (pc' := 667) gx dL_law_666 rfl ?_
  rw [nI_add]
  refine hl_sld (pc' := 668) cx (by omega) hL dL_law_667 rfl ?_
  refine clL_80 (pc' := 671) cx ⟨Nat.le_of_ble_eq_true rfl, Nat.le_of_ble_eq_true rfl⟩ (K_X6_kind l E _ S hM1 hI.2.2 _ _) ⟨rfl, rfl, Nat.le_of_ble_eq_true rfl, Nat.le_of_ble_eq_true rfl⟩ (Nat.le_of_ble_eq_true rfl) dL_law_668 rfl (fun r2 τ2 h2 => ?_)
  refine gg_icmp_eq (pc' := 674) gx 1224 dL_law_671 (by decide) rfl (fun _ => kk τ2 _ ⟨h1.2.1.frM h2.2.2, h2.2.1, kp_kind hI.2.2 _ _⟩) (fun z => absurd (h1.1.trans h2.1.symm) z)
set_option maxHeartbeats 4000000 in
set_option maxRecDepth 100000 in
theorem lc_16 (cx : hl_Cx E p s m args c b L xs) (hI : hl_I σ S) (hi : i + 6 ≤ L) (hL : L ≤ 3072) (kk : ∀ τ S', hl_I τ S' → gg_G (hl_P E τ) (hg_AW E) 60 1091 p l e room_1 s m args below meth c 4 Q 1224 [some (.ref b), some (.ref (hg_ad E 0)), some (.ref (hg_ad E 50)), some (.int (nI i))] []) : gg_G (hl_P E σ) (hg_AW E) 60 1091 p l e room_1 s m args below meth c 4 Q 676 [some (.ref b), some (.ref (hg_ad E 0)), some (.ref (hg_ad E 50)), some (.int (nI i))] [] := by
  have gx := cx.g
  refine gg_aload1 (pc' := 677) gx dL_law_676 rfl ?_
  refine gg_aload0 (pc' := 678) gx dL_law_677 rfl ?_
  refine gg_iload3 (pc' := 679) gx dL_law_678 rfl ?_
  refine gg_iconst (pc' := 680) gx (nI 1) dL_law_679 (by decide) rfl ?_
  refine gg_iadd (pc' := 681) gx dL_law_680 rfl ?_
  rw [nI_add]
  refine hl_sld (pc' := 682) cx (by omega) hL dL_law_681 rfl ?_
  refine gg_aload0 (pc' := 683) gx dL_law_682 rfl ?_
  refine gg_iload3 (pc' := 684) gx dL_law_683 rfl ?_
  refine gg_iconst (pc' := 685) gx (nI 2) dL_law_684 (by decide) rfl ?_
  refine gg_iadd (pc' := 686) gx dL_law_685 rfl ?_
  rw [nI_add]
  refine hl_sld (pc' := 687) cx (by omega) hL dL_law_686 rfl ?_
  refine clL_81 (pc' := 690) cx ⟨Nat.le_of_ble_eq_true rfl, Nat.le_of_ble_eq_true rfl⟩ (K_X5_view l E _ S hI.1 _ _) ⟨rfl, rfl, Nat.le_of_ble_eq_true rfl, Nat.le_of_ble_eq_true rfl⟩ (Nat.le_of_ble_eq_true rfl) dL_law_687 rfl (fun r1 τ1 h1 => ?_)
  have hM1 := hI.2.1.frC h1.2.2
  refine gg_aload2 (pc' := 691) gx dL_law_690 rfl ?_
  refine gg_aload0 (pc' := 692) gx dL_law_691 rfl ?_
  refine gg_iload3 (pc' := 693) gx dL_law_692 rfl ?_
  refine gg_iconst (pc' := 694) gx (nI 1) dL_law_693 (by decide) rfl ?_
  refine gg_iadd (pc' := 695) gx dL_law_694 rfl ?_
  rw [nI_add]
  refine hl_sld (pc' := 696) cx (by omega) hL dL_law_695 rfl ?_
  refine gg_aload0 (pc' := 697) gx dL_law_696 rfl ?_
  refine gg_iload3 (pc' := 698) gx dL_law_697 rfl ?_
  refine gg_iconst (pc' := 699) gx (nI 2) dL_law_698 (by decide) rfl ?_
  refine gg_iadd (pc' := 700) gx dL_law_699 rfl ?_
  rw [nI_add]
  refine hl_sld (pc' := 701) cx (by omega) hL dL_law_700 rfl ?_
  refine clL_84 (pc' := 704) cx ⟨Nat.le_of_ble_eq_true rfl, Nat.le_of_ble_eq_true rfl⟩ (K_X6_view l E _ S hM1 hI.2.2 _ _) ⟨rfl, rfl, Nat.le_of_ble_eq_true rfl, Nat.le_of_ble_eq_true rfl⟩ (Nat.le_of_ble_eq_true rfl) dL_law_701 rfl (fun r2 τ2 h2 => ?_)
  refine gg_icmp_eq (pc' := 707) gx 1224 dL_law_704 (by decide) rfl (fun _ => kk τ2 _ ⟨h1.2.1.frM h2.2.2, h2.2.1, kp_view hI.2.2 _ _⟩) (fun z => absurd (h1.1.trans h2.1.symm) z)
set_option maxHeartbeats 4000000 in
set_option maxRecDepth 100000 in
theorem lc_17 (cx : hl_Cx E p s m args c b L xs) (hI : hl_I σ S) (hi : i + 6 ≤ L) (hL : L ≤ 3072) (kk : ∀ τ S', hl_I τ S' → gg_G (hl_P E τ) (hg_AW E) 60 1091 p l e room_1 s m args below meth c 4 Q 1224 [some (.ref b), some (.ref (hg_ad E 0)), some (.ref (hg_ad E 50)), some (.int (nI i))] []) : gg_G (hl_P E σ) (hg_AW E) 60 1091 p l e room_1 s m args below meth c 4 Q 709 [some (.ref b), some (.ref (hg_ad E 0)), some (.ref (hg_ad E 50)), some (.int (nI i))] [] := by
  have gx := cx.g
  refine gg_aload1 (pc' := 710) gx dL_law_709 rfl ?_
  refine gg_aload0 (pc' := 711) gx dL_law_710 rfl ?_
  refine gg_iload3 (pc' := 712) gx dL_law_711 rfl ?_
  refine gg_iconst (pc' := 713) gx (nI 1) dL_law_712 (by decide) rfl ?_
  refine gg_iadd (pc' := 714) gx dL_law_713 rfl ?_
  rw [nI_add]
  refine hl_sld (pc' := 715) cx (by omega) hL dL_law_714 rfl ?_
  refine gg_aload0 (pc' := 716) gx dL_law_715 rfl ?_
  refine gg_iload3 (pc' := 717) gx dL_law_716 rfl ?_
  refine gg_iconst (pc' := 718) gx (nI 2) dL_law_717 (by decide) rfl ?_
  refine gg_iadd (pc' := 719) gx dL_law_718 rfl ?_
  rw [nI_add]
  refine hl_sld (pc' := 720) cx (by omega) hL dL_law_719 rfl ?_
  refine gg_aload0 (pc' := 721) gx dL_law_720 rfl ?_
  refine gg_iload3 (pc' := 722) gx dL_law_721 rfl ?_
  refine gg_iconst (pc' := 723) gx (nI 3) dL_law_722 (by decide) rfl ?_
  refine gg_iadd (pc' := 724) gx dL_law_723 rfl ?_
  rw [nI_add]
  refine hl_sld (pc' := 725) cx (by omega) hL dL_law_724 rfl ?_
  refine clL_85 (pc' := 728) cx ⟨Nat.le_of_ble_eq_true rfl, Nat.le_of_ble_eq_true rfl⟩ (K_X5_faith l E _ S hI.1 _ _ _) ⟨rfl, rfl, Nat.le_of_ble_eq_true rfl, Nat.le_of_ble_eq_true rfl⟩ (Nat.le_of_ble_eq_true rfl) dL_law_725 rfl (fun r1 τ1 h1 => ?_)
  have hM1 := hI.2.1.frC h1.2.2
  refine gg_aload2 (pc' := 729) gx dL_law_728 rfl ?_
  refine gg_aload0 (pc' := 730) gx dL_law_729 rfl ?_
  refine gg_iload3 (pc' := 731) gx dL_law_730 rfl ?_
  refine gg_iconst (pc' := 732) gx (nI 1) dL_law_731 (by decide) rfl ?_
  refine gg_iadd (pc' := 733) gx dL_law_732 rfl ?_
  rw [nI_add]
  refine hl_sld (pc' := 734) cx (by omega) hL dL_law_733 rfl ?_
  refine gg_aload0 (pc' := 735) gx dL_law_734 rfl ?_
  refine gg_iload3 (pc' := 736) gx dL_law_735 rfl ?_
  refine gg_iconst (pc' := 737) gx (nI 2) dL_law_736 (by decide) rfl ?_
  refine gg_iadd (pc' := 738) gx dL_law_737 rfl ?_
  rw [nI_add]
  refine hl_sld (pc' := 739) cx (by omega) hL dL_law_738 rfl ?_
  refine gg_aload0 (pc' := 740) gx dL_law_739 rfl ?_
  refine gg_iload3 (pc' := 741) gx dL_law_740 rfl ?_
  refine gg_iconst (pc' := 742) gx (nI 3) dL_law_741 (by decide) rfl ?_
  refine gg_iadd (pc' := 743) gx dL_law_742 rfl ?_
  rw [nI_add]
  refine hl_sld (pc' := 744) cx (by omega) hL dL_law_743 rfl ?_
  refine clL_88 (pc' := 747) cx ⟨Nat.le_of_ble_eq_true rfl, Nat.le_of_ble_eq_true rfl⟩ (K_X6_faith l E _ S hM1 hI.2.2 _ _ _) ⟨rfl, rfl, Nat.le_of_ble_eq_true rfl, Nat.le_of_ble_eq_true rfl⟩ (Nat.le_of_ble_eq_true rfl) dL_law_744 rfl (fun r2 τ2 h2 => ?_)
  refine gg_icmp_eq (pc' := 750) gx 1224 dL_law_747 (by decide) rfl (fun _ => kk τ2 _ ⟨h1.2.1.frM h2.2.2, h2.2.1, kp_faith hI.2.2 _ _ _⟩) (fun z => absurd (h1.1.trans h2.1.symm) z)
set_option maxHeartbeats 4000000 in
set_option maxRecDepth 100000 in
theorem lc_18 (cx : hl_Cx E p s m args c b L xs) (hI : hl_I σ S) (hi : i + 6 ≤ L) (hL : L ≤ 3072) (kk : ∀ τ S', hl_I τ S' → gg_G (hl_P E τ) (hg_AW E) 60 1091 p l e room_1 s m args below meth c 4 Q 1224 [some (.ref b), some (.ref (hg_ad E 0)), some (.ref (hg_ad E 50)), some (.int (nI i))] []) : gg_G (hl_P E σ) (hg_AW E) 60 1091 p l e room_1 s m args below meth c 4 Q 752 [some (.ref b), some (.ref (hg_ad E 0)), some (.ref (hg_ad E 50)), some (.int (nI i))] [] := by
  have gx := cx.g
  refine gg_aload1 (pc' := 753) gx dL_law_752 rfl ?_
  refine clL_89 (pc' := 756) cx ⟨Nat.le_of_ble_eq_true rfl, Nat.le_of_ble_eq_true rfl⟩ (K_X5_swing l E _ S hI.1) ⟨rfl, rfl, Nat.le_of_ble_eq_true rfl, Nat.le_of_ble_eq_true rfl⟩ (Nat.le_of_ble_eq_true rfl) dL_law_753 rfl (fun r1 τ1 h1 => ?_)
  have hM1 := hI.2.1.frC h1.2.2
  refine gg_aload2 (pc' := 757) gx dL_law_756 rfl ?_
  refine clL_92 (pc' := 760) cx ⟨Nat.le_of_ble_eq_true rfl, Nat.le_of_ble_eq_true rfl⟩ (K_X6_swing l E _ S hM1 hI.2.2) ⟨rfl, rfl, Nat.le_of_ble_eq_true rfl, Nat.le_of_ble_eq_true rfl⟩ (Nat.le_of_ble_eq_true rfl) dL_law_757 rfl (fun r2 τ2 h2 => ?_)
  refine gg_icmp_eq (pc' := 763) gx 1224 dL_law_760 (by decide) rfl (fun _ => kk τ2 _ ⟨h1.2.1.frM h2.2.2, h2.2.1, kp_swing hI.2.2⟩) (fun z => absurd (h1.1.trans h2.1.symm) z)
set_option maxHeartbeats 4000000 in
set_option maxRecDepth 100000 in
theorem lc_19 (cx : hl_Cx E p s m args c b L xs) (hI : hl_I σ S) (hi : i + 6 ≤ L) (hL : L ≤ 3072) (kk : ∀ τ S', hl_I τ S' → gg_G (hl_P E τ) (hg_AW E) 60 1091 p l e room_1 s m args below meth c 4 Q 1224 [some (.ref b), some (.ref (hg_ad E 0)), some (.ref (hg_ad E 50)), some (.int (nI i))] []) : gg_G (hl_P E σ) (hg_AW E) 60 1091 p l e room_1 s m args below meth c 4 Q 765 [some (.ref b), some (.ref (hg_ad E 0)), some (.ref (hg_ad E 50)), some (.int (nI i))] [] := by
  have gx := cx.g
  refine gg_aload1 (pc' := 766) gx dL_law_765 rfl ?_
  refine gg_aload0 (pc' := 767) gx dL_law_766 rfl ?_
  refine gg_iload3 (pc' := 768) gx dL_law_767 rfl ?_
  refine gg_iconst (pc' := 769) gx (nI 1) dL_law_768 (by decide) rfl ?_
  refine gg_iadd (pc' := 770) gx dL_law_769 rfl ?_
  rw [nI_add]
  refine hl_sld (pc' := 771) cx (by omega) hL dL_law_770 rfl ?_
  refine clL_93 (pc' := 774) cx ⟨Nat.le_of_ble_eq_true rfl, Nat.le_of_ble_eq_true rfl⟩ (K_X5_revise l E _ S hI.1 _) ⟨rfl, rfl, Nat.le_of_ble_eq_true rfl, Nat.le_of_ble_eq_true rfl⟩ (Nat.le_of_ble_eq_true rfl) dL_law_771 rfl (fun r1 τ1 h1 => ?_)
  have hM1 := hI.2.1.frC h1.2.2
  refine gg_aload2 (pc' := 775) gx dL_law_774 rfl ?_
  refine gg_aload0 (pc' := 776) gx dL_law_775 rfl ?_
  refine gg_iload3 (pc' := 777) gx dL_law_776 rfl ?_
  refine gg_iconst (pc' := 778) gx (nI 1) dL_law_777 (by decide) rfl ?_
  refine gg_iadd (pc' := 779) gx dL_law_778 rfl ?_
  rw [nI_add]
  refine hl_sld (pc' := 780) cx (by omega) hL dL_law_779 rfl ?_
  refine clL_96 (pc' := 783) cx ⟨Nat.le_of_ble_eq_true rfl, Nat.le_of_ble_eq_true rfl⟩ (K_X6_revise l E _ S hM1 hI.2.2 _) ⟨rfl, rfl, Nat.le_of_ble_eq_true rfl, Nat.le_of_ble_eq_true rfl⟩ (Nat.le_of_ble_eq_true rfl) dL_law_780 rfl (fun r2 τ2 h2 => ?_)
  refine gg_icmp_eq (pc' := 786) gx 1224 dL_law_783 (by decide) rfl (fun _ => kk τ2 _ ⟨h1.2.1.frM h2.2.2, h2.2.1, kp_revise hI.2.2 _⟩) (fun z => absurd (h1.1.trans h2.1.symm) z)
set_option maxHeartbeats 4000000 in
set_option maxRecDepth 100000 in
theorem lc_20 (cx : hl_Cx E p s m args c b L xs) (hI : hl_I σ S) (hi : i + 6 ≤ L) (hL : L ≤ 3072) (kk : ∀ τ S', hl_I τ S' → gg_G (hl_P E τ) (hg_AW E) 60 1091 p l e room_1 s m args below meth c 4 Q 1224 [some (.ref b), some (.ref (hg_ad E 0)), some (.ref (hg_ad E 50)), some (.int (nI i))] []) : gg_G (hl_P E σ) (hg_AW E) 60 1091 p l e room_1 s m args below meth c 4 Q 788 [some (.ref b), some (.ref (hg_ad E 0)), some (.ref (hg_ad E 50)), some (.int (nI i))] [] := by
  have gx := cx.g
  refine gg_aload1 (pc' := 789) gx dL_law_788 rfl ?_
  refine gg_aload0 (pc' := 790) gx dL_law_789 rfl ?_
  refine gg_iload3 (pc' := 791) gx dL_law_790 rfl ?_
  refine gg_iconst (pc' := 792) gx (nI 1) dL_law_791 (by decide) rfl ?_
  refine gg_iadd (pc' := 793) gx dL_law_792 rfl ?_
  rw [nI_add]
  refine hl_sld (pc' := 794) cx (by omega) hL dL_law_793 rfl ?_
  refine clL_97 (pc' := 797) cx ⟨Nat.le_of_ble_eq_true rfl, Nat.le_of_ble_eq_true rfl⟩ (K_X5_best l E _ S hI.1 _) ⟨rfl, rfl, Nat.le_of_ble_eq_true rfl, Nat.le_of_ble_eq_true rfl⟩ (Nat.le_of_ble_eq_true rfl) dL_law_794 rfl (fun r1 τ1 h1 => ?_)
  have hM1 := hI.2.1.frC h1.2.2
  refine gg_aload2 (pc' := 798) gx dL_law_797 rfl ?_
  refine gg_aload0 (pc' := 799) gx dL_law_798 rfl ?_
  refine gg_iload3 (pc' := 800) gx dL_law_799 rfl ?_
  refine gg_iconst (pc' := 801) gx (nI 1) dL_law_800 (by decide) rfl ?_
  refine gg_iadd (pc' := 802) gx dL_law_801 rfl ?_
  rw [nI_add]
  refine hl_sld (pc' := 803) cx (by omega) hL dL_law_802 rfl ?_
  refine clL_100 (pc' := 806) cx ⟨Nat.le_of_ble_eq_true rfl, Nat.le_of_ble_eq_true rfl⟩ (K_X6_best l E _ S hM1 hI.2.2 _) ⟨rfl, rfl, Nat.le_of_ble_eq_true rfl, Nat.le_of_ble_eq_true rfl⟩ (Nat.le_of_ble_eq_true rfl) dL_law_803 rfl (fun r2 τ2 h2 => ?_)
  refine gg_icmp_eq (pc' := 809) gx 1224 dL_law_806 (by decide) rfl (fun _ => kk τ2 _ ⟨h1.2.1.frM h2.2.2, h2.2.1, kp_best hI.2.2 _⟩) (fun z => absurd (h1.1.trans h2.1.symm) z)
set_option maxHeartbeats 4000000 in
set_option maxRecDepth 100000 in
theorem lc_21 (cx : hl_Cx E p s m args c b L xs) (hI : hl_I σ S) (hi : i + 6 ≤ L) (hL : L ≤ 3072) (kk : ∀ τ S', hl_I τ S' → gg_G (hl_P E τ) (hg_AW E) 60 1091 p l e room_1 s m args below meth c 4 Q 1224 [some (.ref b), some (.ref (hg_ad E 0)), some (.ref (hg_ad E 50)), some (.int (nI i))] []) : gg_G (hl_P E σ) (hg_AW E) 60 1091 p l e room_1 s m args below meth c 4 Q 811 [some (.ref b), some (.ref (hg_ad E 0)), some (.ref (hg_ad E 50)), some (.int (nI i))] [] := by
  have gx := cx.g
  refine gg_aload1 (pc' := 812) gx dL_law_811 rfl ?_
  refine gg_aload0 (pc' := 813) gx dL_law_812 rfl ?_
  refine gg_iload3 (pc' := 814) gx dL_law_813 rfl ?_
  refine gg_iconst (pc' := 815) gx (nI 1) dL_law_814 (by decide) rfl ?_
  refine gg_iadd (pc' := 816) gx dL_law_815 rfl ?_
  rw [nI_add]
  refine hl_sld (pc' := 817) cx (by omega) hL dL_law_816 rfl ?_
  refine gg_aload0 (pc' := 818) gx dL_law_817 rfl ?_
  refine gg_iload3 (pc' := 819) gx dL_law_818 rfl ?_
  refine gg_iconst (pc' := 820) gx (nI 2) dL_law_819 (by decide) rfl ?_
  refine gg_iadd (pc' := 821) gx dL_law_820 rfl ?_
  rw [nI_add]
  refine hl_sld (pc' := 822) cx (by omega) hL dL_law_821 rfl ?_
  refine clL_101 (pc' := 825) cx ⟨Nat.le_of_ble_eq_true rfl, Nat.le_of_ble_eq_true rfl⟩ (K_X5_feed l E _ S hI.1 hI.2.2 _ _) ⟨rfl, rfl, Nat.le_of_ble_eq_true rfl, Nat.le_of_ble_eq_true rfl⟩ (Nat.le_of_ble_eq_true rfl) dL_law_822 rfl (fun r1 τ1 h1 => ?_)
  have hM1 := hI.2.1.frC h1.2.2
  refine gg_aload2 (pc' := 826) gx dL_law_825 rfl ?_
  refine gg_aload0 (pc' := 827) gx dL_law_826 rfl ?_
  refine gg_iload3 (pc' := 828) gx dL_law_827 rfl ?_
  refine gg_iconst (pc' := 829) gx (nI 1) dL_law_828 (by decide) rfl ?_
  refine gg_iadd (pc' := 830) gx dL_law_829 rfl ?_
  rw [nI_add]
  refine hl_sld (pc' := 831) cx (by omega) hL dL_law_830 rfl ?_
  refine gg_aload0 (pc' := 832) gx dL_law_831 rfl ?_
  refine gg_iload3 (pc' := 833) gx dL_law_832 rfl ?_
  refine gg_iconst (pc' := 834) gx (nI 2) dL_law_833 (by decide) rfl ?_
  refine gg_iadd (pc' := 835) gx dL_law_834 rfl ?_
  rw [nI_add]
  refine hl_sld (pc' := 836) cx (by omega) hL dL_law_835 rfl ?_
  refine clL_104 (pc' := 839) cx ⟨Nat.le_of_ble_eq_true rfl, Nat.le_of_ble_eq_true rfl⟩ (K_X6_feed l E _ S hM1 hI.2.2 _ _) ⟨rfl, rfl, Nat.le_of_ble_eq_true rfl, Nat.le_of_ble_eq_true rfl⟩ (Nat.le_of_ble_eq_true rfl) dL_law_836 rfl (fun r2 τ2 h2 => ?_)
  refine gg_icmp_eq (pc' := 842) gx 1224 dL_law_839 (by decide) rfl (fun _ => kk τ2 _ ⟨h1.2.1.frM h2.2.2, h2.2.1, kp_feed hI.2.2 _ _⟩) (fun z => absurd (h1.1.trans h2.1.symm) z)
set_option maxHeartbeats 4000000 in
set_option maxRecDepth 100000 in
theorem lc_22 (cx : hl_Cx E p s m args c b L xs) (hI : hl_I σ S) (hi : i + 6 ≤ L) (hL : L ≤ 3072) (kk : ∀ τ S', hl_I τ S' → gg_G (hl_P E τ) (hg_AW E) 60 1091 p l e room_1 s m args below meth c 4 Q 1224 [some (.ref b), some (.ref (hg_ad E 0)), some (.ref (hg_ad E 50)), some (.int (nI i))] []) : gg_G (hl_P E σ) (hg_AW E) 60 1091 p l e room_1 s m args below meth c 4 Q 844 [some (.ref b), some (.ref (hg_ad E 0)), some (.ref (hg_ad E 50)), some (.int (nI i))] [] := by
  have gx := cx.g
  refine gg_aload1 (pc' := 845) gx dL_law_844 rfl ?_
  refine clL_105 (pc' := 848) cx ⟨Nat.le_of_ble_eq_true rfl, Nat.le_of_ble_eq_true rfl⟩ (K_X5_wipe l E _ S hI.1) ⟨rfl, rfl, Nat.le_of_ble_eq_true rfl, Nat.le_of_ble_eq_true rfl⟩ (Nat.le_of_ble_eq_true rfl) dL_law_845 rfl (fun r1 τ1 h1 => ?_)
  have hM1 := hI.2.1.frC h1.2.2
  refine gg_aload2 (pc' := 849) gx dL_law_848 rfl ?_
  refine clL_108 (pc' := 852) cx ⟨Nat.le_of_ble_eq_true rfl, Nat.le_of_ble_eq_true rfl⟩ (K_X6_wipe l E _ S hM1 hI.2.2) ⟨rfl, rfl, Nat.le_of_ble_eq_true rfl, Nat.le_of_ble_eq_true rfl⟩ (Nat.le_of_ble_eq_true rfl) dL_law_849 rfl (fun r2 τ2 h2 => ?_)
  refine gg_icmp_eq (pc' := 855) gx 1224 dL_law_852 (by decide) rfl (fun _ => kk τ2 _ ⟨h1.2.1.frM h2.2.2, h2.2.1, kp_wipe hI.2.2⟩) (fun z => absurd (h1.1.trans h2.1.symm) z)
set_option maxHeartbeats 4000000 in
set_option maxRecDepth 100000 in
theorem lc_23 (cx : hl_Cx E p s m args c b L xs) (hI : hl_I σ S) (hi : i + 6 ≤ L) (hL : L ≤ 3072) (kk : ∀ τ S', hl_I τ S' → gg_G (hl_P E τ) (hg_AW E) 60 1091 p l e room_1 s m args below meth c 4 Q 1224 [some (.ref b), some (.ref (hg_ad E 0)), some (.ref (hg_ad E 50)), some (.int (nI i))] []) : gg_G (hl_P E σ) (hg_AW E) 60 1091 p l e room_1 s m args below meth c 4 Q 857 [some (.ref b), some (.ref (hg_ad E 0)), some (.ref (hg_ad E 50)), some (.int (nI i))] [] := by
  have gx := cx.g
  refine gg_aload1 (pc' := 858) gx dL_law_857 rfl ?_
  refine clL_109 (pc' := 861) cx ⟨Nat.le_of_ble_eq_true rfl, Nat.le_of_ble_eq_true rfl⟩ (K_X5_lobby l E _ S hI.1 hI.2.2) ⟨rfl, rfl, Nat.le_of_ble_eq_true rfl, Nat.le_of_ble_eq_true rfl⟩ (Nat.le_of_ble_eq_true rfl) dL_law_858 rfl (fun r1 τ1 h1 => ?_)
  have hM1 := hI.2.1.frC h1.2.2
  refine gg_aload2 (pc' := 862) gx dL_law_861 rfl ?_
  refine clL_112 (pc' := 865) cx ⟨Nat.le_of_ble_eq_true rfl, Nat.le_of_ble_eq_true rfl⟩ (K_X6_lobby l E _ S hM1 hI.2.2) ⟨rfl, rfl, Nat.le_of_ble_eq_true rfl, Nat.le_of_ble_eq_true rfl⟩ (Nat.le_of_ble_eq_true rfl) dL_law_862 rfl (fun r2 τ2 h2 => ?_)
  refine gg_icmp_eq (pc' := 868) gx 1224 dL_law_865 (by decide) rfl (fun _ => kk τ2 _ ⟨h1.2.1.frM h2.2.2, h2.2.1, kp_lobby hI.2.2⟩) (fun z => absurd (h1.1.trans h2.1.symm) z)
set_option maxHeartbeats 4000000 in
set_option maxRecDepth 100000 in
theorem lc_24 (cx : hl_Cx E p s m args c b L xs) (hI : hl_I σ S) (hi : i + 6 ≤ L) (hL : L ≤ 3072) (kk : ∀ τ S', hl_I τ S' → gg_G (hl_P E τ) (hg_AW E) 60 1091 p l e room_1 s m args below meth c 4 Q 1224 [some (.ref b), some (.ref (hg_ad E 0)), some (.ref (hg_ad E 50)), some (.int (nI i))] []) : gg_G (hl_P E σ) (hg_AW E) 60 1091 p l e room_1 s m args below meth c 4 Q 870 [some (.ref b), some (.ref (hg_ad E 0)), some (.ref (hg_ad E 50)), some (.int (nI i))] [] := by
  have gx := cx.g
  refine gg_aload1 (pc' := 871) gx dL_law_870 rfl ?_
  refine gg_aload0 (pc' := 872) gx dL_law_871 rfl ?_
  refine gg_iload3 (pc' := 873) gx dL_law_872 rfl ?_
  refine gg_iconst (pc' := 874) gx (nI 1) dL_law_873 (by decide) rfl ?_
  refine gg_iadd (pc' := 875) gx dL_law_874 rfl ?_
  rw [nI_add]
  refine hl_sld (pc' := 876) cx (by omega) hL dL_law_875 rfl ?_
  refine gg_aload0 (pc' := 877) gx dL_law_876 rfl ?_
  refine gg_iload3 (pc' := 878) gx dL_law_877 rfl ?_
  refine gg_iconst (pc' := 879) gx (nI 2) dL_law_878 (by decide) rfl ?_
  refine gg_iadd (pc' := 880) gx dL_law_879 rfl ?_
  rw [nI_add]
  refine hl_sld (pc' := 881) cx (by omega) hL dL_law_880 rfl ?_
  refine gg_aload0 (pc' := 882) gx dL_law_881 rfl ?_
  refine gg_iload3 (pc' := 883) gx dL_law_882 rfl ?_
  refine gg_iconst (pc' := 884) gx (nI 3) dL_law_883 (by decide) rfl ?_
  refine gg_iadd (pc' := 885) gx dL_law_884 rfl ?_
  rw [nI_add]
  refine hl_sld (pc' := 886) cx (by omega) hL dL_law_885 rfl ?_
  refine clL_113 (pc' := 889) cx ⟨Nat.le_of_ble_eq_true rfl, Nat.le_of_ble_eq_true rfl⟩ (K_X5_sheet l E _ S hI.1 _ _ _) ⟨rfl, rfl, Nat.le_of_ble_eq_true rfl, Nat.le_of_ble_eq_true rfl⟩ (Nat.le_of_ble_eq_true rfl) dL_law_886 rfl (fun r1 τ1 h1 => ?_)
  have hM1 := hI.2.1.frC h1.2.2
  refine gg_aload2 (pc' := 890) gx dL_law_889 rfl ?_
  refine gg_aload0 (pc' := 891) gx dL_law_890 rfl ?_
  refine gg_iload3 (pc' := 892) gx dL_law_891 rfl ?_
  refine gg_iconst (pc' := 893) gx (nI 1) dL_law_892 (by decide) rfl ?_
  refine gg_iadd (pc' := 894) gx dL_law_893 rfl ?_
  rw [nI_add]
  refine hl_sld (pc' := 895) cx (by omega) hL dL_law_894 rfl ?_
  refine gg_aload0 (pc' := 896) gx dL_law_895 rfl ?_
  refine gg_iload3 (pc' := 897) gx dL_law_896 rfl ?_
  refine gg_iconst (pc' := 898) gx (nI 2) dL_law_897 (by decide) rfl ?_
  refine gg_iadd (pc' := 899) gx dL_law_898 rfl ?_
  rw [nI_add]
  refine hl_sld (pc' := 900) cx (by omega) hL dL_law_899 rfl ?_
  refine gg_aload0 (pc' := 901) gx dL_law_900 rfl ?_
  refine gg_iload3 (pc' := 902) gx dL_law_901 rfl ?_
  refine gg_iconst (pc' := 903) gx (nI 3) dL_law_902 (by decide) rfl ?_
  refine gg_iadd (pc' := 904) gx dL_law_903 rfl ?_
  rw [nI_add]
  refine hl_sld (pc' := 905) cx (by omega) hL dL_law_904 rfl ?_
  refine clL_116 (pc' := 908) cx ⟨Nat.le_of_ble_eq_true rfl, Nat.le_of_ble_eq_true rfl⟩ (K_X6_sheet l E _ S hM1 hI.2.2 _ _ _) ⟨rfl, rfl, Nat.le_of_ble_eq_true rfl, Nat.le_of_ble_eq_true rfl⟩ (Nat.le_of_ble_eq_true rfl) dL_law_905 rfl (fun r2 τ2 h2 => ?_)
  refine gg_icmp_eq (pc' := 911) gx 1224 dL_law_908 (by decide) rfl (fun _ => kk τ2 _ ⟨h1.2.1.frM h2.2.2, h2.2.1, kp_sheet hI.2.2 _ _ _⟩) (fun z => absurd (h1.1.trans h2.1.symm) z)
set_option maxHeartbeats 4000000 in
set_option maxRecDepth 100000 in
theorem lc_25 (cx : hl_Cx E p s m args c b L xs) (hI : hl_I σ S) (hi : i + 6 ≤ L) (hL : L ≤ 3072) (kk : ∀ τ S', hl_I τ S' → gg_G (hl_P E τ) (hg_AW E) 60 1091 p l e room_1 s m args below meth c 4 Q 1224 [some (.ref b), some (.ref (hg_ad E 0)), some (.ref (hg_ad E 50)), some (.int (nI i))] []) : gg_G (hl_P E σ) (hg_AW E) 60 1091 p l e room_1 s m args below meth c 4 Q 913 [some (.ref b), some (.ref (hg_ad E 0)), some (.ref (hg_ad E 50)), some (.int (nI i))] [] := by
  have gx := cx.g
  refine gg_aload1 (pc' := 914) gx dL_law_913 rfl ?_
  refine gg_aload0 (pc' := 915) gx dL_law_914 rfl ?_
  refine gg_iload3 (pc' := 916) gx dL_law_915 rfl ?_
  refine gg_iconst (pc' := 917) gx (nI 1) dL_law_916 (by decide) rfl ?_
  refine gg_iadd (pc' := 918) gx dL_law_917 rfl ?_
  rw [nI_add]
  refine hl_sld (pc' := 919) cx (by omega) hL dL_law_918 rfl ?_
  refine gg_aload0 (pc' := 920) gx dL_law_919 rfl ?_
  refine gg_iload3 (pc' := 921) gx dL_law_920 rfl ?_
  refine gg_iconst (pc' := 922) gx (nI 2) dL_law_921 (by decide) rfl ?_
  refine gg_iadd (pc' := 923) gx dL_law_922 rfl ?_
  rw [nI_add]
  refine hl_sld (pc' := 924) cx (by omega) hL dL_law_923 rfl ?_
  refine gg_aload0 (pc' := 925) gx dL_law_924 rfl ?_
  refine gg_iload3 (pc' := 926) gx dL_law_925 rfl ?_
  refine gg_iconst (pc' := 927) gx (nI 3) dL_law_926 (by decide) rfl ?_
  refine gg_iadd (pc' := 928) gx dL_law_927 rfl ?_
  rw [nI_add]
  refine hl_sld (pc' := 929) cx (by omega) hL dL_law_928 rfl ?_
  refine gg_i2l (pc' := 930) gx dL_law_929 rfl ?_
  refine gg_bipush (pc' := 932) gx 32 dL_law_930 (by decide) rfl ?_
  refine gg_lshl (pc' := 933) gx dL_law_932 rfl ?_
  refine gg_aload0 (pc' := 934) gx dL_law_933 rfl ?_
  refine gg_iload3 (pc' := 935) gx dL_law_934 rfl ?_
  refine gg_iconst (pc' := 936) gx (nI 4) dL_law_935 (by decide) rfl ?_
  refine gg_iadd (pc' := 937) gx dL_law_936 rfl ?_
  rw [nI_add]
  refine hl_sld (pc' := 938) cx (by omega) hL dL_law_937 rfl ?_
  refine gg_i2l (pc' := 939) gx dL_law_938 rfl ?_
  refine hl_ldc2 (pc' := 942) cx kcL_117 dL_law_939 rfl ?_
  refine gg_land (pc' := 943) gx dL_law_942 rfl ?_
  refine gg_lor (pc' := 944) gx dL_law_943 rfl ?_
  refine clL_119 (pc' := 947) cx ⟨Nat.le_of_ble_eq_true rfl, Nat.le_of_ble_eq_true rfl⟩ (K_X5_write l E _ S hI.1 hI.2.2 _ _ _) ⟨rfl, rfl, Nat.le_of_ble_eq_true rfl, Nat.le_of_ble_eq_true rfl⟩ (Nat.le_of_ble_eq_true rfl) dL_law_944 rfl (fun r1 τ1 h1 => ?_)
  have hM1 := hI.2.1.frC h1.2.2
  refine gg_aload2 (pc' := 948) gx dL_law_947 rfl ?_
  refine gg_aload0 (pc' := 949) gx dL_law_948 rfl ?_
  refine gg_iload3 (pc' := 950) gx dL_law_949 rfl ?_
  refine gg_iconst (pc' := 951) gx (nI 1) dL_law_950 (by decide) rfl ?_
  refine gg_iadd (pc' := 952) gx dL_law_951 rfl ?_
  rw [nI_add]
  refine hl_sld (pc' := 953) cx (by omega) hL dL_law_952 rfl ?_
  refine gg_aload0 (pc' := 954) gx dL_law_953 rfl ?_
  refine gg_iload3 (pc' := 955) gx dL_law_954 rfl ?_
  refine gg_iconst (pc' := 956) gx (nI 2) dL_law_955 (by decide) rfl ?_
  refine gg_iadd (pc' := 957) gx dL_law_956 rfl ?_
  rw [nI_add]
  refine hl_sld (pc' := 958) cx (by omega) hL dL_law_957 rfl ?_
  refine gg_aload0 (pc' := 959) gx dL_law_958 rfl ?_
  refine gg_iload3 (pc' := 960) gx dL_law_959 rfl ?_
  refine gg_iconst (pc' := 961) gx (nI 3) dL_law_960 (by decide) rfl ?_
  refine gg_iadd (pc' := 962) gx dL_law_961 rfl ?_
  rw [nI_add]
  refine hl_sld (pc' := 963) cx (by omega) hL dL_law_962 rfl ?_
  refine gg_i2l (pc' := 964) gx dL_law_963 rfl ?_
  refine gg_bipush (pc' := 966) gx 32 dL_law_964 (by decide) rfl ?_
  refine gg_lshl (pc' := 967) gx dL_law_966 rfl ?_
  refine gg_aload0 (pc' := 968) gx dL_law_967 rfl ?_
  refine gg_iload3 (pc' := 969) gx dL_law_968 rfl ?_
  refine gg_iconst (pc' := 970) gx (nI 4) dL_law_969 (by decide) rfl ?_
  refine gg_iadd (pc' := 971) gx dL_law_970 rfl ?_
  rw [nI_add]
  refine hl_sld (pc' := 972) cx (by omega) hL dL_law_971 rfl ?_
  refine gg_i2l (pc' := 973) gx dL_law_972 rfl ?_
  refine hl_ldc2 (pc' := 976) cx kcL_117 dL_law_973 rfl ?_
  refine gg_land (pc' := 977) gx dL_law_976 rfl ?_
  refine gg_lor (pc' := 978) gx dL_law_977 rfl ?_
  refine clL_123 (pc' := 981) cx ⟨Nat.le_of_ble_eq_true rfl, Nat.le_of_ble_eq_true rfl⟩ (K_X6_write l E _ S hM1 hI.2.2 _ _ _) ⟨rfl, rfl, Nat.le_of_ble_eq_true rfl, Nat.le_of_ble_eq_true rfl⟩ (Nat.le_of_ble_eq_true rfl) dL_law_978 rfl (fun r2 τ2 h2 => ?_)
  refine gg_lcmp (pc' := 982) gx dL_law_981 rfl ?_
  refine gg_if_eq (pc' := 985) gx 1224 dL_law_982 (by decide) rfl (fun _ => kk τ2 _ ⟨h1.2.1.frM h2.2.2, h2.2.1, kp_write hI.2.2 _ _ _⟩) (fun z => absurd ((lg_cmp_eq _ _).mpr (h1.1.trans h2.1.symm)) z)
set_option maxHeartbeats 4000000 in
set_option maxRecDepth 100000 in
theorem lc_26 (cx : hl_Cx E p s m args c b L xs) (hI : hl_I σ S) (hi : i + 6 ≤ L) (hL : L ≤ 3072) (kk : ∀ τ S', hl_I τ S' → gg_G (hl_P E τ) (hg_AW E) 60 1091 p l e room_1 s m args below meth c 4 Q 1224 [some (.ref b), some (.ref (hg_ad E 0)), some (.ref (hg_ad E 50)), some (.int (nI i))] []) : gg_G (hl_P E σ) (hg_AW E) 60 1091 p l e room_1 s m args below meth c 4 Q 987 [some (.ref b), some (.ref (hg_ad E 0)), some (.ref (hg_ad E 50)), some (.int (nI i))] [] := by
  have gx := cx.g
  refine gg_aload1 (pc' := 988) gx dL_law_987 rfl ?_
  refine gg_aload0 (pc' := 989) gx dL_law_988 rfl ?_
  refine gg_iload3 (pc' := 990) gx dL_law_989 rfl ?_
  refine gg_iconst (pc' := 991) gx (nI 1) dL_law_990 (by decide) rfl ?_
  refine gg_iadd (pc' := 992) gx dL_law_991 rfl ?_
  rw [nI_add]
  refine hl_sld (pc' := 993) cx (by omega) hL dL_law_992 rfl ?_
  refine gg_aload0 (pc' := 994) gx dL_law_993 rfl ?_
  refine gg_iload3 (pc' := 995) gx dL_law_994 rfl ?_
  refine gg_iconst (pc' := 996) gx (nI 2) dL_law_995 (by decide) rfl ?_
  refine gg_iadd (pc' := 997) gx dL_law_996 rfl ?_
  rw [nI_add]
  refine hl_sld (pc' := 998) cx (by omega) hL dL_law_997 rfl ?_
  refine gg_aload0 (pc' := 999) gx dL_law_998 rfl ?_
  refine gg_iload3 (pc' := 1000) gx dL_law_999 rfl ?_
  refine gg_iconst (pc' := 1001) gx (nI 3) dL_law_1000 (by decide) rfl ?_
  refine gg_iadd (pc' := 1002) gx dL_law_1001 rfl ?_
  rw [nI_add]
  refine hl_sld (pc' := 1003) cx (by omega) hL dL_law_1002 rfl ?_
  refine gg_aload0 (pc' := 1004) gx dL_law_1003 rfl ?_
  refine gg_iload3 (pc' := 1005) gx dL_law_1004 rfl ?_
  refine gg_iconst (pc' := 1006) gx (nI 4) dL_law_1005 (by decide) rfl ?_
  refine gg_iadd (pc' := 1007) gx dL_law_1006 rfl ?_
  rw [nI_add]
  refine hl_sld (pc' := 1008) cx (by omega) hL dL_law_1007 rfl ?_
  refine gg_aload0 (pc' := 1009) gx dL_law_1008 rfl ?_
  refine gg_iload3 (pc' := 1010) gx dL_law_1009 rfl ?_
  refine gg_iconst (pc' := 1011) gx (nI 5) dL_law_1010 (by decide) rfl ?_
  refine gg_iadd (pc' := 1012) gx dL_law_1011 rfl ?_
  rw [nI_add]
  refine hl_sld (pc' := 1013) cx (by omega) hL dL_law_1012 rfl ?_
  refine clL_124 (pc' := 1016) cx ⟨Nat.le_of_ble_eq_true rfl, Nat.le_of_ble_eq_true rfl⟩ (K_X5_copy l E _ S hI.1 hI.2.2 _ _ _ _ _) ⟨rfl, rfl, Nat.le_of_ble_eq_true rfl, Nat.le_of_ble_eq_true rfl⟩ (Nat.le_of_ble_eq_true rfl) dL_law_1013 rfl (fun r1 τ1 h1 => ?_)
  have hM1 := hI.2.1.frC h1.2.2
  refine gg_aload2 (pc' := 1017) gx dL_law_1016 rfl ?_
  refine gg_aload0 (pc' := 1018) gx dL_law_1017 rfl ?_
  refine gg_iload3 (pc' := 1019) gx dL_law_1018 rfl ?_
  refine gg_iconst (pc' := 1020) gx (nI 1) dL_law_1019 (by decide) rfl ?_
  refine gg_iadd (pc' := 1021) gx dL_law_1020 rfl ?_
  rw [nI_add]
  refine hl_sld (pc' := 1022) cx (by omega) hL dL_law_1021 rfl ?_
  refine gg_aload0 (pc' := 1023) gx dL_law_1022 rfl ?_
  refine gg_iload3 (pc' := 1024) gx dL_law_1023 rfl ?_
  refine gg_iconst (pc' := 1025) gx (nI 2) dL_law_1024 (by decide) rfl ?_
  refine gg_iadd (pc' := 1026) gx dL_law_1025 rfl ?_
  rw [nI_add]
  refine hl_sld (pc' := 1027) cx (by omega) hL dL_law_1026 rfl ?_
  refine gg_aload0 (pc' := 1028) gx dL_law_1027 rfl ?_
  refine gg_iload3 (pc' := 1029) gx dL_law_1028 rfl ?_
  refine gg_iconst (pc' := 1030) gx (nI 3) dL_law_1029 (by decide) rfl ?_
  refine gg_iadd (pc' := 1031) gx dL_law_1030 rfl ?_
  rw [nI_add]
  refine hl_sld (pc' := 1032) cx (by omega) hL dL_law_1031 rfl ?_
  refine gg_aload0 (pc' := 1033) gx dL_law_1032 rfl ?_
  refine gg_iload3 (pc' := 1034) gx dL_law_1033 rfl ?_
  refine gg_iconst (pc' := 1035) gx (nI 4) dL_law_1034 (by decide) rfl ?_
  refine gg_iadd (pc' := 1036) gx dL_law_1035 rfl ?_
  rw [nI_add]
  refine hl_sld (pc' := 1037) cx (by omega) hL dL_law_1036 rfl ?_
  refine gg_aload0 (pc' := 1038) gx dL_law_1037 rfl ?_
  refine gg_iload3 (pc' := 1039) gx dL_law_1038 rfl ?_
  refine gg_iconst (pc' := 1040) gx (nI 5) dL_law_1039 (by decide) rfl ?_
  refine gg_iadd (pc' := 1041) gx dL_law_1040 rfl ?_
  rw [nI_add]
  refine hl_sld (pc' := 1042) cx (by omega) hL dL_law_1041 rfl ?_
  refine clL_128 (pc' := 1045) cx ⟨Nat.le_of_ble_eq_true rfl, Nat.le_of_ble_eq_true rfl⟩ (K_X6_copy l E _ S hM1 hI.2.2 _ _ _ _ _) ⟨rfl, rfl, Nat.le_of_ble_eq_true rfl, Nat.le_of_ble_eq_true rfl⟩ (Nat.le_of_ble_eq_true rfl) dL_law_1042 rfl (fun r2 τ2 h2 => ?_)
  refine gg_icmp_eq (pc' := 1048) gx 1224 dL_law_1045 (by decide) rfl (fun _ => kk τ2 _ ⟨h1.2.1.frM h2.2.2, h2.2.1, kp_copy hI.2.2 _ _ _ _ _⟩) (fun z => absurd (h1.1.trans h2.1.symm) z)
set_option maxHeartbeats 4000000 in
set_option maxRecDepth 100000 in
theorem lc_27 (cx : hl_Cx E p s m args c b L xs) (hI : hl_I σ S) (hi : i + 6 ≤ L) (hL : L ≤ 3072) (kk : ∀ τ S', hl_I τ S' → gg_G (hl_P E τ) (hg_AW E) 60 1091 p l e room_1 s m args below meth c 4 Q 1224 [some (.ref b), some (.ref (hg_ad E 0)), some (.ref (hg_ad E 50)), some (.int (nI i))] []) : gg_G (hl_P E σ) (hg_AW E) 60 1091 p l e room_1 s m args below meth c 4 Q 1050 [some (.ref b), some (.ref (hg_ad E 0)), some (.ref (hg_ad E 50)), some (.int (nI i))] [] := by
  have gx := cx.g
  refine gg_aload1 (pc' := 1051) gx dL_law_1050 rfl ?_
  refine gg_aload0 (pc' := 1052) gx dL_law_1051 rfl ?_
  refine gg_iload3 (pc' := 1053) gx dL_law_1052 rfl ?_
  refine gg_iconst (pc' := 1054) gx (nI 1) dL_law_1053 (by decide) rfl ?_
  refine gg_iadd (pc' := 1055) gx dL_law_1054 rfl ?_
  rw [nI_add]
  refine hl_sld (pc' := 1056) cx (by omega) hL dL_law_1055 rfl ?_
  refine clL_129 (pc' := 1059) cx ⟨Nat.le_of_ble_eq_true rfl, Nat.le_of_ble_eq_true rfl⟩ (K_X5_lays l E _ S hI.1 hI.2.2 _) ⟨rfl, rfl, Nat.le_of_ble_eq_true rfl, Nat.le_of_ble_eq_true rfl⟩ (Nat.le_of_ble_eq_true rfl) dL_law_1056 rfl (fun r1 τ1 h1 => ?_)
  have hM1 := hI.2.1.frC h1.2.2
  refine gg_aload2 (pc' := 1060) gx dL_law_1059 rfl ?_
  refine gg_aload0 (pc' := 1061) gx dL_law_1060 rfl ?_
  refine gg_iload3 (pc' := 1062) gx dL_law_1061 rfl ?_
  refine gg_iconst (pc' := 1063) gx (nI 1) dL_law_1062 (by decide) rfl ?_
  refine gg_iadd (pc' := 1064) gx dL_law_1063 rfl ?_
  rw [nI_add]
  refine hl_sld (pc' := 1065) cx (by omega) hL dL_law_1064 rfl ?_
  refine clL_132 (pc' := 1068) cx ⟨Nat.le_of_ble_eq_true rfl, Nat.le_of_ble_eq_true rfl⟩ (K_X6_lays l E _ S hM1 hI.2.2 _) ⟨rfl, rfl, Nat.le_of_ble_eq_true rfl, Nat.le_of_ble_eq_true rfl⟩ (Nat.le_of_ble_eq_true rfl) dL_law_1065 rfl (fun r2 τ2 h2 => ?_)
  refine gg_icmp_eq (pc' := 1071) gx 1224 dL_law_1068 (by decide) rfl (fun _ => kk τ2 _ ⟨h1.2.1.frM h2.2.2, h2.2.1, kp_lays hI.2.2 _⟩) (fun z => absurd (h1.1.trans h2.1.symm) z)
set_option maxHeartbeats 4000000 in
set_option maxRecDepth 100000 in
theorem lc_28 (cx : hl_Cx E p s m args c b L xs) (hI : hl_I σ S) (hi : i + 6 ≤ L) (hL : L ≤ 3072) (kk : ∀ τ S', hl_I τ S' → gg_G (hl_P E τ) (hg_AW E) 60 1091 p l e room_1 s m args below meth c 4 Q 1224 [some (.ref b), some (.ref (hg_ad E 0)), some (.ref (hg_ad E 50)), some (.int (nI i))] []) : gg_G (hl_P E σ) (hg_AW E) 60 1091 p l e room_1 s m args below meth c 4 Q 1073 [some (.ref b), some (.ref (hg_ad E 0)), some (.ref (hg_ad E 50)), some (.int (nI i))] [] := by
  have gx := cx.g
  refine gg_aload1 (pc' := 1074) gx dL_law_1073 rfl ?_
  refine gg_aload0 (pc' := 1075) gx dL_law_1074 rfl ?_
  refine gg_iload3 (pc' := 1076) gx dL_law_1075 rfl ?_
  refine gg_iconst (pc' := 1077) gx (nI 1) dL_law_1076 (by decide) rfl ?_
  refine gg_iadd (pc' := 1078) gx dL_law_1077 rfl ?_
  rw [nI_add]
  refine hl_sld (pc' := 1079) cx (by omega) hL dL_law_1078 rfl ?_
  refine gg_aload0 (pc' := 1080) gx dL_law_1079 rfl ?_
  refine gg_iload3 (pc' := 1081) gx dL_law_1080 rfl ?_
  refine gg_iconst (pc' := 1082) gx (nI 2) dL_law_1081 (by decide) rfl ?_
  refine gg_iadd (pc' := 1083) gx dL_law_1082 rfl ?_
  rw [nI_add]
  refine hl_sld (pc' := 1084) cx (by omega) hL dL_law_1083 rfl ?_
  refine clL_133 (pc' := 1087) cx ⟨Nat.le_of_ble_eq_true rfl, Nat.le_of_ble_eq_true rfl⟩ (K_X5_book l E _ S hI.1 hI.2.2 _ _) ⟨rfl, rfl, Nat.le_of_ble_eq_true rfl, Nat.le_of_ble_eq_true rfl⟩ (Nat.le_of_ble_eq_true rfl) dL_law_1084 rfl (fun r1 τ1 h1 => ?_)
  have hM1 := hI.2.1.frC h1.2.2
  refine gg_aload2 (pc' := 1088) gx dL_law_1087 rfl ?_
  refine gg_aload0 (pc' := 1089) gx dL_law_1088 rfl ?_
  refine gg_iload3 (pc' := 1090) gx dL_law_1089 rfl ?_
  refine gg_iconst (pc' := 1091) gx (nI 1) dL_law_1090 (by decide) rfl ?_
  refine gg_iadd (pc' := 1092) gx dL_law_1091 rfl ?_
  rw [nI_add]
  refine hl_sld (pc' := 1093) cx (by omega) hL dL_law_1092 rfl ?_
  refine gg_aload0 (pc' := 1094) gx dL_law_1093 rfl ?_
  refine gg_iload3 (pc' := 1095) gx dL_law_1094 rfl ?_
  refine gg_iconst (pc' := 1096) gx (nI 2) dL_law_1095 (by decide) rfl ?_
  refine gg_iadd (pc' := 1097) gx dL_law_1096 rfl ?_
  rw [nI_add]
  refine hl_sld (pc' := 1098) cx (by omega) hL dL_law_1097 rfl ?_
  refine clL_136 (pc' := 1101) cx ⟨Nat.le_of_ble_eq_true rfl, Nat.le_of_ble_eq_true rfl⟩ (K_X6_book l E _ S hM1 hI.2.2 _ _) ⟨rfl, rfl, Nat.le_of_ble_eq_true rfl, Nat.le_of_ble_eq_true rfl⟩ (Nat.le_of_ble_eq_true rfl) dL_law_1098 rfl (fun r2 τ2 h2 => ?_)
  refine gg_icmp_eq (pc' := 1104) gx 1224 dL_law_1101 (by decide) rfl (fun _ => kk τ2 _ ⟨h1.2.1.frM h2.2.2, h2.2.1, kp_book hI.2.2 _ _⟩) (fun z => absurd (h1.1.trans h2.1.symm) z)
set_option maxHeartbeats 4000000 in
set_option maxRecDepth 100000 in
theorem lc_29 (cx : hl_Cx E p s m args c b L xs) (hI : hl_I σ S) (hi : i + 6 ≤ L) (hL : L ≤ 3072) (kk : ∀ τ S', hl_I τ S' → gg_G (hl_P E τ) (hg_AW E) 60 1091 p l e room_1 s m args below meth c 4 Q 1224 [some (.ref b), some (.ref (hg_ad E 0)), some (.ref (hg_ad E 50)), some (.int (nI i))] []) : gg_G (hl_P E σ) (hg_AW E) 60 1091 p l e room_1 s m args below meth c 4 Q 1106 [some (.ref b), some (.ref (hg_ad E 0)), some (.ref (hg_ad E 50)), some (.int (nI i))] [] := by
  have gx := cx.g
  refine gg_aload1 (pc' := 1107) gx dL_law_1106 rfl ?_
  refine gg_aload0 (pc' := 1108) gx dL_law_1107 rfl ?_
  refine gg_iload3 (pc' := 1109) gx dL_law_1108 rfl ?_
  refine gg_iconst (pc' := 1110) gx (nI 1) dL_law_1109 (by decide) rfl ?_
  refine gg_iadd (pc' := 1111) gx dL_law_1110 rfl ?_
  rw [nI_add]
  refine hl_sld (pc' := 1112) cx (by omega) hL dL_law_1111 rfl ?_
  refine gg_aload0 (pc' := 1113) gx dL_law_1112 rfl ?_
  refine gg_iload3 (pc' := 1114) gx dL_law_1113 rfl ?_
  refine gg_iconst (pc' := 1115) gx (nI 2) dL_law_1114 (by decide) rfl ?_
  refine gg_iadd (pc' := 1116) gx dL_law_1115 rfl ?_
  rw [nI_add]
  refine hl_sld (pc' := 1117) cx (by omega) hL dL_law_1116 rfl ?_
  refine clL_137 (pc' := 1120) cx ⟨Nat.le_of_ble_eq_true rfl, Nat.le_of_ble_eq_true rfl⟩ (K_X5_read l E _ S hI.1 hI.2.2 _ _) ⟨rfl, rfl, Nat.le_of_ble_eq_true rfl, Nat.le_of_ble_eq_true rfl⟩ (Nat.le_of_ble_eq_true rfl) dL_law_1117 rfl (fun r1 τ1 h1 => ?_)
  have hM1 := hI.2.1.frC h1.2.2
  refine gg_aload2 (pc' := 1121) gx dL_law_1120 rfl ?_
  refine gg_aload0 (pc' := 1122) gx dL_law_1121 rfl ?_
  refine gg_iload3 (pc' := 1123) gx dL_law_1122 rfl ?_
  refine gg_iconst (pc' := 1124) gx (nI 1) dL_law_1123 (by decide) rfl ?_
  refine gg_iadd (pc' := 1125) gx dL_law_1124 rfl ?_
  rw [nI_add]
  refine hl_sld (pc' := 1126) cx (by omega) hL dL_law_1125 rfl ?_
  refine gg_aload0 (pc' := 1127) gx dL_law_1126 rfl ?_
  refine gg_iload3 (pc' := 1128) gx dL_law_1127 rfl ?_
  refine gg_iconst (pc' := 1129) gx (nI 2) dL_law_1128 (by decide) rfl ?_
  refine gg_iadd (pc' := 1130) gx dL_law_1129 rfl ?_
  rw [nI_add]
  refine hl_sld (pc' := 1131) cx (by omega) hL dL_law_1130 rfl ?_
  refine clL_140 (pc' := 1134) cx ⟨Nat.le_of_ble_eq_true rfl, Nat.le_of_ble_eq_true rfl⟩ (K_X6_read l E _ S hM1 hI.2.2 _ _) ⟨rfl, rfl, Nat.le_of_ble_eq_true rfl, Nat.le_of_ble_eq_true rfl⟩ (Nat.le_of_ble_eq_true rfl) dL_law_1131 rfl (fun r2 τ2 h2 => ?_)
  refine gg_icmp_eq (pc' := 1137) gx 1224 dL_law_1134 (by decide) rfl (fun _ => kk τ2 _ ⟨h1.2.1.frM h2.2.2, h2.2.1, kp_read hI.2.2 _ _⟩) (fun z => absurd (h1.1.trans h2.1.symm) z)
set_option maxHeartbeats 4000000 in
set_option maxRecDepth 100000 in
theorem lc_30 (cx : hl_Cx E p s m args c b L xs) (hI : hl_I σ S) (hi : i + 6 ≤ L) (hL : L ≤ 3072) (kk : ∀ τ S', hl_I τ S' → gg_G (hl_P E τ) (hg_AW E) 60 1091 p l e room_1 s m args below meth c 4 Q 1224 [some (.ref b), some (.ref (hg_ad E 0)), some (.ref (hg_ad E 50)), some (.int (nI i))] []) : gg_G (hl_P E σ) (hg_AW E) 60 1091 p l e room_1 s m args below meth c 4 Q 1139 [some (.ref b), some (.ref (hg_ad E 0)), some (.ref (hg_ad E 50)), some (.int (nI i))] [] := by
  have gx := cx.g
  refine gg_aload1 (pc' := 1140) gx dL_law_1139 rfl ?_
  refine clL_141 (pc' := 1143) cx ⟨Nat.le_of_ble_eq_true rfl, Nat.le_of_ble_eq_true rfl⟩ (K_X5_image l E _ S hI.1) ⟨rfl, rfl, Nat.le_of_ble_eq_true rfl, Nat.le_of_ble_eq_true rfl⟩ (Nat.le_of_ble_eq_true rfl) dL_law_1140 rfl (fun r1 τ1 h1 => ?_)
  have hM1 := hI.2.1.frC h1.2.2
  refine gg_aload2 (pc' := 1144) gx dL_law_1143 rfl ?_
  refine clL_144 (pc' := 1147) cx ⟨Nat.le_of_ble_eq_true rfl, Nat.le_of_ble_eq_true rfl⟩ (K_X6_image l E _ S hM1 hI.2.2) ⟨rfl, rfl, Nat.le_of_ble_eq_true rfl, Nat.le_of_ble_eq_true rfl⟩ (Nat.le_of_ble_eq_true rfl) dL_law_1144 rfl (fun r2 τ2 h2 => ?_)
  refine gg_icmp_eq (pc' := 1150) gx 1224 dL_law_1147 (by decide) rfl (fun _ => kk τ2 _ ⟨h1.2.1.frM h2.2.2, h2.2.1, kp_image hI.2.2⟩) (fun z => absurd (h1.1.trans h2.1.symm) z)
set_option maxHeartbeats 4000000 in
set_option maxRecDepth 100000 in
theorem lc_31 (cx : hl_Cx E p s m args c b L xs) (hI : hl_I σ S) (hi : i + 6 ≤ L) (hL : L ≤ 3072) (kk : ∀ τ S', hl_I τ S' → gg_G (hl_P E τ) (hg_AW E) 60 1091 p l e room_1 s m args below meth c 4 Q 1224 [some (.ref b), some (.ref (hg_ad E 0)), some (.ref (hg_ad E 50)), some (.int (nI i))] []) : gg_G (hl_P E σ) (hg_AW E) 60 1091 p l e room_1 s m args below meth c 4 Q 1152 [some (.ref b), some (.ref (hg_ad E 0)), some (.ref (hg_ad E 50)), some (.int (nI i))] [] := by
  have gx := cx.g
  refine gg_aload1 (pc' := 1153) gx dL_law_1152 rfl ?_
  refine clL_145 (pc' := 1156) cx ⟨Nat.le_of_ble_eq_true rfl, Nat.le_of_ble_eq_true rfl⟩ (K_X5_undo l E _ S hI.1 hI.2.2) ⟨rfl, rfl, Nat.le_of_ble_eq_true rfl, Nat.le_of_ble_eq_true rfl⟩ (Nat.le_of_ble_eq_true rfl) dL_law_1153 rfl (fun r1 τ1 h1 => ?_)
  have hM1 := hI.2.1.frC h1.2.2
  refine gg_aload2 (pc' := 1157) gx dL_law_1156 rfl ?_
  refine clL_148 (pc' := 1160) cx ⟨Nat.le_of_ble_eq_true rfl, Nat.le_of_ble_eq_true rfl⟩ (K_X6_undo l E _ S hM1 hI.2.2) ⟨rfl, rfl, Nat.le_of_ble_eq_true rfl, Nat.le_of_ble_eq_true rfl⟩ (Nat.le_of_ble_eq_true rfl) dL_law_1157 rfl (fun r2 τ2 h2 => ?_)
  refine gg_icmp_eq (pc' := 1163) gx 1224 dL_law_1160 (by decide) rfl (fun _ => kk τ2 _ ⟨h1.2.1.frM h2.2.2, h2.2.1, kp_undo hI.2.2⟩) (fun z => absurd (h1.1.trans h2.1.symm) z)
set_option maxHeartbeats 4000000 in
set_option maxRecDepth 100000 in
theorem lc_32 (cx : hl_Cx E p s m args c b L xs) (hI : hl_I σ S) (hi : i + 6 ≤ L) (hL : L ≤ 3072) (kk : ∀ τ S', hl_I τ S' → gg_G (hl_P E τ) (hg_AW E) 60 1091 p l e room_1 s m args below meth c 4 Q 1224 [some (.ref b), some (.ref (hg_ad E 0)), some (.ref (hg_ad E 50)), some (.int (nI i))] []) : gg_G (hl_P E σ) (hg_AW E) 60 1091 p l e room_1 s m args below meth c 4 Q 1165 [some (.ref b), some (.ref (hg_ad E 0)), some (.ref (hg_ad E 50)), some (.int (nI i))] [] := by
  have gx := cx.g
  refine gg_aload1 (pc' := 1166) gx dL_law_1165 rfl ?_
  refine clL_149 (pc' := 1169) cx ⟨Nat.le_of_ble_eq_true rfl, Nat.le_of_ble_eq_true rfl⟩ (K_X5_tear l E _ S hI.1) ⟨rfl, rfl, Nat.le_of_ble_eq_true rfl, Nat.le_of_ble_eq_true rfl⟩ (Nat.le_of_ble_eq_true rfl) dL_law_1166 rfl (fun r1 τ1 h1 => ?_)
  have hM1 := hI.2.1.frC h1.2.2
  refine gg_aload2 (pc' := 1170) gx dL_law_1169 rfl ?_
  refine clL_152 (pc' := 1173) cx ⟨Nat.le_of_ble_eq_true rfl, Nat.le_of_ble_eq_true rfl⟩ (K_X6_tear l E _ S hM1 hI.2.2) ⟨rfl, rfl, Nat.le_of_ble_eq_true rfl, Nat.le_of_ble_eq_true rfl⟩ (Nat.le_of_ble_eq_true rfl) dL_law_1170 rfl (fun r2 τ2 h2 => ?_)
  refine gg_icmp_eq (pc' := 1176) gx 1224 dL_law_1173 (by decide) rfl (fun _ => kk τ2 _ ⟨h1.2.1.frM h2.2.2, h2.2.1, kp_tear hI.2.2⟩) (fun z => absurd (h1.1.trans h2.1.symm) z)
set_option maxHeartbeats 4000000 in
set_option maxRecDepth 100000 in
theorem lc_33 (cx : hl_Cx E p s m args c b L xs) (hI : hl_I σ S) (hi : i + 6 ≤ L) (hL : L ≤ 3072) (kk : ∀ τ S', hl_I τ S' → gg_G (hl_P E τ) (hg_AW E) 60 1091 p l e room_1 s m args below meth c 4 Q 1224 [some (.ref b), some (.ref (hg_ad E 0)), some (.ref (hg_ad E 50)), some (.int (nI i))] []) : gg_G (hl_P E σ) (hg_AW E) 60 1091 p l e room_1 s m args below meth c 4 Q 1178 [some (.ref b), some (.ref (hg_ad E 0)), some (.ref (hg_ad E 50)), some (.int (nI i))] [] := by
  have gx := cx.g
  refine gg_aload1 (pc' := 1179) gx dL_law_1178 rfl ?_
  refine gg_aload0 (pc' := 1180) gx dL_law_1179 rfl ?_
  refine gg_iload3 (pc' := 1181) gx dL_law_1180 rfl ?_
  refine gg_iconst (pc' := 1182) gx (nI 1) dL_law_1181 (by decide) rfl ?_
  refine gg_iadd (pc' := 1183) gx dL_law_1182 rfl ?_
  rw [nI_add]
  refine hl_sld (pc' := 1184) cx (by omega) hL dL_law_1183 rfl ?_
  refine clL_153 (pc' := 1187) cx ⟨Nat.le_of_ble_eq_true rfl, Nat.le_of_ble_eq_true rfl⟩ (K_X5_count l E _ S hI.1 _) ⟨rfl, rfl, Nat.le_of_ble_eq_true rfl, Nat.le_of_ble_eq_true rfl⟩ (Nat.le_of_ble_eq_true rfl) dL_law_1184 rfl (fun r1 τ1 h1 => ?_)
  have hM1 := hI.2.1.frC h1.2.2
  refine gg_aload2 (pc' := 1188) gx dL_law_1187 rfl ?_
  refine gg_aload0 (pc' := 1189) gx dL_law_1188 rfl ?_
  refine gg_iload3 (pc' := 1190) gx dL_law_1189 rfl ?_
  refine gg_iconst (pc' := 1191) gx (nI 1) dL_law_1190 (by decide) rfl ?_
  refine gg_iadd (pc' := 1192) gx dL_law_1191 rfl ?_
  rw [nI_add]
  refine hl_sld (pc' := 1193) cx (by omega) hL dL_law_1192 rfl ?_
  refine clL_156 (pc' := 1196) cx ⟨Nat.le_of_ble_eq_true rfl, Nat.le_of_ble_eq_true rfl⟩ (K_X6_count l E _ S hM1 hI.2.2 _) ⟨rfl, rfl, Nat.le_of_ble_eq_true rfl, Nat.le_of_ble_eq_true rfl⟩ (Nat.le_of_ble_eq_true rfl) dL_law_1193 rfl (fun r2 τ2 h2 => ?_)
  refine gg_icmp_eq (pc' := 1199) gx 1224 dL_law_1196 (by decide) rfl (fun _ => kk τ2 _ ⟨h1.2.1.frM h2.2.2, h2.2.1, kp_count hI.2.2 _⟩) (fun z => absurd (h1.1.trans h2.1.symm) z)
set_option maxHeartbeats 4000000 in
set_option maxRecDepth 100000 in
theorem lc_34 (cx : hl_Cx E p s m args c b L xs) (hI : hl_I σ S) (hi : i + 6 ≤ L) (hL : L ≤ 3072) (kk : ∀ τ S', hl_I τ S' → gg_G (hl_P E τ) (hg_AW E) 60 1091 p l e room_1 s m args below meth c 4 Q 1224 [some (.ref b), some (.ref (hg_ad E 0)), some (.ref (hg_ad E 50)), some (.int (nI i))] []) : gg_G (hl_P E σ) (hg_AW E) 60 1091 p l e room_1 s m args below meth c 4 Q 1201 [some (.ref b), some (.ref (hg_ad E 0)), some (.ref (hg_ad E 50)), some (.int (nI i))] [] := by
  have gx := cx.g
  refine gg_aload1 (pc' := 1202) gx dL_law_1201 rfl ?_
  refine gg_aload0 (pc' := 1203) gx dL_law_1202 rfl ?_
  refine gg_iload3 (pc' := 1204) gx dL_law_1203 rfl ?_
  refine gg_iconst (pc' := 1205) gx (nI 1) dL_law_1204 (by decide) rfl ?_
  refine gg_iadd (pc' := 1206) gx dL_law_1205 rfl ?_
  rw [nI_add]
  refine hl_sld (pc' := 1207) cx (by omega) hL dL_law_1206 rfl ?_
  refine clL_157 (pc' := 1210) cx ⟨Nat.le_of_ble_eq_true rfl, Nat.le_of_ble_eq_true rfl⟩ (K_X5_status l E _ S hI.1 _) ⟨rfl, rfl, Nat.le_of_ble_eq_true rfl, Nat.le_of_ble_eq_true rfl⟩ (Nat.le_of_ble_eq_true rfl) dL_law_1207 rfl (fun r1 τ1 h1 => ?_)
  have hM1 := hI.2.1.frC h1.2.2
  refine gg_aload2 (pc' := 1211) gx dL_law_1210 rfl ?_
  refine gg_aload0 (pc' := 1212) gx dL_law_1211 rfl ?_
  refine gg_iload3 (pc' := 1213) gx dL_law_1212 rfl ?_
  refine gg_iconst (pc' := 1214) gx (nI 1) dL_law_1213 (by decide) rfl ?_
  refine gg_iadd (pc' := 1215) gx dL_law_1214 rfl ?_
  rw [nI_add]
  refine hl_sld (pc' := 1216) cx (by omega) hL dL_law_1215 rfl ?_
  refine clL_160 (pc' := 1219) cx ⟨Nat.le_of_ble_eq_true rfl, Nat.le_of_ble_eq_true rfl⟩ (K_X6_status l E _ S hM1 hI.2.2 _) ⟨rfl, rfl, Nat.le_of_ble_eq_true rfl, Nat.le_of_ble_eq_true rfl⟩ (Nat.le_of_ble_eq_true rfl) dL_law_1216 rfl (fun r2 τ2 h2 => ?_)
  refine gg_icmp_eq (pc' := 1222) gx 1224 dL_law_1219 (by decide) rfl (fun _ => kk τ2 _ ⟨h1.2.1.frM h2.2.2, h2.2.1, kp_status hI.2.2 _⟩) (fun z => absurd (h1.1.trans h2.1.symm) z)
end LAWC
