/-! PART 58: the law's loop -/
theorem lt21 {x : Int} (h : 0 ≤ x ∧ x ≤ 63) : -2147483648 ≤ x ∧ x < 2147483648 := by omega
theorem and63 (x : Int) : ∃ z : Int, iI x &&& iI 63 = iI z ∧ 0 ≤ z ∧ z ≤ 63 := by
  refine ⟨((iI x) &&& iI 63).toInt, (iI_of _).symm, ?_⟩
  have := and_rng (iI x) 6 63 (by decide) (by decide)
  omega
theorem RelM.frX {Z : Zt} {σ υ : Sg} (h : RelM Z σ) (hF : Fr XC σ υ) : RelM Z υ := h.fr hF (fun a q => Or.inl q)
theorem RelX.frM {Z : Zt} {σ υ : Sg} (h : RelX Z σ) (hF : Fr MC σ υ) : RelX Z υ := h.fr hF (fun a q => Or.inr q)
theorem shp_X0 : shp 0 = .inl (7, [(2, 14), (2, 22), (0, 0), (2, 1), (2, 2), (2, 3), (2, 5), (2, 7), (2, 8), (2, 10), (2, 12)]) := rfl
theorem shp_M0 : ∃ q, shp 54 = .inl (8, q) := ⟨_, rfl⟩
set_option maxRecDepth 20000 in
theorem L_case0 {G : Gl} {p : Program} {e : Env} {s : State} {m : MethodId} {below : List Frame} {meth : Method} {c : Code} {b L : Nat} {xs : Nat → Int32} (X : LX G p s m meth c b L xs) {Z : Zt} {σ : Sg} (hX : RelX Z σ) (hM : RelM Z σ) (hI : OkI Z) {i : Nat} (hi : i + 6 ≤ L) (ih : ∀ (Z2 : Zt) (σ2 : Sg), RelX Z2 σ2 → RelM Z2 σ2 → OkI Z2 → LW G p e s m below meth c b 1441 [(0, .ref b), (1, .ref (gA G 0)), (2, .ref (gA G 54)), (3, .int (iI (i : Int)))] [] σ2) : LW G p e s m below meth c b 200 [(0, .ref b), (1, .ref (gA G 0)), (2, .ref (gA G 54)), (3, .int (iI (i : Int)))] [] σ := by
  have hO := hI.1
  refine L_aload_n (k := 1) (pc := 200) X rfl dL_law_200 ?_
  refine L_aload_n (k := 0) (pc := 201) X rfl dL_law_201 ?_
  refine L_iload_n (k := 3) (pc := 202) X rfl dL_law_202 ?_
  refine L_iconst (pc := 203) X dL_law_203 ?_
  refine L_iadd (pc := 204) X dL_law_204 ?_
  refine L_sld (i + 1) (pc := 205) X (by omega) (by omega) dL_law_205 ?_
  refine L_aload_n (k := 0) (pc := 206) X rfl dL_law_206 ?_
  refine L_iload_n (k := 3) (pc := 207) X rfl dL_law_207 ?_
  refine L_iconst (pc := 208) X dL_law_208 ?_
  refine L_iadd (pc := 209) X dL_law_209 ?_
  refine L_sld (i + 2) (pc := 210) X (by omega) (by omega) dL_law_210 ?_
  refine L_aload_n (k := 0) (pc := 211) X rfl dL_law_211 ?_
  refine L_iload_n (k := 3) (pc := 212) X rfl dL_law_212 ?_
  refine L_iconst (pc := 213) X dL_law_213 ?_
  refine L_iadd (pc := 214) X dL_law_214 ?_
  refine L_sld (i + 3) (pc := 215) X (by omega) (by omega) dL_law_215 ?_
  refine L_call (pc := 216) X kL_13 rfl rfl (c_X8_row (d := 0) hX hO (i32_lo _) (i32_hi _) (i32_lo _) (i32_hi _) (i32_lo _) (i32_hi _)) (by decide) dL_law_216 rfl rfl (Nat.le_of_ble_eq_true rfl) (Nat.le_of_ble_eq_true rfl) (fun v0 υ hυ => ?_)
  obtain ⟨rfl, g0, f0⟩ := hυ
  have hM2 := hM.frX f0
  refine L_aload_n (k := 2) (pc := 219) X rfl dL_law_219 ?_
  refine L_aload_n (k := 0) (pc := 220) X rfl dL_law_220 ?_
  refine L_iload_n (k := 3) (pc := 221) X rfl dL_law_221 ?_
  refine L_iconst (pc := 222) X dL_law_222 ?_
  refine L_iadd (pc := 223) X dL_law_223 ?_
  refine L_sld (i + 1) (pc := 224) X (by omega) (by omega) dL_law_224 ?_
  refine L_aload_n (k := 0) (pc := 225) X rfl dL_law_225 ?_
  refine L_iload_n (k := 3) (pc := 226) X rfl dL_law_226 ?_
  refine L_iconst (pc := 227) X dL_law_227 ?_
  refine L_iadd (pc := 228) X dL_law_228 ?_
  refine L_sld (i + 2) (pc := 229) X (by omega) (by omega) dL_law_229 ?_
  refine L_aload_n (k := 0) (pc := 230) X rfl dL_law_230 ?_
  refine L_iload_n (k := 3) (pc := 231) X rfl dL_law_231 ?_
  refine L_iconst (pc := 232) X dL_law_232 ?_
  refine L_iadd (pc := 233) X dL_law_233 ?_
  refine L_sld (i + 3) (pc := 234) X (by omega) (by omega) dL_law_234 ?_
  refine L_call (pc := 235) X kL_17 rfl rfl (c_X9_row (d := 0) hM2 hO (i32_lo _) (i32_hi _) (i32_lo _) (i32_hi _) (i32_lo _) (i32_hi _)) (by decide) dL_law_235 rfl rfl (Nat.le_of_ble_eq_true rfl) (Nat.le_of_ble_eq_true rfl) (fun v1 ω hω => ?_)
  obtain ⟨rfl, g1, f1⟩ := hω
  refine L_eq 1441 (pc := 238) X dL_law_238 (by decide) ?_
  exact ih _ _ (g0.frM f1) g1 (hI.oRow _ _ _)
set_option maxRecDepth 20000 in
theorem L_case1 {G : Gl} {p : Program} {e : Env} {s : State} {m : MethodId} {below : List Frame} {meth : Method} {c : Code} {b L : Nat} {xs : Nat → Int32} (X : LX G p s m meth c b L xs) {Z : Zt} {σ : Sg} (hX : RelX Z σ) (hM : RelM Z σ) (hI : OkI Z) {i : Nat} (hi : i + 6 ≤ L) (ih : ∀ (Z2 : Zt) (σ2 : Sg), RelX Z2 σ2 → RelM Z2 σ2 → OkI Z2 → LW G p e s m below meth c b 1441 [(0, .ref b), (1, .ref (gA G 0)), (2, .ref (gA G 54)), (3, .int (iI (i : Int)))] [] σ2) : LW G p e s m below meth c b 243 [(0, .ref b), (1, .ref (gA G 0)), (2, .ref (gA G 54)), (3, .int (iI (i : Int)))] [] σ := by
  have hO := hI.1
  refine L_aload_n (k := 1) (pc := 243) X rfl dL_law_243 ?_
  refine L_aload_n (k := 0) (pc := 244) X rfl dL_law_244 ?_
  refine L_iload_n (k := 3) (pc := 245) X rfl dL_law_245 ?_
  refine L_iconst (pc := 246) X dL_law_246 ?_
  refine L_iadd (pc := 247) X dL_law_247 ?_
  refine L_sld (i + 1) (pc := 248) X (by omega) (by omega) dL_law_248 ?_
  refine L_aload_n (k := 0) (pc := 249) X rfl dL_law_249 ?_
  refine L_iload_n (k := 3) (pc := 250) X rfl dL_law_250 ?_
  refine L_iconst (pc := 251) X dL_law_251 ?_
  refine L_iadd (pc := 252) X dL_law_252 ?_
  refine L_sld (i + 2) (pc := 253) X (by omega) (by omega) dL_law_253 ?_
  refine L_aload_n (k := 0) (pc := 254) X rfl dL_law_254 ?_
  refine L_iload_n (k := 3) (pc := 255) X rfl dL_law_255 ?_
  refine L_iconst (pc := 256) X dL_law_256 ?_
  refine L_iadd (pc := 257) X dL_law_257 ?_
  refine L_sld (i + 3) (pc := 258) X (by omega) (by omega) dL_law_258 ?_
  refine L_i2l (pc := 259) X dL_law_259 ?_
  refine L_bipush (pc := 260) X dL_law_260 (by decide) ?_
  refine L_lshl (pc := 262) X dL_law_262 ?_
  refine L_aload_n (k := 0) (pc := 263) X rfl dL_law_263 ?_
  refine L_iload_n (k := 3) (pc := 264) X rfl dL_law_264 ?_
  refine L_iconst (pc := 265) X dL_law_265 ?_
  refine L_iadd (pc := 266) X dL_law_266 ?_
  refine L_sld (i + 4) (pc := 267) X (by omega) (by omega) dL_law_267 ?_
  refine L_i2l (pc := 268) X dL_law_268 ?_
  refine L_ldc2 (pc := 269) X nL_18 dL_law_269 ?_
  refine L_land (pc := 272) X dL_law_272 ?_
  refine L_lor (pc := 273) X dL_law_273 ?_
  refine L_call (pc := 274) X kL_20 rfl rfl (c_X8_set (d := 0) hX hO (i32_lo _) (i32_hi _) (i32_lo _) (i32_hi _)) (by decide) dL_law_274 rfl rfl (Nat.le_of_ble_eq_true rfl) (Nat.le_of_ble_eq_true rfl) (fun v0 υ hυ => ?_)
  obtain ⟨rfl, g0, f0⟩ := hυ
  have hM2 := hM.frX f0
  refine L_aload_n (k := 2) (pc := 277) X rfl dL_law_277 ?_
  refine L_aload_n (k := 0) (pc := 278) X rfl dL_law_278 ?_
  refine L_iload_n (k := 3) (pc := 279) X rfl dL_law_279 ?_
  refine L_iconst (pc := 280) X dL_law_280 ?_
  refine L_iadd (pc := 281) X dL_law_281 ?_
  refine L_sld (i + 1) (pc := 282) X (by omega) (by omega) dL_law_282 ?_
  refine L_aload_n (k := 0) (pc := 283) X rfl dL_law_283 ?_
  refine L_iload_n (k := 3) (pc := 284) X rfl dL_law_284 ?_
  refine L_iconst (pc := 285) X dL_law_285 ?_
  refine L_iadd (pc := 286) X dL_law_286 ?_
  refine L_sld (i + 2) (pc := 287) X (by omega) (by omega) dL_law_287 ?_
  refine L_aload_n (k := 0) (pc := 288) X rfl dL_law_288 ?_
  refine L_iload_n (k := 3) (pc := 289) X rfl dL_law_289 ?_
  refine L_iconst (pc := 290) X dL_law_290 ?_
  refine L_iadd (pc := 291) X dL_law_291 ?_
  refine L_sld (i + 3) (pc := 292) X (by omega) (by omega) dL_law_292 ?_
  refine L_i2l (pc := 293) X dL_law_293 ?_
  refine L_bipush (pc := 294) X dL_law_294 (by decide) ?_
  refine L_lshl (pc := 296) X dL_law_296 ?_
  refine L_aload_n (k := 0) (pc := 297) X rfl dL_law_297 ?_
  refine L_iload_n (k := 3) (pc := 298) X rfl dL_law_298 ?_
  refine L_iconst (pc := 299) X dL_law_299 ?_
  refine L_iadd (pc := 300) X dL_law_300 ?_
  refine L_sld (i + 4) (pc := 301) X (by omega) (by omega) dL_law_301 ?_
  refine L_i2l (pc := 302) X dL_law_302 ?_
  refine L_ldc2 (pc := 303) X nL_18 dL_law_303 ?_
  refine L_land (pc := 306) X dL_law_306 ?_
  refine L_lor (pc := 307) X dL_law_307 ?_
  refine L_call (pc := 308) X kL_24 rfl rfl (c_X9_set (d := 0) hM2 hO (i32_lo _) (i32_hi _) (i32_lo _) (i32_hi _)) (by decide) dL_law_308 rfl rfl (Nat.le_of_ble_eq_true rfl) (Nat.le_of_ble_eq_true rfl) (fun v1 ω hω => ?_)
  obtain ⟨rfl, g1, f1⟩ := hω
  refine L_eq 1441 (pc := 311) X dL_law_311 (by decide) ?_
  exact ih _ _ (g0.frM f1) g1 (hI.oSet _ _ _)
set_option maxRecDepth 20000 in
theorem L_case2 {G : Gl} {p : Program} {e : Env} {s : State} {m : MethodId} {below : List Frame} {meth : Method} {c : Code} {b L : Nat} {xs : Nat → Int32} (X : LX G p s m meth c b L xs) {Z : Zt} {σ : Sg} (hX : RelX Z σ) (hM : RelM Z σ) (hI : OkI Z) {i : Nat} (hi : i + 6 ≤ L) (ih : ∀ (Z2 : Zt) (σ2 : Sg), RelX Z2 σ2 → RelM Z2 σ2 → OkI Z2 → LW G p e s m below meth c b 1441 [(0, .ref b), (1, .ref (gA G 0)), (2, .ref (gA G 54)), (3, .int (iI (i : Int)))] [] σ2) : LW G p e s m below meth c b 316 [(0, .ref b), (1, .ref (gA G 0)), (2, .ref (gA G 54)), (3, .int (iI (i : Int)))] [] σ := by
  have hO := hI.1
  refine L_aload_n (k := 1) (pc := 316) X rfl dL_law_316 ?_
  refine L_aload_n (k := 0) (pc := 317) X rfl dL_law_317 ?_
  refine L_iload_n (k := 3) (pc := 318) X rfl dL_law_318 ?_
  refine L_iconst (pc := 319) X dL_law_319 ?_
  refine L_iadd (pc := 320) X dL_law_320 ?_
  refine L_sld (i + 1) (pc := 321) X (by omega) (by omega) dL_law_321 ?_
  refine L_aload_n (k := 0) (pc := 322) X rfl dL_law_322 ?_
  refine L_iload_n (k := 3) (pc := 323) X rfl dL_law_323 ?_
  refine L_iconst (pc := 324) X dL_law_324 ?_
  refine L_iadd (pc := 325) X dL_law_325 ?_
  refine L_sld (i + 2) (pc := 326) X (by omega) (by omega) dL_law_326 ?_
  refine L_aload_n (k := 0) (pc := 327) X rfl dL_law_327 ?_
  refine L_iload_n (k := 3) (pc := 328) X rfl dL_law_328 ?_
  refine L_iconst (pc := 329) X dL_law_329 ?_
  refine L_iadd (pc := 330) X dL_law_330 ?_
  refine L_sld (i + 3) (pc := 331) X (by omega) (by omega) dL_law_331 ?_
  refine L_aload_n (k := 0) (pc := 332) X rfl dL_law_332 ?_
  refine L_iload_n (k := 3) (pc := 333) X rfl dL_law_333 ?_
  refine L_iconst (pc := 334) X dL_law_334 ?_
  refine L_iadd (pc := 335) X dL_law_335 ?_
  refine L_sld (i + 4) (pc := 336) X (by omega) (by omega) dL_law_336 ?_
  refine L_aload_n (k := 0) (pc := 337) X rfl dL_law_337 ?_
  refine L_iload_n (k := 3) (pc := 338) X rfl dL_law_338 ?_
  refine L_iconst (pc := 339) X dL_law_339 ?_
  refine L_iadd (pc := 340) X dL_law_340 ?_
  refine L_sld (i + 5) (pc := 341) X (by omega) (by omega) dL_law_341 ?_
  refine L_call (pc := 342) X kL_25 rfl rfl (c_X8_copy (d := 0) hX hO (i32_lo _) (i32_hi _) (i32_lo _) (i32_hi _) (i32_lo _) (i32_hi _) (i32_lo _) (i32_hi _) (i32_lo _) (i32_hi _)) (by decide) dL_law_342 rfl rfl (Nat.le_of_ble_eq_true rfl) (Nat.le_of_ble_eq_true rfl) (fun v0 υ hυ => ?_)
  obtain ⟨rfl, g0, f0⟩ := hυ
  have hM2 := hM.frX f0
  refine L_aload_n (k := 2) (pc := 345) X rfl dL_law_345 ?_
  refine L_aload_n (k := 0) (pc := 346) X rfl dL_law_346 ?_
  refine L_iload_n (k := 3) (pc := 347) X rfl dL_law_347 ?_
  refine L_iconst (pc := 348) X dL_law_348 ?_
  refine L_iadd (pc := 349) X dL_law_349 ?_
  refine L_sld (i + 1) (pc := 350) X (by omega) (by omega) dL_law_350 ?_
  refine L_aload_n (k := 0) (pc := 351) X rfl dL_law_351 ?_
  refine L_iload_n (k := 3) (pc := 352) X rfl dL_law_352 ?_
  refine L_iconst (pc := 353) X dL_law_353 ?_
  refine L_iadd (pc := 354) X dL_law_354 ?_
  refine L_sld (i + 2) (pc := 355) X (by omega) (by omega) dL_law_355 ?_
  refine L_aload_n (k := 0) (pc := 356) X rfl dL_law_356 ?_
  refine L_iload_n (k := 3) (pc := 357) X rfl dL_law_357 ?_
  refine L_iconst (pc := 358) X dL_law_358 ?_
  refine L_iadd (pc := 359) X dL_law_359 ?_
  refine L_sld (i + 3) (pc := 360) X (by omega) (by omega) dL_law_360 ?_
  refine L_aload_n (k := 0) (pc := 361) X rfl dL_law_361 ?_
  refine L_iload_n (k := 3) (pc := 362) X rfl dL_law_362 ?_
  refine L_iconst (pc := 363) X dL_law_363 ?_
  refine L_iadd (pc := 364) X dL_law_364 ?_
  refine L_sld (i + 4) (pc := 365) X (by omega) (by omega) dL_law_365 ?_
  refine L_aload_n (k := 0) (pc := 366) X rfl dL_law_366 ?_
  refine L_iload_n (k := 3) (pc := 367) X rfl dL_law_367 ?_
  refine L_iconst (pc := 368) X dL_law_368 ?_
  refine L_iadd (pc := 369) X dL_law_369 ?_
  refine L_sld (i + 5) (pc := 370) X (by omega) (by omega) dL_law_370 ?_
  refine L_call (pc := 371) X kL_29 rfl rfl (c_X9_copy (d := 0) hM2 hO (i32_lo _) (i32_hi _) (i32_lo _) (i32_hi _) (i32_lo _) (i32_hi _) (i32_lo _) (i32_hi _) (i32_lo _) (i32_hi _)) (by decide) dL_law_371 rfl rfl (Nat.le_of_ble_eq_true rfl) (Nat.le_of_ble_eq_true rfl) (fun v1 ω hω => ?_)
  obtain ⟨rfl, g1, f1⟩ := hω
  refine L_eq 1441 (pc := 374) X dL_law_374 (by decide) ?_
  exact ih _ _ (g0.frM f1) g1 (hI.oCopy _ _ _ _ _)
set_option maxRecDepth 20000 in
theorem L_case3 {G : Gl} {p : Program} {e : Env} {s : State} {m : MethodId} {below : List Frame} {meth : Method} {c : Code} {b L : Nat} {xs : Nat → Int32} (X : LX G p s m meth c b L xs) {Z : Zt} {σ : Sg} (hX : RelX Z σ) (hM : RelM Z σ) (hI : OkI Z) {i : Nat} (hi : i + 6 ≤ L) (ih : ∀ (Z2 : Zt) (σ2 : Sg), RelX Z2 σ2 → RelM Z2 σ2 → OkI Z2 → LW G p e s m below meth c b 1441 [(0, .ref b), (1, .ref (gA G 0)), (2, .ref (gA G 54)), (3, .int (iI (i : Int)))] [] σ2) : LW G p e s m below meth c b 379 [(0, .ref b), (1, .ref (gA G 0)), (2, .ref (gA G 54)), (3, .int (iI (i : Int)))] [] σ := by
  have hO := hI.1
  refine L_aload_n (k := 1) (pc := 379) X rfl dL_law_379 ?_
  refine L_aload_n (k := 0) (pc := 380) X rfl dL_law_380 ?_
  refine L_iload_n (k := 3) (pc := 381) X rfl dL_law_381 ?_
  refine L_iconst (pc := 382) X dL_law_382 ?_
  refine L_iadd (pc := 383) X dL_law_383 ?_
  refine L_sld (i + 1) (pc := 384) X (by omega) (by omega) dL_law_384 ?_
  refine L_aload_n (k := 0) (pc := 385) X rfl dL_law_385 ?_
  refine L_iload_n (k := 3) (pc := 386) X rfl dL_law_386 ?_
  refine L_iconst (pc := 387) X dL_law_387 ?_
  refine L_iadd (pc := 388) X dL_law_388 ?_
  refine L_sld (i + 2) (pc := 389) X (by omega) (by omega) dL_law_389 ?_
  refine L_call (pc := 390) X kL_30 rfl rfl (c_X8_element (d := 0) hX hO (i32_lo _) (i32_hi _) (i32_lo _) (i32_hi _)) (by decide) dL_law_390 rfl rfl (Nat.le_of_ble_eq_true rfl) (Nat.le_of_ble_eq_true rfl) (fun v0 υ hυ => ?_)
  obtain ⟨rfl, rfl⟩ := hυ
  have hM2 := hM
  refine L_aload_n (k := 2) (pc := 393) X rfl dL_law_393 ?_
  refine L_aload_n (k := 0) (pc := 394) X rfl dL_law_394 ?_
  refine L_iload_n (k := 3) (pc := 395) X rfl dL_law_395 ?_
  refine L_iconst (pc := 396) X dL_law_396 ?_
  refine L_iadd (pc := 397) X dL_law_397 ?_
  refine L_sld (i + 1) (pc := 398) X (by omega) (by omega) dL_law_398 ?_
  refine L_aload_n (k := 0) (pc := 399) X rfl dL_law_399 ?_
  refine L_iload_n (k := 3) (pc := 400) X rfl dL_law_400 ?_
  refine L_iconst (pc := 401) X dL_law_401 ?_
  refine L_iadd (pc := 402) X dL_law_402 ?_
  refine L_sld (i + 2) (pc := 403) X (by omega) (by omega) dL_law_403 ?_
  refine L_call (pc := 404) X kL_34 rfl rfl (c_X9_element (d := 0) hM2 hO (i32_lo _) (i32_hi _) (i32_lo _) (i32_hi _)) (by decide) dL_law_404 rfl rfl (Nat.le_of_ble_eq_true rfl) (Nat.le_of_ble_eq_true rfl) (fun v1 ω hω => ?_)
  obtain ⟨rfl, rfl⟩ := hω
  refine L_lcmp (pc := 407) X dL_law_407 ?_
  refine L_if0 1441 (pc := 408) X dL_law_408 (by decide) (fun _ => ?_) (fun h => absurd (lg_same _) h)
  exact ih Z _ hX hM hI
set_option maxRecDepth 20000 in
theorem L_case4 {G : Gl} {p : Program} {e : Env} {s : State} {m : MethodId} {below : List Frame} {meth : Method} {c : Code} {b L : Nat} {xs : Nat → Int32} (X : LX G p s m meth c b L xs) {Z : Zt} {σ : Sg} (hX : RelX Z σ) (hM : RelM Z σ) (hI : OkI Z) {i : Nat} (hi : i + 6 ≤ L) (ih : ∀ (Z2 : Zt) (σ2 : Sg), RelX Z2 σ2 → RelM Z2 σ2 → OkI Z2 → LW G p e s m below meth c b 1441 [(0, .ref b), (1, .ref (gA G 0)), (2, .ref (gA G 54)), (3, .int (iI (i : Int)))] [] σ2) : LW G p e s m below meth c b 413 [(0, .ref b), (1, .ref (gA G 0)), (2, .ref (gA G 54)), (3, .int (iI (i : Int)))] [] σ := by
  have hO := hI.1
  refine L_aload_n (k := 1) (pc := 413) X rfl dL_law_413 ?_
  refine L_aload_n (k := 0) (pc := 414) X rfl dL_law_414 ?_
  refine L_iload_n (k := 3) (pc := 415) X rfl dL_law_415 ?_
  refine L_iconst (pc := 416) X dL_law_416 ?_
  refine L_iadd (pc := 417) X dL_law_417 ?_
  refine L_sld (i + 1) (pc := 418) X (by omega) (by omega) dL_law_418 ?_
  refine L_aload_n (k := 0) (pc := 419) X rfl dL_law_419 ?_
  refine L_iload_n (k := 3) (pc := 420) X rfl dL_law_420 ?_
  refine L_iconst (pc := 421) X dL_law_421 ?_
  refine L_iadd (pc := 422) X dL_law_422 ?_
  refine L_sld (i + 2) (pc := 423) X (by omega) (by omega) dL_law_423 ?_
  refine L_call (pc := 424) X kL_35 rfl rfl (c_X8_show (d := 0) hX hO (i32_lo _) (i32_hi _) (i32_lo _) (i32_hi _)) (by decide) dL_law_424 rfl rfl (Nat.le_of_ble_eq_true rfl) (Nat.le_of_ble_eq_true rfl) (fun v0 υ hυ => ?_)
  obtain ⟨rfl, g0, f0⟩ := hυ
  have hM2 := hM.frX f0
  refine L_aload_n (k := 2) (pc := 427) X rfl dL_law_427 ?_
  refine L_aload_n (k := 0) (pc := 428) X rfl dL_law_428 ?_
  refine L_iload_n (k := 3) (pc := 429) X rfl dL_law_429 ?_
  refine L_iconst (pc := 430) X dL_law_430 ?_
  refine L_iadd (pc := 431) X dL_law_431 ?_
  refine L_sld (i + 1) (pc := 432) X (by omega) (by omega) dL_law_432 ?_
  refine L_aload_n (k := 0) (pc := 433) X rfl dL_law_433 ?_
  refine L_iload_n (k := 3) (pc := 434) X rfl dL_law_434 ?_
  refine L_iconst (pc := 435) X dL_law_435 ?_
  refine L_iadd (pc := 436) X dL_law_436 ?_
  refine L_sld (i + 2) (pc := 437) X (by omega) (by omega) dL_law_437 ?_
  refine L_call (pc := 438) X kL_39 rfl rfl (c_X9_show (d := 0) hM2 hO (i32_lo _) (i32_hi _) (i32_lo _) (i32_hi _)) (by decide) dL_law_438 rfl rfl (Nat.le_of_ble_eq_true rfl) (Nat.le_of_ble_eq_true rfl) (fun v1 ω hω => ?_)
  obtain ⟨rfl, g1, f1⟩ := hω
  refine L_eq 1441 (pc := 441) X dL_law_441 (by decide) ?_
  exact ih _ _ (g0.frM f1) g1 (hI.oShow _ _)
set_option maxRecDepth 20000 in
theorem L_case5 {G : Gl} {p : Program} {e : Env} {s : State} {m : MethodId} {below : List Frame} {meth : Method} {c : Code} {b L : Nat} {xs : Nat → Int32} (X : LX G p s m meth c b L xs) {Z : Zt} {σ : Sg} (hX : RelX Z σ) (hM : RelM Z σ) (hI : OkI Z) {i : Nat} (hi : i + 6 ≤ L) (ih : ∀ (Z2 : Zt) (σ2 : Sg), RelX Z2 σ2 → RelM Z2 σ2 → OkI Z2 → LW G p e s m below meth c b 1441 [(0, .ref b), (1, .ref (gA G 0)), (2, .ref (gA G 54)), (3, .int (iI (i : Int)))] [] σ2) : LW G p e s m below meth c b 446 [(0, .ref b), (1, .ref (gA G 0)), (2, .ref (gA G 54)), (3, .int (iI (i : Int)))] [] σ := by
  have hO := hI.1
  refine L_aload_n (k := 1) (pc := 446) X rfl dL_law_446 ?_
  refine L_aload_n (k := 0) (pc := 447) X rfl dL_law_447 ?_
  refine L_iload_n (k := 3) (pc := 448) X rfl dL_law_448 ?_
  refine L_iconst (pc := 449) X dL_law_449 ?_
  refine L_iadd (pc := 450) X dL_law_450 ?_
  refine L_sld (i + 1) (pc := 451) X (by omega) (by omega) dL_law_451 ?_
  refine L_call (pc := 452) X kL_40 rfl rfl (c_X8_holds (d := 0) hX hO (i32_lo _) (i32_hi _)) (by decide) dL_law_452 rfl rfl (Nat.le_of_ble_eq_true rfl) (Nat.le_of_ble_eq_true rfl) (fun v0 υ hυ => ?_)
  obtain ⟨rfl, rfl⟩ := hυ
  have hM2 := hM
  refine L_aload_n (k := 2) (pc := 455) X rfl dL_law_455 ?_
  refine L_aload_n (k := 0) (pc := 456) X rfl dL_law_456 ?_
  refine L_iload_n (k := 3) (pc := 457) X rfl dL_law_457 ?_
  refine L_iconst (pc := 458) X dL_law_458 ?_
  refine L_iadd (pc := 459) X dL_law_459 ?_
  refine L_sld (i + 1) (pc := 460) X (by omega) (by omega) dL_law_460 ?_
  refine L_call (pc := 461) X kL_44 rfl rfl (c_X9_holds (d := 0) hM2 hO (i32_lo _) (i32_hi _)) (by decide) dL_law_461 rfl rfl (Nat.le_of_ble_eq_true rfl) (Nat.le_of_ble_eq_true rfl) (fun v1 ω hω => ?_)
  obtain ⟨rfl, rfl⟩ := hω
  refine L_eq 1441 (pc := 464) X dL_law_464 (by decide) ?_
  exact ih Z _ hX hM hI
set_option maxRecDepth 20000 in
theorem L_case6 {G : Gl} {p : Program} {e : Env} {s : State} {m : MethodId} {below : List Frame} {meth : Method} {c : Code} {b L : Nat} {xs : Nat → Int32} (X : LX G p s m meth c b L xs) {Z : Zt} {σ : Sg} (hX : RelX Z σ) (hM : RelM Z σ) (hI : OkI Z) {i : Nat} (hi : i + 6 ≤ L) (ih : ∀ (Z2 : Zt) (σ2 : Sg), RelX Z2 σ2 → RelM Z2 σ2 → OkI Z2 → LW G p e s m below meth c b 1441 [(0, .ref b), (1, .ref (gA G 0)), (2, .ref (gA G 54)), (3, .int (iI (i : Int)))] [] σ2) : LW G p e s m below meth c b 469 [(0, .ref b), (1, .ref (gA G 0)), (2, .ref (gA G 54)), (3, .int (iI (i : Int)))] [] σ := by
  have hO := hI.1
  refine L_aload_n (k := 1) (pc := 469) X rfl dL_law_469 ?_
  refine L_aload_n (k := 0) (pc := 470) X rfl dL_law_470 ?_
  refine L_iload_n (k := 3) (pc := 471) X rfl dL_law_471 ?_
  refine L_iconst (pc := 472) X dL_law_472 ?_
  refine L_iadd (pc := 473) X dL_law_473 ?_
  refine L_sld (i + 1) (pc := 474) X (by omega) (by omega) dL_law_474 ?_
  refine L_aload_n (k := 0) (pc := 475) X rfl dL_law_475 ?_
  refine L_iload_n (k := 3) (pc := 476) X rfl dL_law_476 ?_
  refine L_iconst (pc := 477) X dL_law_477 ?_
  refine L_iadd (pc := 478) X dL_law_478 ?_
  refine L_sld (i + 2) (pc := 479) X (by omega) (by omega) dL_law_479 ?_
  refine L_call (pc := 480) X kL_45 rfl rfl (c_X8_says (d := 0) hX hO (i32_lo _) (i32_hi _) (i32_lo _) (i32_hi _)) (by decide) dL_law_480 rfl rfl (Nat.le_of_ble_eq_true rfl) (Nat.le_of_ble_eq_true rfl) (fun v0 υ hυ => ?_)
  obtain ⟨rfl, g0, f0⟩ := hυ
  have hM2 := hM.frX f0
  refine L_aload_n (k := 2) (pc := 483) X rfl dL_law_483 ?_
  refine L_aload_n (k := 0) (pc := 484) X rfl dL_law_484 ?_
  refine L_iload_n (k := 3) (pc := 485) X rfl dL_law_485 ?_
  refine L_iconst (pc := 486) X dL_law_486 ?_
  refine L_iadd (pc := 487) X dL_law_487 ?_
  refine L_sld (i + 1) (pc := 488) X (by omega) (by omega) dL_law_488 ?_
  refine L_aload_n (k := 0) (pc := 489) X rfl dL_law_489 ?_
  refine L_iload_n (k := 3) (pc := 490) X rfl dL_law_490 ?_
  refine L_iconst (pc := 491) X dL_law_491 ?_
  refine L_iadd (pc := 492) X dL_law_492 ?_
  refine L_sld (i + 2) (pc := 493) X (by omega) (by omega) dL_law_493 ?_
  refine L_call (pc := 494) X kL_48 rfl rfl (c_X9_says (d := 0) hM2 hO (i32_lo _) (i32_hi _) (i32_lo _) (i32_hi _)) (by decide) dL_law_494 rfl rfl (Nat.le_of_ble_eq_true rfl) (Nat.le_of_ble_eq_true rfl) (fun v1 ω hω => ?_)
  obtain ⟨rfl, g1, f1⟩ := hω
  refine L_eq 1441 (pc := 497) X dL_law_497 (by decide) ?_
  exact ih _ _ (g0.frM f1) g1 (hI.oSays _ _)
set_option maxRecDepth 20000 in
theorem L_case7 {G : Gl} {p : Program} {e : Env} {s : State} {m : MethodId} {below : List Frame} {meth : Method} {c : Code} {b L : Nat} {xs : Nat → Int32} (X : LX G p s m meth c b L xs) {Z : Zt} {σ : Sg} (hX : RelX Z σ) (hM : RelM Z σ) (hI : OkI Z) {i : Nat} (hi : i + 6 ≤ L) (ih : ∀ (Z2 : Zt) (σ2 : Sg), RelX Z2 σ2 → RelM Z2 σ2 → OkI Z2 → LW G p e s m below meth c b 1441 [(0, .ref b), (1, .ref (gA G 0)), (2, .ref (gA G 54)), (3, .int (iI (i : Int)))] [] σ2) : LW G p e s m below meth c b 502 [(0, .ref b), (1, .ref (gA G 0)), (2, .ref (gA G 54)), (3, .int (iI (i : Int)))] [] σ := by
  have hO := hI.1
  refine L_aload_n (k := 1) (pc := 502) X rfl dL_law_502 ?_
  refine L_aload_n (k := 0) (pc := 503) X rfl dL_law_503 ?_
  refine L_iload_n (k := 3) (pc := 504) X rfl dL_law_504 ?_
  refine L_iconst (pc := 505) X dL_law_505 ?_
  refine L_iadd (pc := 506) X dL_law_506 ?_
  refine L_sld (i + 1) (pc := 507) X (by omega) (by omega) dL_law_507 ?_
  refine L_aload_n (k := 0) (pc := 508) X rfl dL_law_508 ?_
  refine L_iload_n (k := 3) (pc := 509) X rfl dL_law_509 ?_
  refine L_iconst (pc := 510) X dL_law_510 ?_
  refine L_iadd (pc := 511) X dL_law_511 ?_
  refine L_sld (i + 2) (pc := 512) X (by omega) (by omega) dL_law_512 ?_
  refine L_if0 520 (pc := 513) X dL_law_513 (by decide) (fun h513 => ?_) (fun h513 => ?_)
  · skip
    refine L_iconst (pc := 520) X dL_law_520 ?_
    refine L_call (pc := 521) X kL_49 rfl rfl (c_X8_house (d := 0) hX hO (b := false) (i32_lo _) (i32_hi _)) (by decide) dL_law_521 rfl rfl (Nat.le_of_ble_eq_true rfl) (Nat.le_of_ble_eq_true rfl) (fun v0 υ hυ => ?_)
    obtain ⟨rfl, g0, f0⟩ := hυ
    have hM2 := hM.frX f0
    refine L_aload_n (k := 2) (pc := 524) X rfl dL_law_524 ?_
    refine L_aload_n (k := 0) (pc := 525) X rfl dL_law_525 ?_
    refine L_iload_n (k := 3) (pc := 526) X rfl dL_law_526 ?_
    refine L_iconst (pc := 527) X dL_law_527 ?_
    refine L_iadd (pc := 528) X dL_law_528 ?_
    refine L_sld (i + 1) (pc := 529) X (by omega) (by omega) dL_law_529 ?_
    refine L_aload_n (k := 0) (pc := 530) X rfl dL_law_530 ?_
    refine L_iload_n (k := 3) (pc := 531) X rfl dL_law_531 ?_
    refine L_iconst (pc := 532) X dL_law_532 ?_
    refine L_iadd (pc := 533) X dL_law_533 ?_
    refine L_sld (i + 2) (pc := 534) X (by omega) (by omega) dL_law_534 ?_
    refine L_if0 542 (pc := 535) X dL_law_535 (by decide) (fun _ => ?_) (fun h => absurd h513 h)
    refine L_iconst (pc := 542) X dL_law_542 ?_
    refine L_call (pc := 543) X kL_53 rfl rfl (c_X9_house (d := 0) hM2 hO (b := false) (i32_lo _) (i32_hi _)) (by decide) dL_law_543 rfl rfl (Nat.le_of_ble_eq_true rfl) (Nat.le_of_ble_eq_true rfl) (fun v1 ω hω => ?_)
    obtain ⟨rfl, g1, f1⟩ := hω
    refine L_eq 1441 (pc := 546) X dL_law_546 (by decide) ?_
    exact ih _ _ (g0.frM f1) g1 (hI.oHouse _ _)
  · skip
    refine L_iconst (pc := 516) X dL_law_516 ?_
    refine L_goto 521 (pc := 517) X dL_law_517 (by decide) ?_
    refine L_call (pc := 521) X kL_49 rfl rfl (c_X8_house (d := 0) hX hO (b := true) (i32_lo _) (i32_hi _)) (by decide) dL_law_521 rfl rfl (Nat.le_of_ble_eq_true rfl) (Nat.le_of_ble_eq_true rfl) (fun v0 υ hυ => ?_)
    obtain ⟨rfl, g0, f0⟩ := hυ
    have hM2 := hM.frX f0
    refine L_aload_n (k := 2) (pc := 524) X rfl dL_law_524 ?_
    refine L_aload_n (k := 0) (pc := 525) X rfl dL_law_525 ?_
    refine L_iload_n (k := 3) (pc := 526) X rfl dL_law_526 ?_
    refine L_iconst (pc := 527) X dL_law_527 ?_
    refine L_iadd (pc := 528) X dL_law_528 ?_
    refine L_sld (i + 1) (pc := 529) X (by omega) (by omega) dL_law_529 ?_
    refine L_aload_n (k := 0) (pc := 530) X rfl dL_law_530 ?_
    refine L_iload_n (k := 3) (pc := 531) X rfl dL_law_531 ?_
    refine L_iconst (pc := 532) X dL_law_532 ?_
    refine L_iadd (pc := 533) X dL_law_533 ?_
    refine L_sld (i + 2) (pc := 534) X (by omega) (by omega) dL_law_534 ?_
    refine L_if0 542 (pc := 535) X dL_law_535 (by decide) (fun h => absurd h h513) (fun _ => ?_)
    refine L_iconst (pc := 538) X dL_law_538 ?_
    refine L_goto 543 (pc := 539) X dL_law_539 (by decide) ?_
    refine L_call (pc := 543) X kL_53 rfl rfl (c_X9_house (d := 0) hM2 hO (b := true) (i32_lo _) (i32_hi _)) (by decide) dL_law_543 rfl rfl (Nat.le_of_ble_eq_true rfl) (Nat.le_of_ble_eq_true rfl) (fun v1 ω hω => ?_)
    obtain ⟨rfl, g1, f1⟩ := hω
    refine L_eq 1441 (pc := 546) X dL_law_546 (by decide) ?_
    exact ih _ _ (g0.frM f1) g1 (hI.oHouse _ _)
set_option maxRecDepth 20000 in
theorem L_case8 {G : Gl} {p : Program} {e : Env} {s : State} {m : MethodId} {below : List Frame} {meth : Method} {c : Code} {b L : Nat} {xs : Nat → Int32} (X : LX G p s m meth c b L xs) {Z : Zt} {σ : Sg} (hX : RelX Z σ) (hM : RelM Z σ) (hI : OkI Z) {i : Nat} (hi : i + 6 ≤ L) (ih : ∀ (Z2 : Zt) (σ2 : Sg), RelX Z2 σ2 → RelM Z2 σ2 → OkI Z2 → LW G p e s m below meth c b 1441 [(0, .ref b), (1, .ref (gA G 0)), (2, .ref (gA G 54)), (3, .int (iI (i : Int)))] [] σ2) : LW G p e s m below meth c b 551 [(0, .ref b), (1, .ref (gA G 0)), (2, .ref (gA G 54)), (3, .int (iI (i : Int)))] [] σ := by
  have hO := hI.1
  refine L_aload_n (k := 1) (pc := 551) X rfl dL_law_551 ?_
  refine L_aload_n (k := 0) (pc := 552) X rfl dL_law_552 ?_
  refine L_iload_n (k := 3) (pc := 553) X rfl dL_law_553 ?_
  refine L_iconst (pc := 554) X dL_law_554 ?_
  refine L_iadd (pc := 555) X dL_law_555 ?_
  refine L_sld (i + 1) (pc := 556) X (by omega) (by omega) dL_law_556 ?_
  refine L_aload_n (k := 0) (pc := 557) X rfl dL_law_557 ?_
  refine L_iload_n (k := 3) (pc := 558) X rfl dL_law_558 ?_
  refine L_iconst (pc := 559) X dL_law_559 ?_
  refine L_iadd (pc := 560) X dL_law_560 ?_
  refine L_sld (i + 2) (pc := 561) X (by omega) (by omega) dL_law_561 ?_
  refine L_aload_n (k := 0) (pc := 562) X rfl dL_law_562 ?_
  refine L_iload_n (k := 3) (pc := 563) X rfl dL_law_563 ?_
  refine L_iconst (pc := 564) X dL_law_564 ?_
  refine L_iadd (pc := 565) X dL_law_565 ?_
  refine L_sld (i + 3) (pc := 566) X (by omega) (by omega) dL_law_566 ?_
  refine L_aload_n (k := 0) (pc := 567) X rfl dL_law_567 ?_
  refine L_iload_n (k := 3) (pc := 568) X rfl dL_law_568 ?_
  refine L_iconst (pc := 569) X dL_law_569 ?_
  refine L_iadd (pc := 570) X dL_law_570 ?_
  refine L_sld (i + 4) (pc := 571) X (by omega) (by omega) dL_law_571 ?_
  refine L_call (pc := 572) X kL_54 rfl rfl (c_X8_pane (d := 0) hX hO (i32_lo _) (i32_hi _) (i32_lo _) (i32_hi _) (i32_lo _) (i32_hi _) (i32_lo _) (i32_hi _)) (by decide) dL_law_572 rfl rfl (Nat.le_of_ble_eq_true rfl) (Nat.le_of_ble_eq_true rfl) (fun v0 υ hυ => ?_)
  obtain ⟨rfl, g0, f0⟩ := hυ
  have hM2 := hM.frX f0
  refine L_aload_n (k := 2) (pc := 575) X rfl dL_law_575 ?_
  refine L_aload_n (k := 0) (pc := 576) X rfl dL_law_576 ?_
  refine L_iload_n (k := 3) (pc := 577) X rfl dL_law_577 ?_
  refine L_iconst (pc := 578) X dL_law_578 ?_
  refine L_iadd (pc := 579) X dL_law_579 ?_
  refine L_sld (i + 1) (pc := 580) X (by omega) (by omega) dL_law_580 ?_
  refine L_aload_n (k := 0) (pc := 581) X rfl dL_law_581 ?_
  refine L_iload_n (k := 3) (pc := 582) X rfl dL_law_582 ?_
  refine L_iconst (pc := 583) X dL_law_583 ?_
  refine L_iadd (pc := 584) X dL_law_584 ?_
  refine L_sld (i + 2) (pc := 585) X (by omega) (by omega) dL_law_585 ?_
  refine L_aload_n (k := 0) (pc := 586) X rfl dL_law_586 ?_
  refine L_iload_n (k := 3) (pc := 587) X rfl dL_law_587 ?_
  refine L_iconst (pc := 588) X dL_law_588 ?_
  refine L_iadd (pc := 589) X dL_law_589 ?_
  refine L_sld (i + 3) (pc := 590) X (by omega) (by omega) dL_law_590 ?_
  refine L_aload_n (k := 0) (pc := 591) X rfl dL_law_591 ?_
  refine L_iload_n (k := 3) (pc := 592) X rfl dL_law_592 ?_
  refine L_iconst (pc := 593) X dL_law_593 ?_
  refine L_iadd (pc := 594) X dL_law_594 ?_
  refine L_sld (i + 4) (pc := 595) X (by omega) (by omega) dL_law_595 ?_
  refine L_call (pc := 596) X kL_58 rfl rfl (c_X9_pane (d := 0) hM2 hO (i32_lo _) (i32_hi _) (i32_lo _) (i32_hi _) (i32_lo _) (i32_hi _) (i32_lo _) (i32_hi _)) (by decide) dL_law_596 rfl rfl (Nat.le_of_ble_eq_true rfl) (Nat.le_of_ble_eq_true rfl) (fun v1 ω hω => ?_)
  obtain ⟨rfl, g1, f1⟩ := hω
  refine L_eq 1441 (pc := 599) X dL_law_599 (by decide) ?_
  exact ih _ _ (g0.frM f1) g1 (hI.oPane _ _ _ _)
set_option maxRecDepth 20000 in
theorem L_case9 {G : Gl} {p : Program} {e : Env} {s : State} {m : MethodId} {below : List Frame} {meth : Method} {c : Code} {b L : Nat} {xs : Nat → Int32} (X : LX G p s m meth c b L xs) {Z : Zt} {σ : Sg} (hX : RelX Z σ) (hM : RelM Z σ) (hI : OkI Z) {i : Nat} (hi : i + 6 ≤ L) (ih : ∀ (Z2 : Zt) (σ2 : Sg), RelX Z2 σ2 → RelM Z2 σ2 → OkI Z2 → LW G p e s m below meth c b 1441 [(0, .ref b), (1, .ref (gA G 0)), (2, .ref (gA G 54)), (3, .int (iI (i : Int)))] [] σ2) : LW G p e s m below meth c b 604 [(0, .ref b), (1, .ref (gA G 0)), (2, .ref (gA G 54)), (3, .int (iI (i : Int)))] [] σ := by
  have hO := hI.1
  refine L_aload_n (k := 1) (pc := 604) X rfl dL_law_604 ?_
  refine L_aload_n (k := 0) (pc := 605) X rfl dL_law_605 ?_
  refine L_iload_n (k := 3) (pc := 606) X rfl dL_law_606 ?_
  refine L_iconst (pc := 607) X dL_law_607 ?_
  refine L_iadd (pc := 608) X dL_law_608 ?_
  refine L_sld (i + 1) (pc := 609) X (by omega) (by omega) dL_law_609 ?_
  refine L_aload_n (k := 0) (pc := 610) X rfl dL_law_610 ?_
  refine L_iload_n (k := 3) (pc := 611) X rfl dL_law_611 ?_
  refine L_iconst (pc := 612) X dL_law_612 ?_
  refine L_iadd (pc := 613) X dL_law_613 ?_
  refine L_sld (i + 2) (pc := 614) X (by omega) (by omega) dL_law_614 ?_
  refine L_call (pc := 615) X kL_59 rfl rfl (c_X8_walker (d := 0) hX hO (i32_lo _) (i32_hi _) (i32_lo _) (i32_hi _)) (by decide) dL_law_615 rfl rfl (Nat.le_of_ble_eq_true rfl) (Nat.le_of_ble_eq_true rfl) (fun v0 υ hυ => ?_)
  obtain ⟨rfl, g0, f0⟩ := hυ
  have hM2 := hM.frX f0
  refine L_aload_n (k := 2) (pc := 618) X rfl dL_law_618 ?_
  refine L_aload_n (k := 0) (pc := 619) X rfl dL_law_619 ?_
  refine L_iload_n (k := 3) (pc := 620) X rfl dL_law_620 ?_
  refine L_iconst (pc := 621) X dL_law_621 ?_
  refine L_iadd (pc := 622) X dL_law_622 ?_
  refine L_sld (i + 1) (pc := 623) X (by omega) (by omega) dL_law_623 ?_
  refine L_aload_n (k := 0) (pc := 624) X rfl dL_law_624 ?_
  refine L_iload_n (k := 3) (pc := 625) X rfl dL_law_625 ?_
  refine L_iconst (pc := 626) X dL_law_626 ?_
  refine L_iadd (pc := 627) X dL_law_627 ?_
  refine L_sld (i + 2) (pc := 628) X (by omega) (by omega) dL_law_628 ?_
  refine L_call (pc := 629) X kL_62 rfl rfl (c_X9_walker (d := 0) hM2 hO (i32_lo _) (i32_hi _) (i32_lo _) (i32_hi _)) (by decide) dL_law_629 rfl rfl (Nat.le_of_ble_eq_true rfl) (Nat.le_of_ble_eq_true rfl) (fun v1 ω hω => ?_)
  obtain ⟨rfl, g1, f1⟩ := hω
  refine L_eq 1441 (pc := 632) X dL_law_632 (by decide) ?_
  exact ih _ _ (g0.frM f1) g1 (hI.oWalker _ _)
set_option maxRecDepth 20000 in
theorem L_case10 {G : Gl} {p : Program} {e : Env} {s : State} {m : MethodId} {below : List Frame} {meth : Method} {c : Code} {b L : Nat} {xs : Nat → Int32} (X : LX G p s m meth c b L xs) {Z : Zt} {σ : Sg} (hX : RelX Z σ) (hM : RelM Z σ) (hI : OkI Z) {i : Nat} (hi : i + 6 ≤ L) (ih : ∀ (Z2 : Zt) (σ2 : Sg), RelX Z2 σ2 → RelM Z2 σ2 → OkI Z2 → LW G p e s m below meth c b 1441 [(0, .ref b), (1, .ref (gA G 0)), (2, .ref (gA G 54)), (3, .int (iI (i : Int)))] [] σ2) : LW G p e s m below meth c b 637 [(0, .ref b), (1, .ref (gA G 0)), (2, .ref (gA G 54)), (3, .int (iI (i : Int)))] [] σ := by
  have hO := hI.1
  refine L_aload_n (k := 1) (pc := 637) X rfl dL_law_637 ?_
  refine L_aload_n (k := 0) (pc := 638) X rfl dL_law_638 ?_
  refine L_iload_n (k := 3) (pc := 639) X rfl dL_law_639 ?_
  refine L_iconst (pc := 640) X dL_law_640 ?_
  refine L_iadd (pc := 641) X dL_law_641 ?_
  refine L_sld (i + 1) (pc := 642) X (by omega) (by omega) dL_law_642 ?_
  refine L_aload_n (k := 0) (pc := 643) X rfl dL_law_643 ?_
  refine L_iload_n (k := 3) (pc := 644) X rfl dL_law_644 ?_
  refine L_iconst (pc := 645) X dL_law_645 ?_
  refine L_iadd (pc := 646) X dL_law_646 ?_
  refine L_sld (i + 2) (pc := 647) X (by omega) (by omega) dL_law_647 ?_
  refine L_aload_n (k := 0) (pc := 648) X rfl dL_law_648 ?_
  refine L_iload_n (k := 3) (pc := 649) X rfl dL_law_649 ?_
  refine L_iconst (pc := 650) X dL_law_650 ?_
  refine L_iadd (pc := 651) X dL_law_651 ?_
  refine L_sld (i + 3) (pc := 652) X (by omega) (by omega) dL_law_652 ?_
  refine L_call (pc := 653) X kL_63 rfl rfl (c_X8_put (d := 0) hX hO (i32_lo _) (i32_hi _) (i32_lo _) (i32_hi _) (i32_lo _) (i32_hi _)) (by decide) dL_law_653 rfl rfl (Nat.le_of_ble_eq_true rfl) (Nat.le_of_ble_eq_true rfl) (fun v0 υ hυ => ?_)
  obtain ⟨rfl, g0, f0⟩ := hυ
  have hM2 := hM.frX f0
  refine L_aload_n (k := 2) (pc := 656) X rfl dL_law_656 ?_
  refine L_aload_n (k := 0) (pc := 657) X rfl dL_law_657 ?_
  refine L_iload_n (k := 3) (pc := 658) X rfl dL_law_658 ?_
  refine L_iconst (pc := 659) X dL_law_659 ?_
  refine L_iadd (pc := 660) X dL_law_660 ?_
  refine L_sld (i + 1) (pc := 661) X (by omega) (by omega) dL_law_661 ?_
  refine L_aload_n (k := 0) (pc := 662) X rfl dL_law_662 ?_
  refine L_iload_n (k := 3) (pc := 663) X rfl dL_law_663 ?_
  refine L_iconst (pc := 664) X dL_law_664 ?_
  refine L_iadd (pc := 665) X dL_law_665 ?_
  refine L_sld (i + 2) (pc := 666) X (by omega) (by omega) dL_law_666 ?_
  refine L_aload_n (k := 0) (pc := 667) X rfl dL_law_667 ?_
  refine L_iload_n (k := 3) (pc := 668) X rfl dL_law_668 ?_
  refine L_iconst (pc := 669) X dL_law_669 ?_
  refine L_iadd (pc := 670) X dL_law_670 ?_
  refine L_sld (i + 3) (pc := 671) X (by omega) (by omega) dL_law_671 ?_
  refine L_call (pc := 672) X kL_66 rfl rfl (c_X9_put (d := 0) hM2 hO (i32_lo _) (i32_hi _) (i32_lo _) (i32_hi _) (i32_lo _) (i32_hi _)) (by decide) dL_law_672 rfl rfl (Nat.le_of_ble_eq_true rfl) (Nat.le_of_ble_eq_true rfl) (fun v1 ω hω => ?_)
  obtain ⟨rfl, g1, f1⟩ := hω
  refine L_eq 1441 (pc := 675) X dL_law_675 (by decide) ?_
  exact ih _ _ (g0.frM f1) g1 (hI.oPut _ _ _)
set_option maxRecDepth 20000 in
theorem L_case11 {G : Gl} {p : Program} {e : Env} {s : State} {m : MethodId} {below : List Frame} {meth : Method} {c : Code} {b L : Nat} {xs : Nat → Int32} (X : LX G p s m meth c b L xs) {Z : Zt} {σ : Sg} (hX : RelX Z σ) (hM : RelM Z σ) (hI : OkI Z) {i : Nat} (hi : i + 6 ≤ L) (ih : ∀ (Z2 : Zt) (σ2 : Sg), RelX Z2 σ2 → RelM Z2 σ2 → OkI Z2 → LW G p e s m below meth c b 1441 [(0, .ref b), (1, .ref (gA G 0)), (2, .ref (gA G 54)), (3, .int (iI (i : Int)))] [] σ2) : LW G p e s m below meth c b 680 [(0, .ref b), (1, .ref (gA G 0)), (2, .ref (gA G 54)), (3, .int (iI (i : Int)))] [] σ := by
  have hO := hI.1
  refine L_aload_n (k := 1) (pc := 680) X rfl dL_law_680 ?_
  refine L_aload_n (k := 0) (pc := 681) X rfl dL_law_681 ?_
  refine L_iload_n (k := 3) (pc := 682) X rfl dL_law_682 ?_
  refine L_iconst (pc := 683) X dL_law_683 ?_
  refine L_iadd (pc := 684) X dL_law_684 ?_
  refine L_sld (i + 1) (pc := 685) X (by omega) (by omega) dL_law_685 ?_
  refine L_call (pc := 686) X kL_67 rfl rfl (c_X8_reach (d := 0) hX hO (i32_lo _) (i32_hi _)) (by decide) dL_law_686 rfl rfl (Nat.le_of_ble_eq_true rfl) (Nat.le_of_ble_eq_true rfl) (fun v0 υ hυ => ?_)
  obtain ⟨rfl, g0, f0⟩ := hυ
  have hM2 := hM.frX f0
  refine L_aload_n (k := 2) (pc := 689) X rfl dL_law_689 ?_
  refine L_aload_n (k := 0) (pc := 690) X rfl dL_law_690 ?_
  refine L_iload_n (k := 3) (pc := 691) X rfl dL_law_691 ?_
  refine L_iconst (pc := 692) X dL_law_692 ?_
  refine L_iadd (pc := 693) X dL_law_693 ?_
  refine L_sld (i + 1) (pc := 694) X (by omega) (by omega) dL_law_694 ?_
  refine L_call (pc := 695) X kL_70 rfl rfl (c_X9_reach (d := 0) hM2 hO (i32_lo _) (i32_hi _)) (by decide) dL_law_695 rfl rfl (Nat.le_of_ble_eq_true rfl) (Nat.le_of_ble_eq_true rfl) (fun v1 ω hω => ?_)
  obtain ⟨rfl, g1, f1⟩ := hω
  refine L_eq 1441 (pc := 698) X dL_law_698 (by decide) ?_
  exact ih _ _ (g0.frM f1) g1 (hI.oReach _)
set_option maxRecDepth 20000 in
theorem L_case12 {G : Gl} {p : Program} {e : Env} {s : State} {m : MethodId} {below : List Frame} {meth : Method} {c : Code} {b L : Nat} {xs : Nat → Int32} (X : LX G p s m meth c b L xs) {Z : Zt} {σ : Sg} (hX : RelX Z σ) (hM : RelM Z σ) (hI : OkI Z) {i : Nat} (hi : i + 6 ≤ L) (ih : ∀ (Z2 : Zt) (σ2 : Sg), RelX Z2 σ2 → RelM Z2 σ2 → OkI Z2 → LW G p e s m below meth c b 1441 [(0, .ref b), (1, .ref (gA G 0)), (2, .ref (gA G 54)), (3, .int (iI (i : Int)))] [] σ2) : LW G p e s m below meth c b 703 [(0, .ref b), (1, .ref (gA G 0)), (2, .ref (gA G 54)), (3, .int (iI (i : Int)))] [] σ := by
  have hO := hI.1
  refine L_aload_n (k := 1) (pc := 703) X rfl dL_law_703 ?_
  refine L_aload_n (k := 0) (pc := 704) X rfl dL_law_704 ?_
  refine L_iload_n (k := 3) (pc := 705) X rfl dL_law_705 ?_
  refine L_iconst (pc := 706) X dL_law_706 ?_
  refine L_iadd (pc := 707) X dL_law_707 ?_
  refine L_sld (i + 1) (pc := 708) X (by omega) (by omega) dL_law_708 ?_
  refine L_aload_n (k := 0) (pc := 709) X rfl dL_law_709 ?_
  refine L_iload_n (k := 3) (pc := 710) X rfl dL_law_710 ?_
  refine L_iconst (pc := 711) X dL_law_711 ?_
  refine L_iadd (pc := 712) X dL_law_712 ?_
  refine L_sld (i + 2) (pc := 713) X (by omega) (by omega) dL_law_713 ?_
  refine L_call (pc := 714) X kL_71 rfl rfl (c_X8_paneOf (d := 0) hX hO (i32_lo _) (i32_hi _) (i32_lo _) (i32_hi _)) (by decide) dL_law_714 rfl rfl (Nat.le_of_ble_eq_true rfl) (Nat.le_of_ble_eq_true rfl) (fun v0 υ hυ => ?_)
  obtain ⟨rfl, g0, f0⟩ := hυ
  have hM2 := hM.frX f0
  refine L_aload_n (k := 2) (pc := 717) X rfl dL_law_717 ?_
  refine L_aload_n (k := 0) (pc := 718) X rfl dL_law_718 ?_
  refine L_iload_n (k := 3) (pc := 719) X rfl dL_law_719 ?_
  refine L_iconst (pc := 720) X dL_law_720 ?_
  refine L_iadd (pc := 721) X dL_law_721 ?_
  refine L_sld (i + 1) (pc := 722) X (by omega) (by omega) dL_law_722 ?_
  refine L_aload_n (k := 0) (pc := 723) X rfl dL_law_723 ?_
  refine L_iload_n (k := 3) (pc := 724) X rfl dL_law_724 ?_
  refine L_iconst (pc := 725) X dL_law_725 ?_
  refine L_iadd (pc := 726) X dL_law_726 ?_
  refine L_sld (i + 2) (pc := 727) X (by omega) (by omega) dL_law_727 ?_
  refine L_call (pc := 728) X kL_74 rfl rfl (c_X9_paneOf (d := 0) hM2 hO (i32_lo _) (i32_hi _) (i32_lo _) (i32_hi _)) (by decide) dL_law_728 rfl rfl (Nat.le_of_ble_eq_true rfl) (Nat.le_of_ble_eq_true rfl) (fun v1 ω hω => ?_)
  obtain ⟨rfl, g1, f1⟩ := hω
  refine L_eq 1441 (pc := 731) X dL_law_731 (by decide) ?_
  exact ih _ _ (g0.frM f1) g1 (hI.oPaneOf _ _)
set_option maxRecDepth 20000 in
theorem L_case13 {G : Gl} {p : Program} {e : Env} {s : State} {m : MethodId} {below : List Frame} {meth : Method} {c : Code} {b L : Nat} {xs : Nat → Int32} (X : LX G p s m meth c b L xs) {Z : Zt} {σ : Sg} (hX : RelX Z σ) (hM : RelM Z σ) (hI : OkI Z) {i : Nat} (hi : i + 6 ≤ L) (ih : ∀ (Z2 : Zt) (σ2 : Sg), RelX Z2 σ2 → RelM Z2 σ2 → OkI Z2 → LW G p e s m below meth c b 1441 [(0, .ref b), (1, .ref (gA G 0)), (2, .ref (gA G 54)), (3, .int (iI (i : Int)))] [] σ2) : LW G p e s m below meth c b 736 [(0, .ref b), (1, .ref (gA G 0)), (2, .ref (gA G 54)), (3, .int (iI (i : Int)))] [] σ := by
  have hO := hI.1
  refine L_aload_n (k := 1) (pc := 736) X rfl dL_law_736 ?_
  refine L_aload_n (k := 0) (pc := 737) X rfl dL_law_737 ?_
  refine L_iload_n (k := 3) (pc := 738) X rfl dL_law_738 ?_
  refine L_iconst (pc := 739) X dL_law_739 ?_
  refine L_iadd (pc := 740) X dL_law_740 ?_
  refine L_sld (i + 1) (pc := 741) X (by omega) (by omega) dL_law_741 ?_
  refine L_aload_n (k := 0) (pc := 742) X rfl dL_law_742 ?_
  refine L_iload_n (k := 3) (pc := 743) X rfl dL_law_743 ?_
  refine L_iconst (pc := 744) X dL_law_744 ?_
  refine L_iadd (pc := 745) X dL_law_745 ?_
  refine L_sld (i + 2) (pc := 746) X (by omega) (by omega) dL_law_746 ?_
  refine L_call (pc := 747) X kL_75 rfl rfl (c_X8_walkerOf (d := 0) hX hO (i32_lo _) (i32_hi _) (i32_lo _) (i32_hi _)) (by decide) dL_law_747 rfl rfl (Nat.le_of_ble_eq_true rfl) (Nat.le_of_ble_eq_true rfl) (fun v0 υ hυ => ?_)
  obtain ⟨rfl, g0, f0⟩ := hυ
  have hM2 := hM.frX f0
  refine L_aload_n (k := 2) (pc := 750) X rfl dL_law_750 ?_
  refine L_aload_n (k := 0) (pc := 751) X rfl dL_law_751 ?_
  refine L_iload_n (k := 3) (pc := 752) X rfl dL_law_752 ?_
  refine L_iconst (pc := 753) X dL_law_753 ?_
  refine L_iadd (pc := 754) X dL_law_754 ?_
  refine L_sld (i + 1) (pc := 755) X (by omega) (by omega) dL_law_755 ?_
  refine L_aload_n (k := 0) (pc := 756) X rfl dL_law_756 ?_
  refine L_iload_n (k := 3) (pc := 757) X rfl dL_law_757 ?_
  refine L_iconst (pc := 758) X dL_law_758 ?_
  refine L_iadd (pc := 759) X dL_law_759 ?_
  refine L_sld (i + 2) (pc := 760) X (by omega) (by omega) dL_law_760 ?_
  refine L_call (pc := 761) X kL_78 rfl rfl (c_X9_walkerOf (d := 0) hM2 hO (i32_lo _) (i32_hi _) (i32_lo _) (i32_hi _)) (by decide) dL_law_761 rfl rfl (Nat.le_of_ble_eq_true rfl) (Nat.le_of_ble_eq_true rfl) (fun v1 ω hω => ?_)
  obtain ⟨rfl, g1, f1⟩ := hω
  refine L_eq 1441 (pc := 764) X dL_law_764 (by decide) ?_
  exact ih _ _ (g0.frM f1) g1 (hI.oWalkerOf _ _)
set_option maxRecDepth 20000 in
theorem L_case14 {G : Gl} {p : Program} {e : Env} {s : State} {m : MethodId} {below : List Frame} {meth : Method} {c : Code} {b L : Nat} {xs : Nat → Int32} (X : LX G p s m meth c b L xs) {Z : Zt} {σ : Sg} (hX : RelX Z σ) (hM : RelM Z σ) (hI : OkI Z) {i : Nat} (hi : i + 6 ≤ L) (ih : ∀ (Z2 : Zt) (σ2 : Sg), RelX Z2 σ2 → RelM Z2 σ2 → OkI Z2 → LW G p e s m below meth c b 1441 [(0, .ref b), (1, .ref (gA G 0)), (2, .ref (gA G 54)), (3, .int (iI (i : Int)))] [] σ2) : LW G p e s m below meth c b 769 [(0, .ref b), (1, .ref (gA G 0)), (2, .ref (gA G 54)), (3, .int (iI (i : Int)))] [] σ := by
  have hO := hI.1
  refine L_aload_n (k := 1) (pc := 769) X rfl dL_law_769 ?_
  refine L_aload_n (k := 0) (pc := 770) X rfl dL_law_770 ?_
  refine L_iload_n (k := 3) (pc := 771) X rfl dL_law_771 ?_
  refine L_iconst (pc := 772) X dL_law_772 ?_
  refine L_iadd (pc := 773) X dL_law_773 ?_
  refine L_sld (i + 1) (pc := 774) X (by omega) (by omega) dL_law_774 ?_
  refine L_call (pc := 775) X kL_79 rfl rfl (c_X8_town (d := 0) hX hO (i32_lo _) (i32_hi _)) (by decide) dL_law_775 rfl rfl (Nat.le_of_ble_eq_true rfl) (Nat.le_of_ble_eq_true rfl) (fun v0 υ hυ => ?_)
  obtain ⟨rfl, g0, f0⟩ := hυ
  have hM2 := hM.frX f0
  refine L_aload_n (k := 2) (pc := 778) X rfl dL_law_778 ?_
  refine L_aload_n (k := 0) (pc := 779) X rfl dL_law_779 ?_
  refine L_iload_n (k := 3) (pc := 780) X rfl dL_law_780 ?_
  refine L_iconst (pc := 781) X dL_law_781 ?_
  refine L_iadd (pc := 782) X dL_law_782 ?_
  refine L_sld (i + 1) (pc := 783) X (by omega) (by omega) dL_law_783 ?_
  refine L_call (pc := 784) X kL_82 rfl rfl (c_X9_town (d := 0) hM2 hO (i32_lo _) (i32_hi _)) (by decide) dL_law_784 rfl rfl (Nat.le_of_ble_eq_true rfl) (Nat.le_of_ble_eq_true rfl) (fun v1 ω hω => ?_)
  obtain ⟨rfl, g1, f1⟩ := hω
  refine L_eq 1441 (pc := 787) X dL_law_787 (by decide) ?_
  exact ih _ _ (g0.frM f1) g1 (hI.oTown _)
set_option maxRecDepth 20000 in
theorem L_case15 {G : Gl} {p : Program} {e : Env} {s : State} {m : MethodId} {below : List Frame} {meth : Method} {c : Code} {b L : Nat} {xs : Nat → Int32} (X : LX G p s m meth c b L xs) {Z : Zt} {σ : Sg} (hX : RelX Z σ) (hM : RelM Z σ) (hI : OkI Z) {i : Nat} (hi : i + 6 ≤ L) (ih : ∀ (Z2 : Zt) (σ2 : Sg), RelX Z2 σ2 → RelM Z2 σ2 → OkI Z2 → LW G p e s m below meth c b 1441 [(0, .ref b), (1, .ref (gA G 0)), (2, .ref (gA G 54)), (3, .int (iI (i : Int)))] [] σ2) : LW G p e s m below meth c b 792 [(0, .ref b), (1, .ref (gA G 0)), (2, .ref (gA G 54)), (3, .int (iI (i : Int)))] [] σ := by
  have hO := hI.1
  refine L_aload_n (k := 1) (pc := 792) X rfl dL_law_792 ?_
  refine L_call (pc := 793) X kL_83 rfl rfl (c_X8_fault (d := 0) hX) (by decide) dL_law_793 rfl rfl (Nat.le_of_ble_eq_true rfl) (Nat.le_of_ble_eq_true rfl) (fun v0 υ hυ => ?_)
  obtain ⟨rfl, rfl⟩ := hυ
  have hM2 := hM
  refine L_aload_n (k := 2) (pc := 796) X rfl dL_law_796 ?_
  refine L_call (pc := 797) X kL_87 rfl rfl (c_X9_fault (d := 0) hM2 hO) (by decide) dL_law_797 rfl rfl (Nat.le_of_ble_eq_true rfl) (Nat.le_of_ble_eq_true rfl) (fun v1 ω hω => ?_)
  obtain ⟨rfl, rfl⟩ := hω
  refine L_eq 1441 (pc := 800) X dL_law_800 (by decide) ?_
  exact ih Z _ hX hM hI
set_option maxRecDepth 20000 in
theorem L_case16 {G : Gl} {p : Program} {e : Env} {s : State} {m : MethodId} {below : List Frame} {meth : Method} {c : Code} {b L : Nat} {xs : Nat → Int32} (X : LX G p s m meth c b L xs) {Z : Zt} {σ : Sg} (hX : RelX Z σ) (hM : RelM Z σ) (hI : OkI Z) {i : Nat} (hi : i + 6 ≤ L) (ih : ∀ (Z2 : Zt) (σ2 : Sg), RelX Z2 σ2 → RelM Z2 σ2 → OkI Z2 → LW G p e s m below meth c b 1441 [(0, .ref b), (1, .ref (gA G 0)), (2, .ref (gA G 54)), (3, .int (iI (i : Int)))] [] σ2) : LW G p e s m below meth c b 805 [(0, .ref b), (1, .ref (gA G 0)), (2, .ref (gA G 54)), (3, .int (iI (i : Int)))] [] σ := by
  have hO := hI.1
  refine L_aload_n (k := 1) (pc := 805) X rfl dL_law_805 ?_
  refine L_aload_n (k := 0) (pc := 806) X rfl dL_law_806 ?_
  refine L_iload_n (k := 3) (pc := 807) X rfl dL_law_807 ?_
  refine L_iconst (pc := 808) X dL_law_808 ?_
  refine L_iadd (pc := 809) X dL_law_809 ?_
  refine L_sld (i + 1) (pc := 810) X (by omega) (by omega) dL_law_810 ?_
  refine L_aload_n (k := 0) (pc := 811) X rfl dL_law_811 ?_
  refine L_iload_n (k := 3) (pc := 812) X rfl dL_law_812 ?_
  refine L_iconst (pc := 813) X dL_law_813 ?_
  refine L_iadd (pc := 814) X dL_law_814 ?_
  refine L_sld (i + 2) (pc := 815) X (by omega) (by omega) dL_law_815 ?_
  refine L_call (pc := 816) X kL_88 rfl rfl (c_X8_seen (d := 0) hX hO (i32_lo _) (i32_hi _) (i32_lo _) (i32_hi _)) (by decide) dL_law_816 rfl rfl (Nat.le_of_ble_eq_true rfl) (Nat.le_of_ble_eq_true rfl) (fun v0 υ hυ => ?_)
  obtain ⟨rfl, g0, f0⟩ := hυ
  have hM2 := hM.frX f0
  refine L_aload_n (k := 2) (pc := 819) X rfl dL_law_819 ?_
  refine L_aload_n (k := 0) (pc := 820) X rfl dL_law_820 ?_
  refine L_iload_n (k := 3) (pc := 821) X rfl dL_law_821 ?_
  refine L_iconst (pc := 822) X dL_law_822 ?_
  refine L_iadd (pc := 823) X dL_law_823 ?_
  refine L_sld (i + 1) (pc := 824) X (by omega) (by omega) dL_law_824 ?_
  refine L_aload_n (k := 0) (pc := 825) X rfl dL_law_825 ?_
  refine L_iload_n (k := 3) (pc := 826) X rfl dL_law_826 ?_
  refine L_iconst (pc := 827) X dL_law_827 ?_
  refine L_iadd (pc := 828) X dL_law_828 ?_
  refine L_sld (i + 2) (pc := 829) X (by omega) (by omega) dL_law_829 ?_
  refine L_call (pc := 830) X kL_91 rfl rfl (c_X9_seen (d := 0) hM2 hO (i32_lo _) (i32_hi _) (i32_lo _) (i32_hi _)) (by decide) dL_law_830 rfl rfl (Nat.le_of_ble_eq_true rfl) (Nat.le_of_ble_eq_true rfl) (fun v1 ω hω => ?_)
  obtain ⟨rfl, g1, f1⟩ := hω
  refine L_eq 1441 (pc := 833) X dL_law_833 (by decide) ?_
  exact ih _ _ (g0.frM f1) g1 (hI.oSeen _ _)
set_option maxRecDepth 20000 in
theorem L_case17 {G : Gl} {p : Program} {e : Env} {s : State} {m : MethodId} {below : List Frame} {meth : Method} {c : Code} {b L : Nat} {xs : Nat → Int32} (X : LX G p s m meth c b L xs) {Z : Zt} {σ : Sg} (hX : RelX Z σ) (hM : RelM Z σ) (hI : OkI Z) {i : Nat} (hi : i + 6 ≤ L) (ih : ∀ (Z2 : Zt) (σ2 : Sg), RelX Z2 σ2 → RelM Z2 σ2 → OkI Z2 → LW G p e s m below meth c b 1441 [(0, .ref b), (1, .ref (gA G 0)), (2, .ref (gA G 54)), (3, .int (iI (i : Int)))] [] σ2) : LW G p e s m below meth c b 838 [(0, .ref b), (1, .ref (gA G 0)), (2, .ref (gA G 54)), (3, .int (iI (i : Int)))] [] σ := by
  have hO := hI.1
  refine L_aload_n (k := 1) (pc := 838) X rfl dL_law_838 ?_
  refine L_aload_n (k := 0) (pc := 839) X rfl dL_law_839 ?_
  refine L_iload_n (k := 3) (pc := 840) X rfl dL_law_840 ?_
  refine L_iconst (pc := 841) X dL_law_841 ?_
  refine L_iadd (pc := 842) X dL_law_842 ?_
  refine L_sld (i + 1) (pc := 843) X (by omega) (by omega) dL_law_843 ?_
  refine L_aload_n (k := 0) (pc := 844) X rfl dL_law_844 ?_
  refine L_iload_n (k := 3) (pc := 845) X rfl dL_law_845 ?_
  refine L_iconst (pc := 846) X dL_law_846 ?_
  refine L_iadd (pc := 847) X dL_law_847 ?_
  refine L_sld (i + 2) (pc := 848) X (by omega) (by omega) dL_law_848 ?_
  refine L_call (pc := 849) X kL_92 rfl rfl (c_X8_looks (d := 0) hX hO (i32_lo _) (i32_hi _) (i32_lo _) (i32_hi _)) (by decide) dL_law_849 rfl rfl (Nat.le_of_ble_eq_true rfl) (Nat.le_of_ble_eq_true rfl) (fun v0 υ hυ => ?_)
  obtain ⟨rfl, g0, f0⟩ := hυ
  have hM2 := hM.frX f0
  refine L_aload_n (k := 2) (pc := 852) X rfl dL_law_852 ?_
  refine L_aload_n (k := 0) (pc := 853) X rfl dL_law_853 ?_
  refine L_iload_n (k := 3) (pc := 854) X rfl dL_law_854 ?_
  refine L_iconst (pc := 855) X dL_law_855 ?_
  refine L_iadd (pc := 856) X dL_law_856 ?_
  refine L_sld (i + 1) (pc := 857) X (by omega) (by omega) dL_law_857 ?_
  refine L_aload_n (k := 0) (pc := 858) X rfl dL_law_858 ?_
  refine L_iload_n (k := 3) (pc := 859) X rfl dL_law_859 ?_
  refine L_iconst (pc := 860) X dL_law_860 ?_
  refine L_iadd (pc := 861) X dL_law_861 ?_
  refine L_sld (i + 2) (pc := 862) X (by omega) (by omega) dL_law_862 ?_
  refine L_call (pc := 863) X kL_95 rfl rfl (c_X9_looks (d := 0) hM2 hO (i32_lo _) (i32_hi _) (i32_lo _) (i32_hi _)) (by decide) dL_law_863 rfl rfl (Nat.le_of_ble_eq_true rfl) (Nat.le_of_ble_eq_true rfl) (fun v1 ω hω => ?_)
  obtain ⟨rfl, g1, f1⟩ := hω
  refine L_eq 1441 (pc := 866) X dL_law_866 (by decide) ?_
  exact ih _ _ (g0.frM f1) g1 (hI.oLooks _ _)
set_option maxRecDepth 20000 in
theorem L_case18 {G : Gl} {p : Program} {e : Env} {s : State} {m : MethodId} {below : List Frame} {meth : Method} {c : Code} {b L : Nat} {xs : Nat → Int32} (X : LX G p s m meth c b L xs) {Z : Zt} {σ : Sg} (hX : RelX Z σ) (hM : RelM Z σ) (hI : OkI Z) {i : Nat} (hi : i + 6 ≤ L) (ih : ∀ (Z2 : Zt) (σ2 : Sg), RelX Z2 σ2 → RelM Z2 σ2 → OkI Z2 → LW G p e s m below meth c b 1441 [(0, .ref b), (1, .ref (gA G 0)), (2, .ref (gA G 54)), (3, .int (iI (i : Int)))] [] σ2) : LW G p e s m below meth c b 871 [(0, .ref b), (1, .ref (gA G 0)), (2, .ref (gA G 54)), (3, .int (iI (i : Int)))] [] σ := by
  have hO := hI.1
  refine L_aload_n (k := 1) (pc := 871) X rfl dL_law_871 ?_
  refine L_call (pc := 872) X kL_96 rfl rfl (c_X8_all (d := 0) hX hO) (by decide) dL_law_872 rfl rfl (Nat.le_of_ble_eq_true rfl) (Nat.le_of_ble_eq_true rfl) (fun v0 υ hυ => ?_)
  obtain ⟨rfl, g0, f0⟩ := hυ
  have hM2 := hM.frX f0
  refine L_aload_n (k := 2) (pc := 875) X rfl dL_law_875 ?_
  refine L_call (pc := 876) X kL_99 rfl rfl (c_X9_all (d := 0) hM2 hO) (by decide) dL_law_876 rfl rfl (Nat.le_of_ble_eq_true rfl) (Nat.le_of_ble_eq_true rfl) (fun v1 ω hω => ?_)
  obtain ⟨rfl, g1, f1⟩ := hω
  refine L_eq 1441 (pc := 879) X dL_law_879 (by decide) ?_
  exact ih _ _ (g0.frM f1) g1 (hI.oAll)
set_option maxRecDepth 20000 in
theorem L_case19 {G : Gl} {p : Program} {e : Env} {s : State} {m : MethodId} {below : List Frame} {meth : Method} {c : Code} {b L : Nat} {xs : Nat → Int32} (X : LX G p s m meth c b L xs) {Z : Zt} {σ : Sg} (hX : RelX Z σ) (hM : RelM Z σ) (hI : OkI Z) {i : Nat} (hi : i + 6 ≤ L) (ih : ∀ (Z2 : Zt) (σ2 : Sg), RelX Z2 σ2 → RelM Z2 σ2 → OkI Z2 → LW G p e s m below meth c b 1441 [(0, .ref b), (1, .ref (gA G 0)), (2, .ref (gA G 54)), (3, .int (iI (i : Int)))] [] σ2) : LW G p e s m below meth c b 884 [(0, .ref b), (1, .ref (gA G 0)), (2, .ref (gA G 54)), (3, .int (iI (i : Int)))] [] σ := by
  have hO := hI.1
  refine L_aload_n (k := 1) (pc := 884) X rfl dL_law_884 ?_
  refine L_aload_n (k := 0) (pc := 885) X rfl dL_law_885 ?_
  refine L_iload_n (k := 3) (pc := 886) X rfl dL_law_886 ?_
  refine L_iconst (pc := 887) X dL_law_887 ?_
  refine L_iadd (pc := 888) X dL_law_888 ?_
  refine L_sld (i + 1) (pc := 889) X (by omega) (by omega) dL_law_889 ?_
  refine L_aload_n (k := 0) (pc := 890) X rfl dL_law_890 ?_
  refine L_iload_n (k := 3) (pc := 891) X rfl dL_law_891 ?_
  refine L_iconst (pc := 892) X dL_law_892 ?_
  refine L_iadd (pc := 893) X dL_law_893 ?_
  refine L_sld (i + 2) (pc := 894) X (by omega) (by omega) dL_law_894 ?_
  refine L_call (pc := 895) X kL_100 rfl rfl (c_X8_turn (d := 0) hX hO (i32_lo _) (i32_hi _) (i32_lo _) (i32_hi _)) (by decide) dL_law_895 rfl rfl (Nat.le_of_ble_eq_true rfl) (Nat.le_of_ble_eq_true rfl) (fun v0 υ hυ => ?_)
  obtain ⟨rfl, g0, f0⟩ := hυ
  have hM2 := hM.frX f0
  refine L_aload_n (k := 2) (pc := 898) X rfl dL_law_898 ?_
  refine L_aload_n (k := 0) (pc := 899) X rfl dL_law_899 ?_
  refine L_iload_n (k := 3) (pc := 900) X rfl dL_law_900 ?_
  refine L_iconst (pc := 901) X dL_law_901 ?_
  refine L_iadd (pc := 902) X dL_law_902 ?_
  refine L_sld (i + 1) (pc := 903) X (by omega) (by omega) dL_law_903 ?_
  refine L_aload_n (k := 0) (pc := 904) X rfl dL_law_904 ?_
  refine L_iload_n (k := 3) (pc := 905) X rfl dL_law_905 ?_
  refine L_iconst (pc := 906) X dL_law_906 ?_
  refine L_iadd (pc := 907) X dL_law_907 ?_
  refine L_sld (i + 2) (pc := 908) X (by omega) (by omega) dL_law_908 ?_
  refine L_call (pc := 909) X kL_103 rfl rfl (c_X9_turn (d := 0) hM2 hO (i32_lo _) (i32_hi _) (i32_lo _) (i32_hi _)) (by decide) dL_law_909 rfl rfl (Nat.le_of_ble_eq_true rfl) (Nat.le_of_ble_eq_true rfl) (fun v1 ω hω => ?_)
  obtain ⟨rfl, g1, f1⟩ := hω
  refine L_eq 1441 (pc := 912) X dL_law_912 (by decide) ?_
  exact ih _ _ (g0.frM f1) g1 (hI.oTurn _ _)
set_option maxRecDepth 20000 in
theorem L_case20 {G : Gl} {p : Program} {e : Env} {s : State} {m : MethodId} {below : List Frame} {meth : Method} {c : Code} {b L : Nat} {xs : Nat → Int32} (X : LX G p s m meth c b L xs) {Z : Zt} {σ : Sg} (hX : RelX Z σ) (hM : RelM Z σ) (hI : OkI Z) {i : Nat} (hi : i + 6 ≤ L) (ih : ∀ (Z2 : Zt) (σ2 : Sg), RelX Z2 σ2 → RelM Z2 σ2 → OkI Z2 → LW G p e s m below meth c b 1441 [(0, .ref b), (1, .ref (gA G 0)), (2, .ref (gA G 54)), (3, .int (iI (i : Int)))] [] σ2) : LW G p e s m below meth c b 917 [(0, .ref b), (1, .ref (gA G 0)), (2, .ref (gA G 54)), (3, .int (iI (i : Int)))] [] σ := by
  have hO := hI.1
  refine L_aload_n (k := 1) (pc := 917) X rfl dL_law_917 ?_
  refine L_aload_n (k := 0) (pc := 918) X rfl dL_law_918 ?_
  refine L_iload_n (k := 3) (pc := 919) X rfl dL_law_919 ?_
  refine L_iconst (pc := 920) X dL_law_920 ?_
  refine L_iadd (pc := 921) X dL_law_921 ?_
  refine L_sld (i + 1) (pc := 922) X (by omega) (by omega) dL_law_922 ?_
  refine L_aload_n (k := 0) (pc := 923) X rfl dL_law_923 ?_
  refine L_iload_n (k := 3) (pc := 924) X rfl dL_law_924 ?_
  refine L_iconst (pc := 925) X dL_law_925 ?_
  refine L_iadd (pc := 926) X dL_law_926 ?_
  refine L_sld (i + 2) (pc := 927) X (by omega) (by omega) dL_law_927 ?_
  refine L_aload_n (k := 0) (pc := 928) X rfl dL_law_928 ?_
  refine L_iload_n (k := 3) (pc := 929) X rfl dL_law_929 ?_
  refine L_iconst (pc := 930) X dL_law_930 ?_
  refine L_iadd (pc := 931) X dL_law_931 ?_
  refine L_sld (i + 3) (pc := 932) X (by omega) (by omega) dL_law_932 ?_
  refine L_call (pc := 933) X kL_104 rfl rfl (c_X8_way (d := 0) hX hO hI.2.1 (i32_lo _) (i32_hi _) (i32_lo _) (i32_hi _) (i32_lo _) (i32_hi _)) (by decide) dL_law_933 rfl rfl (Nat.le_of_ble_eq_true rfl) (Nat.le_of_ble_eq_true rfl) (fun v0 υ hυ => ?_)
  obtain ⟨rfl, g0, f0⟩ := hυ
  have hM2 := hM.frX f0
  refine L_aload_n (k := 2) (pc := 936) X rfl dL_law_936 ?_
  refine L_aload_n (k := 0) (pc := 937) X rfl dL_law_937 ?_
  refine L_iload_n (k := 3) (pc := 938) X rfl dL_law_938 ?_
  refine L_iconst (pc := 939) X dL_law_939 ?_
  refine L_iadd (pc := 940) X dL_law_940 ?_
  refine L_sld (i + 1) (pc := 941) X (by omega) (by omega) dL_law_941 ?_
  refine L_aload_n (k := 0) (pc := 942) X rfl dL_law_942 ?_
  refine L_iload_n (k := 3) (pc := 943) X rfl dL_law_943 ?_
  refine L_iconst (pc := 944) X dL_law_944 ?_
  refine L_iadd (pc := 945) X dL_law_945 ?_
  refine L_sld (i + 2) (pc := 946) X (by omega) (by omega) dL_law_946 ?_
  refine L_aload_n (k := 0) (pc := 947) X rfl dL_law_947 ?_
  refine L_iload_n (k := 3) (pc := 948) X rfl dL_law_948 ?_
  refine L_iconst (pc := 949) X dL_law_949 ?_
  refine L_iadd (pc := 950) X dL_law_950 ?_
  refine L_sld (i + 3) (pc := 951) X (by omega) (by omega) dL_law_951 ?_
  refine L_call (pc := 952) X kL_107 rfl rfl (c_X9_way (d := 0) hM2 hO hI.2.1 (i32_lo _) (i32_hi _) (i32_lo _) (i32_hi _) (i32_lo _) (i32_hi _)) (by decide) dL_law_952 rfl rfl (Nat.le_of_ble_eq_true rfl) (Nat.le_of_ble_eq_true rfl) (fun v1 ω hω => ?_)
  obtain ⟨rfl, g1, f1⟩ := hω
  refine L_eq 1441 (pc := 955) X dL_law_955 (by decide) ?_
  exact ih _ _ (g0.frM f1) g1 (hI.oWay _ _ _)
set_option maxRecDepth 20000 in
theorem L_case21 {G : Gl} {p : Program} {e : Env} {s : State} {m : MethodId} {below : List Frame} {meth : Method} {c : Code} {b L : Nat} {xs : Nat → Int32} (X : LX G p s m meth c b L xs) {Z : Zt} {σ : Sg} (hX : RelX Z σ) (hM : RelM Z σ) (hI : OkI Z) {i : Nat} (hi : i + 6 ≤ L) (ih : ∀ (Z2 : Zt) (σ2 : Sg), RelX Z2 σ2 → RelM Z2 σ2 → OkI Z2 → LW G p e s m below meth c b 1441 [(0, .ref b), (1, .ref (gA G 0)), (2, .ref (gA G 54)), (3, .int (iI (i : Int)))] [] σ2) : LW G p e s m below meth c b 960 [(0, .ref b), (1, .ref (gA G 0)), (2, .ref (gA G 54)), (3, .int (iI (i : Int)))] [] σ := by
  have hO := hI.1
  refine L_aload_n (k := 1) (pc := 960) X rfl dL_law_960 ?_
  refine L_aload_n (k := 0) (pc := 961) X rfl dL_law_961 ?_
  refine L_iload_n (k := 3) (pc := 962) X rfl dL_law_962 ?_
  refine L_iconst (pc := 963) X dL_law_963 ?_
  refine L_iadd (pc := 964) X dL_law_964 ?_
  refine L_sld (i + 1) (pc := 965) X (by omega) (by omega) dL_law_965 ?_
  refine L_call (pc := 966) X kL_108 rfl rfl (c_X8_cover (d := 0) hX hO (i32_lo _) (i32_hi _)) (by decide) dL_law_966 rfl rfl (Nat.le_of_ble_eq_true rfl) (Nat.le_of_ble_eq_true rfl) (fun v0 υ hυ => ?_)
  obtain ⟨rfl, g0, f0⟩ := hυ
  have hM2 := hM.frX f0
  refine L_aload_n (k := 2) (pc := 969) X rfl dL_law_969 ?_
  refine L_aload_n (k := 0) (pc := 970) X rfl dL_law_970 ?_
  refine L_iload_n (k := 3) (pc := 971) X rfl dL_law_971 ?_
  refine L_iconst (pc := 972) X dL_law_972 ?_
  refine L_iadd (pc := 973) X dL_law_973 ?_
  refine L_sld (i + 1) (pc := 974) X (by omega) (by omega) dL_law_974 ?_
  refine L_call (pc := 975) X kL_111 rfl rfl (c_X9_cover (d := 0) hM2 hO (i32_lo _) (i32_hi _)) (by decide) dL_law_975 rfl rfl (Nat.le_of_ble_eq_true rfl) (Nat.le_of_ble_eq_true rfl) (fun v1 ω hω => ?_)
  obtain ⟨rfl, g1, f1⟩ := hω
  refine L_eq 1441 (pc := 978) X dL_law_978 (by decide) ?_
  exact ih _ _ (g0.frM f1) g1 (hI.oCover _)
set_option maxRecDepth 20000 in
theorem L_case22 {G : Gl} {p : Program} {e : Env} {s : State} {m : MethodId} {below : List Frame} {meth : Method} {c : Code} {b L : Nat} {xs : Nat → Int32} (X : LX G p s m meth c b L xs) {Z : Zt} {σ : Sg} (hX : RelX Z σ) (hM : RelM Z σ) (hI : OkI Z) {i : Nat} (hi : i + 6 ≤ L) (ih : ∀ (Z2 : Zt) (σ2 : Sg), RelX Z2 σ2 → RelM Z2 σ2 → OkI Z2 → LW G p e s m below meth c b 1441 [(0, .ref b), (1, .ref (gA G 0)), (2, .ref (gA G 54)), (3, .int (iI (i : Int)))] [] σ2) : LW G p e s m below meth c b 983 [(0, .ref b), (1, .ref (gA G 0)), (2, .ref (gA G 54)), (3, .int (iI (i : Int)))] [] σ := by
  have hO := hI.1
  refine L_aload_n (k := 1) (pc := 983) X rfl dL_law_983 ?_
  refine L_call (pc := 984) X kL_112 rfl rfl (c_X8_sole (d := 0) hX hO) (by decide) dL_law_984 rfl rfl (Nat.le_of_ble_eq_true rfl) (Nat.le_of_ble_eq_true rfl) (fun v0 υ hυ => ?_)
  obtain ⟨rfl, g0, f0⟩ := hυ
  have hM2 := hM.frX f0
  refine L_aload_n (k := 2) (pc := 987) X rfl dL_law_987 ?_
  refine L_call (pc := 988) X kL_115 rfl rfl (c_X9_sole (d := 0) hM2 hO) (by decide) dL_law_988 rfl rfl (Nat.le_of_ble_eq_true rfl) (Nat.le_of_ble_eq_true rfl) (fun v1 ω hω => ?_)
  obtain ⟨rfl, g1, f1⟩ := hω
  refine L_eq 1441 (pc := 991) X dL_law_991 (by decide) ?_
  exact ih _ _ (g0.frM f1) g1 (hI.oSole)
set_option maxRecDepth 20000 in
theorem L_case23 {G : Gl} {p : Program} {e : Env} {s : State} {m : MethodId} {below : List Frame} {meth : Method} {c : Code} {b L : Nat} {xs : Nat → Int32} (X : LX G p s m meth c b L xs) {Z : Zt} {σ : Sg} (hX : RelX Z σ) (hM : RelM Z σ) (hI : OkI Z) {i : Nat} (hi : i + 6 ≤ L) (ih : ∀ (Z2 : Zt) (σ2 : Sg), RelX Z2 σ2 → RelM Z2 σ2 → OkI Z2 → LW G p e s m below meth c b 1441 [(0, .ref b), (1, .ref (gA G 0)), (2, .ref (gA G 54)), (3, .int (iI (i : Int)))] [] σ2) : LW G p e s m below meth c b 996 [(0, .ref b), (1, .ref (gA G 0)), (2, .ref (gA G 54)), (3, .int (iI (i : Int)))] [] σ := by
  have hO := hI.1
  refine L_aload_n (k := 1) (pc := 996) X rfl dL_law_996 ?_
  refine L_aload_n (k := 0) (pc := 997) X rfl dL_law_997 ?_
  refine L_iload_n (k := 3) (pc := 998) X rfl dL_law_998 ?_
  refine L_iconst (pc := 999) X dL_law_999 ?_
  refine L_iadd (pc := 1000) X dL_law_1000 ?_
  refine L_sld (i + 1) (pc := 1001) X (by omega) (by omega) dL_law_1001 ?_
  refine L_aload_n (k := 0) (pc := 1002) X rfl dL_law_1002 ?_
  refine L_iload_n (k := 3) (pc := 1003) X rfl dL_law_1003 ?_
  refine L_iconst (pc := 1004) X dL_law_1004 ?_
  refine L_iadd (pc := 1005) X dL_law_1005 ?_
  refine L_sld (i + 2) (pc := 1006) X (by omega) (by omega) dL_law_1006 ?_
  refine L_call (pc := 1007) X kL_116 rfl rfl (c_X8_where (d := 0) hX hO (i32_lo _) (i32_hi _) (i32_lo _) (i32_hi _)) (by decide) dL_law_1007 rfl rfl (Nat.le_of_ble_eq_true rfl) (Nat.le_of_ble_eq_true rfl) (fun v0 υ hυ => ?_)
  obtain ⟨rfl, g0, f0⟩ := hυ
  have hM2 := hM.frX f0
  refine L_aload_n (k := 2) (pc := 1010) X rfl dL_law_1010 ?_
  refine L_aload_n (k := 0) (pc := 1011) X rfl dL_law_1011 ?_
  refine L_iload_n (k := 3) (pc := 1012) X rfl dL_law_1012 ?_
  refine L_iconst (pc := 1013) X dL_law_1013 ?_
  refine L_iadd (pc := 1014) X dL_law_1014 ?_
  refine L_sld (i + 1) (pc := 1015) X (by omega) (by omega) dL_law_1015 ?_
  refine L_aload_n (k := 0) (pc := 1016) X rfl dL_law_1016 ?_
  refine L_iload_n (k := 3) (pc := 1017) X rfl dL_law_1017 ?_
  refine L_iconst (pc := 1018) X dL_law_1018 ?_
  refine L_iadd (pc := 1019) X dL_law_1019 ?_
  refine L_sld (i + 2) (pc := 1020) X (by omega) (by omega) dL_law_1020 ?_
  refine L_call (pc := 1021) X kL_119 rfl rfl (c_X9_where (d := 0) hM2 hO (i32_lo _) (i32_hi _) (i32_lo _) (i32_hi _)) (by decide) dL_law_1021 rfl rfl (Nat.le_of_ble_eq_true rfl) (Nat.le_of_ble_eq_true rfl) (fun v1 ω hω => ?_)
  obtain ⟨rfl, g1, f1⟩ := hω
  refine L_eq 1441 (pc := 1024) X dL_law_1024 (by decide) ?_
  exact ih _ _ (g0.frM f1) g1 (hI.oWhere _ _)
set_option maxRecDepth 20000 in
theorem L_case24 {G : Gl} {p : Program} {e : Env} {s : State} {m : MethodId} {below : List Frame} {meth : Method} {c : Code} {b L : Nat} {xs : Nat → Int32} (X : LX G p s m meth c b L xs) {Z : Zt} {σ : Sg} (hX : RelX Z σ) (hM : RelM Z σ) (hI : OkI Z) {i : Nat} (hi : i + 6 ≤ L) (ih : ∀ (Z2 : Zt) (σ2 : Sg), RelX Z2 σ2 → RelM Z2 σ2 → OkI Z2 → LW G p e s m below meth c b 1441 [(0, .ref b), (1, .ref (gA G 0)), (2, .ref (gA G 54)), (3, .int (iI (i : Int)))] [] σ2) : LW G p e s m below meth c b 1029 [(0, .ref b), (1, .ref (gA G 0)), (2, .ref (gA G 54)), (3, .int (iI (i : Int)))] [] σ := by
  have hO := hI.1
  refine L_aload_n (k := 1) (pc := 1029) X rfl dL_law_1029 ?_
  refine L_aload_n (k := 0) (pc := 1030) X rfl dL_law_1030 ?_
  refine L_iload_n (k := 3) (pc := 1031) X rfl dL_law_1031 ?_
  refine L_iconst (pc := 1032) X dL_law_1032 ?_
  refine L_iadd (pc := 1033) X dL_law_1033 ?_
  refine L_sld (i + 1) (pc := 1034) X (by omega) (by omega) dL_law_1034 ?_
  refine L_call (pc := 1035) X kL_120 rfl rfl (c_X8_ask (d := 0) hX hO (i32_lo _) (i32_hi _)) (by decide) dL_law_1035 rfl rfl (Nat.le_of_ble_eq_true rfl) (Nat.le_of_ble_eq_true rfl) (fun v0 υ hυ => ?_)
  obtain ⟨rfl, g0, f0⟩ := hυ
  have hM2 := hM.frX f0
  refine L_aload_n (k := 2) (pc := 1038) X rfl dL_law_1038 ?_
  refine L_aload_n (k := 0) (pc := 1039) X rfl dL_law_1039 ?_
  refine L_iload_n (k := 3) (pc := 1040) X rfl dL_law_1040 ?_
  refine L_iconst (pc := 1041) X dL_law_1041 ?_
  refine L_iadd (pc := 1042) X dL_law_1042 ?_
  refine L_sld (i + 1) (pc := 1043) X (by omega) (by omega) dL_law_1043 ?_
  refine L_call (pc := 1044) X kL_123 rfl rfl (c_X9_ask (d := 0) hM2 hO (i32_lo _) (i32_hi _)) (by decide) dL_law_1044 rfl rfl (Nat.le_of_ble_eq_true rfl) (Nat.le_of_ble_eq_true rfl) (fun v1 ω hω => ?_)
  obtain ⟨rfl, g1, f1⟩ := hω
  refine L_eq 1441 (pc := 1047) X dL_law_1047 (by decide) ?_
  exact ih _ _ (g0.frM f1) g1 (hI.oAsk _)
set_option maxRecDepth 20000 in
theorem L_case25 {G : Gl} {p : Program} {e : Env} {s : State} {m : MethodId} {below : List Frame} {meth : Method} {c : Code} {b L : Nat} {xs : Nat → Int32} (X : LX G p s m meth c b L xs) {Z : Zt} {σ : Sg} (hX : RelX Z σ) (hM : RelM Z σ) (hI : OkI Z) {i : Nat} (hi : i + 6 ≤ L) (ih : ∀ (Z2 : Zt) (σ2 : Sg), RelX Z2 σ2 → RelM Z2 σ2 → OkI Z2 → LW G p e s m below meth c b 1441 [(0, .ref b), (1, .ref (gA G 0)), (2, .ref (gA G 54)), (3, .int (iI (i : Int)))] [] σ2) : LW G p e s m below meth c b 1052 [(0, .ref b), (1, .ref (gA G 0)), (2, .ref (gA G 54)), (3, .int (iI (i : Int)))] [] σ := by
  have hO := hI.1
  refine L_aload_n (k := 1) (pc := 1052) X rfl dL_law_1052 ?_
  refine L_aload_n (k := 0) (pc := 1053) X rfl dL_law_1053 ?_
  refine L_iload_n (k := 3) (pc := 1054) X rfl dL_law_1054 ?_
  refine L_iconst (pc := 1055) X dL_law_1055 ?_
  refine L_iadd (pc := 1056) X dL_law_1056 ?_
  refine L_sld (i + 1) (pc := 1057) X (by omega) (by omega) dL_law_1057 ?_
  refine L_call (pc := 1058) X kL_124 rfl rfl (c_X8_fresh (d := 0) hX hO (i32_lo _) (i32_hi _)) (by decide) dL_law_1058 rfl rfl (Nat.le_of_ble_eq_true rfl) (Nat.le_of_ble_eq_true rfl) (fun v0 υ hυ => ?_)
  obtain ⟨rfl, g0, f0⟩ := hυ
  have hM2 := hM.frX f0
  refine L_aload_n (k := 2) (pc := 1061) X rfl dL_law_1061 ?_
  refine L_aload_n (k := 0) (pc := 1062) X rfl dL_law_1062 ?_
  refine L_iload_n (k := 3) (pc := 1063) X rfl dL_law_1063 ?_
  refine L_iconst (pc := 1064) X dL_law_1064 ?_
  refine L_iadd (pc := 1065) X dL_law_1065 ?_
  refine L_sld (i + 1) (pc := 1066) X (by omega) (by omega) dL_law_1066 ?_
  refine L_call (pc := 1067) X kL_127 rfl rfl (c_X9_fresh (d := 0) hM2 hO (i32_lo _) (i32_hi _)) (by decide) dL_law_1067 rfl rfl (Nat.le_of_ble_eq_true rfl) (Nat.le_of_ble_eq_true rfl) (fun v1 ω hω => ?_)
  obtain ⟨rfl, g1, f1⟩ := hω
  refine L_eq 1441 (pc := 1070) X dL_law_1070 (by decide) ?_
  exact ih _ _ (g0.frM f1) g1 (hI.oFresh _)
set_option maxRecDepth 20000 in
theorem L_case26 {G : Gl} {p : Program} {e : Env} {s : State} {m : MethodId} {below : List Frame} {meth : Method} {c : Code} {b L : Nat} {xs : Nat → Int32} (X : LX G p s m meth c b L xs) {Z : Zt} {σ : Sg} (hX : RelX Z σ) (hM : RelM Z σ) (hI : OkI Z) {i : Nat} (hi : i + 6 ≤ L) (ih : ∀ (Z2 : Zt) (σ2 : Sg), RelX Z2 σ2 → RelM Z2 σ2 → OkI Z2 → LW G p e s m below meth c b 1441 [(0, .ref b), (1, .ref (gA G 0)), (2, .ref (gA G 54)), (3, .int (iI (i : Int)))] [] σ2) : LW G p e s m below meth c b 1075 [(0, .ref b), (1, .ref (gA G 0)), (2, .ref (gA G 54)), (3, .int (iI (i : Int)))] [] σ := by
  have hO := hI.1
  refine L_aload_n (k := 1) (pc := 1075) X rfl dL_law_1075 ?_
  refine L_aload_n (k := 0) (pc := 1076) X rfl dL_law_1076 ?_
  refine L_iload_n (k := 3) (pc := 1077) X rfl dL_law_1077 ?_
  refine L_iconst (pc := 1078) X dL_law_1078 ?_
  refine L_iadd (pc := 1079) X dL_law_1079 ?_
  refine L_sld (i + 1) (pc := 1080) X (by omega) (by omega) dL_law_1080 ?_
  refine L_call (pc := 1081) X kL_128 rfl rfl (c_X8_housed (d := 0) hX hO (i32_lo _) (i32_hi _)) (by decide) dL_law_1081 rfl rfl (Nat.le_of_ble_eq_true rfl) (Nat.le_of_ble_eq_true rfl) (fun v0 υ hυ => ?_)
  obtain ⟨rfl, g0, f0⟩ := hυ
  have hM2 := hM.frX f0
  refine L_aload_n (k := 2) (pc := 1084) X rfl dL_law_1084 ?_
  refine L_aload_n (k := 0) (pc := 1085) X rfl dL_law_1085 ?_
  refine L_iload_n (k := 3) (pc := 1086) X rfl dL_law_1086 ?_
  refine L_iconst (pc := 1087) X dL_law_1087 ?_
  refine L_iadd (pc := 1088) X dL_law_1088 ?_
  refine L_sld (i + 1) (pc := 1089) X (by omega) (by omega) dL_law_1089 ?_
  refine L_call (pc := 1090) X kL_131 rfl rfl (c_X9_housed (d := 0) hM2 hO (i32_lo _) (i32_hi _)) (by decide) dL_law_1090 rfl rfl (Nat.le_of_ble_eq_true rfl) (Nat.le_of_ble_eq_true rfl) (fun v1 ω hω => ?_)
  obtain ⟨rfl, g1, f1⟩ := hω
  refine L_eq 1441 (pc := 1093) X dL_law_1093 (by decide) ?_
  exact ih _ _ (g0.frM f1) g1 (hI.oHoused _)
set_option maxRecDepth 20000 in
theorem L_case27 {G : Gl} {p : Program} {e : Env} {s : State} {m : MethodId} {below : List Frame} {meth : Method} {c : Code} {b L : Nat} {xs : Nat → Int32} (X : LX G p s m meth c b L xs) {Z : Zt} {σ : Sg} (hX : RelX Z σ) (hM : RelM Z σ) (hI : OkI Z) {i : Nat} (hi : i + 6 ≤ L) (ih : ∀ (Z2 : Zt) (σ2 : Sg), RelX Z2 σ2 → RelM Z2 σ2 → OkI Z2 → LW G p e s m below meth c b 1441 [(0, .ref b), (1, .ref (gA G 0)), (2, .ref (gA G 54)), (3, .int (iI (i : Int)))] [] σ2) : LW G p e s m below meth c b 1098 [(0, .ref b), (1, .ref (gA G 0)), (2, .ref (gA G 54)), (3, .int (iI (i : Int)))] [] σ := by
  have hO := hI.1
  refine L_aload_n (k := 1) (pc := 1098) X rfl dL_law_1098 ?_
  refine L_aload_n (k := 0) (pc := 1099) X rfl dL_law_1099 ?_
  refine L_iload_n (k := 3) (pc := 1100) X rfl dL_law_1100 ?_
  refine L_iconst (pc := 1101) X dL_law_1101 ?_
  refine L_iadd (pc := 1102) X dL_law_1102 ?_
  refine L_sld (i + 1) (pc := 1103) X (by omega) (by omega) dL_law_1103 ?_
  refine L_aload_n (k := 0) (pc := 1104) X rfl dL_law_1104 ?_
  refine L_iload_n (k := 3) (pc := 1105) X rfl dL_law_1105 ?_
  refine L_iconst (pc := 1106) X dL_law_1106 ?_
  refine L_iadd (pc := 1107) X dL_law_1107 ?_
  refine L_sld (i + 2) (pc := 1108) X (by omega) (by omega) dL_law_1108 ?_
  refine L_aload_n (k := 0) (pc := 1109) X rfl dL_law_1109 ?_
  refine L_iload_n (k := 3) (pc := 1110) X rfl dL_law_1110 ?_
  refine L_iconst (pc := 1111) X dL_law_1111 ?_
  refine L_iadd (pc := 1112) X dL_law_1112 ?_
  refine L_sld (i + 3) (pc := 1113) X (by omega) (by omega) dL_law_1113 ?_
  refine L_call (pc := 1114) X kL_132 rfl rfl (c_X8_meet (d := 0) hX hO hI.2.1 (i32_lo _) (i32_hi _) (i32_lo _) (i32_hi _) (i32_lo _) (i32_hi _)) (by decide) dL_law_1114 rfl rfl (Nat.le_of_ble_eq_true rfl) (Nat.le_of_ble_eq_true rfl) (fun v0 υ hυ => ?_)
  obtain ⟨rfl, g0, f0⟩ := hυ
  have hM2 := hM.frX f0
  refine L_aload_n (k := 2) (pc := 1117) X rfl dL_law_1117 ?_
  refine L_aload_n (k := 0) (pc := 1118) X rfl dL_law_1118 ?_
  refine L_iload_n (k := 3) (pc := 1119) X rfl dL_law_1119 ?_
  refine L_iconst (pc := 1120) X dL_law_1120 ?_
  refine L_iadd (pc := 1121) X dL_law_1121 ?_
  refine L_sld (i + 1) (pc := 1122) X (by omega) (by omega) dL_law_1122 ?_
  refine L_aload_n (k := 0) (pc := 1123) X rfl dL_law_1123 ?_
  refine L_iload_n (k := 3) (pc := 1124) X rfl dL_law_1124 ?_
  refine L_iconst (pc := 1125) X dL_law_1125 ?_
  refine L_iadd (pc := 1126) X dL_law_1126 ?_
  refine L_sld (i + 2) (pc := 1127) X (by omega) (by omega) dL_law_1127 ?_
  refine L_aload_n (k := 0) (pc := 1128) X rfl dL_law_1128 ?_
  refine L_iload_n (k := 3) (pc := 1129) X rfl dL_law_1129 ?_
  refine L_iconst (pc := 1130) X dL_law_1130 ?_
  refine L_iadd (pc := 1131) X dL_law_1131 ?_
  refine L_sld (i + 3) (pc := 1132) X (by omega) (by omega) dL_law_1132 ?_
  refine L_call (pc := 1133) X kL_135 rfl rfl (c_X9_meet (d := 0) hM2 hO hI.2.1 (i32_lo _) (i32_hi _) (i32_lo _) (i32_hi _) (i32_lo _) (i32_hi _)) (by decide) dL_law_1133 rfl rfl (Nat.le_of_ble_eq_true rfl) (Nat.le_of_ble_eq_true rfl) (fun v1 ω hω => ?_)
  obtain ⟨rfl, g1, f1⟩ := hω
  refine L_eq 1441 (pc := 1136) X dL_law_1136 (by decide) ?_
  exact ih _ _ (g0.frM f1) g1 (hI.oMeet _ _ _)
set_option maxRecDepth 20000 in
theorem L_case28 {G : Gl} {p : Program} {e : Env} {s : State} {m : MethodId} {below : List Frame} {meth : Method} {c : Code} {b L : Nat} {xs : Nat → Int32} (X : LX G p s m meth c b L xs) {Z : Zt} {σ : Sg} (hX : RelX Z σ) (hM : RelM Z σ) (hI : OkI Z) {i : Nat} (hi : i + 6 ≤ L) (ih : ∀ (Z2 : Zt) (σ2 : Sg), RelX Z2 σ2 → RelM Z2 σ2 → OkI Z2 → LW G p e s m below meth c b 1441 [(0, .ref b), (1, .ref (gA G 0)), (2, .ref (gA G 54)), (3, .int (iI (i : Int)))] [] σ2) : LW G p e s m below meth c b 1141 [(0, .ref b), (1, .ref (gA G 0)), (2, .ref (gA G 54)), (3, .int (iI (i : Int)))] [] σ := by
  have hO := hI.1
  refine L_aload_n (k := 1) (pc := 1141) X rfl dL_law_1141 ?_
  refine L_aload_n (k := 0) (pc := 1142) X rfl dL_law_1142 ?_
  refine L_iload_n (k := 3) (pc := 1143) X rfl dL_law_1143 ?_
  refine L_iconst (pc := 1144) X dL_law_1144 ?_
  refine L_iadd (pc := 1145) X dL_law_1145 ?_
  refine L_sld (i + 1) (pc := 1146) X (by omega) (by omega) dL_law_1146 ?_
  refine L_aload_n (k := 0) (pc := 1147) X rfl dL_law_1147 ?_
  refine L_iload_n (k := 3) (pc := 1148) X rfl dL_law_1148 ?_
  refine L_iconst (pc := 1149) X dL_law_1149 ?_
  refine L_iadd (pc := 1150) X dL_law_1150 ?_
  refine L_sld (i + 2) (pc := 1151) X (by omega) (by omega) dL_law_1151 ?_
  refine L_aload_n (k := 0) (pc := 1152) X rfl dL_law_1152 ?_
  refine L_iload_n (k := 3) (pc := 1153) X rfl dL_law_1153 ?_
  refine L_iconst (pc := 1154) X dL_law_1154 ?_
  refine L_iadd (pc := 1155) X dL_law_1155 ?_
  refine L_sld (i + 3) (pc := 1156) X (by omega) (by omega) dL_law_1156 ?_
  refine L_call (pc := 1157) X kL_136 rfl rfl (c_X8_judge (d := 0) hX hO (i32_lo _) (i32_hi _) (i32_lo _) (i32_hi _) (i32_lo _) (i32_hi _)) (by decide) dL_law_1157 rfl rfl (Nat.le_of_ble_eq_true rfl) (Nat.le_of_ble_eq_true rfl) (fun v0 υ hυ => ?_)
  obtain ⟨rfl, g0, f0⟩ := hυ
  have hM2 := hM.frX f0
  refine L_aload_n (k := 2) (pc := 1160) X rfl dL_law_1160 ?_
  refine L_aload_n (k := 0) (pc := 1161) X rfl dL_law_1161 ?_
  refine L_iload_n (k := 3) (pc := 1162) X rfl dL_law_1162 ?_
  refine L_iconst (pc := 1163) X dL_law_1163 ?_
  refine L_iadd (pc := 1164) X dL_law_1164 ?_
  refine L_sld (i + 1) (pc := 1165) X (by omega) (by omega) dL_law_1165 ?_
  refine L_aload_n (k := 0) (pc := 1166) X rfl dL_law_1166 ?_
  refine L_iload_n (k := 3) (pc := 1167) X rfl dL_law_1167 ?_
  refine L_iconst (pc := 1168) X dL_law_1168 ?_
  refine L_iadd (pc := 1169) X dL_law_1169 ?_
  refine L_sld (i + 2) (pc := 1170) X (by omega) (by omega) dL_law_1170 ?_
  refine L_aload_n (k := 0) (pc := 1171) X rfl dL_law_1171 ?_
  refine L_iload_n (k := 3) (pc := 1172) X rfl dL_law_1172 ?_
  refine L_iconst (pc := 1173) X dL_law_1173 ?_
  refine L_iadd (pc := 1174) X dL_law_1174 ?_
  refine L_sld (i + 3) (pc := 1175) X (by omega) (by omega) dL_law_1175 ?_
  refine L_call (pc := 1176) X kL_139 rfl rfl (c_X9_judge (d := 0) hM2 hO (i32_lo _) (i32_hi _) (i32_lo _) (i32_hi _) (i32_lo _) (i32_hi _)) (by decide) dL_law_1176 rfl rfl (Nat.le_of_ble_eq_true rfl) (Nat.le_of_ble_eq_true rfl) (fun v1 ω hω => ?_)
  obtain ⟨rfl, g1, f1⟩ := hω
  refine L_eq 1441 (pc := 1179) X dL_law_1179 (by decide) ?_
  exact ih _ _ (g0.frM f1) g1 (hI.oJudge _ _ _)
set_option maxRecDepth 20000 in
theorem L_case29 {G : Gl} {p : Program} {e : Env} {s : State} {m : MethodId} {below : List Frame} {meth : Method} {c : Code} {b L : Nat} {xs : Nat → Int32} (X : LX G p s m meth c b L xs) {Z : Zt} {σ : Sg} (hX : RelX Z σ) (hM : RelM Z σ) (hI : OkI Z) {i : Nat} (hi : i + 6 ≤ L) (ih : ∀ (Z2 : Zt) (σ2 : Sg), RelX Z2 σ2 → RelM Z2 σ2 → OkI Z2 → LW G p e s m below meth c b 1441 [(0, .ref b), (1, .ref (gA G 0)), (2, .ref (gA G 54)), (3, .int (iI (i : Int)))] [] σ2) : LW G p e s m below meth c b 1184 [(0, .ref b), (1, .ref (gA G 0)), (2, .ref (gA G 54)), (3, .int (iI (i : Int)))] [] σ := by
  have hO := hI.1
  refine L_aload_n (k := 1) (pc := 1184) X rfl dL_law_1184 ?_
  refine L_aload_n (k := 0) (pc := 1185) X rfl dL_law_1185 ?_
  refine L_iload_n (k := 3) (pc := 1186) X rfl dL_law_1186 ?_
  refine L_iconst (pc := 1187) X dL_law_1187 ?_
  refine L_iadd (pc := 1188) X dL_law_1188 ?_
  refine L_sld (i + 1) (pc := 1189) X (by omega) (by omega) dL_law_1189 ?_
  refine L_aload_n (k := 0) (pc := 1190) X rfl dL_law_1190 ?_
  refine L_iload_n (k := 3) (pc := 1191) X rfl dL_law_1191 ?_
  refine L_iconst (pc := 1192) X dL_law_1192 ?_
  refine L_iadd (pc := 1193) X dL_law_1193 ?_
  refine L_sld (i + 2) (pc := 1194) X (by omega) (by omega) dL_law_1194 ?_
  refine L_aload_n (k := 0) (pc := 1195) X rfl dL_law_1195 ?_
  refine L_iload_n (k := 3) (pc := 1196) X rfl dL_law_1196 ?_
  refine L_iconst (pc := 1197) X dL_law_1197 ?_
  refine L_iadd (pc := 1198) X dL_law_1198 ?_
  refine L_sld (i + 3) (pc := 1199) X (by omega) (by omega) dL_law_1199 ?_
  refine L_aload_n (k := 0) (pc := 1200) X rfl dL_law_1200 ?_
  refine L_iload_n (k := 3) (pc := 1201) X rfl dL_law_1201 ?_
  refine L_iconst (pc := 1202) X dL_law_1202 ?_
  refine L_iadd (pc := 1203) X dL_law_1203 ?_
  refine L_sld (i + 4) (pc := 1204) X (by omega) (by omega) dL_law_1204 ?_
  refine L_call (pc := 1205) X kL_140 rfl rfl (c_X8_behind (d := 0) hX hO (i32_lo _) (i32_hi _) (i32_lo _) (i32_hi _) (i32_lo _) (i32_hi _) (i32_lo _) (i32_hi _)) (by decide) dL_law_1205 rfl rfl (Nat.le_of_ble_eq_true rfl) (Nat.le_of_ble_eq_true rfl) (fun v0 υ hυ => ?_)
  obtain ⟨rfl, g0, f0⟩ := hυ
  have hM2 := hM.frX f0
  refine L_aload_n (k := 2) (pc := 1208) X rfl dL_law_1208 ?_
  refine L_aload_n (k := 0) (pc := 1209) X rfl dL_law_1209 ?_
  refine L_iload_n (k := 3) (pc := 1210) X rfl dL_law_1210 ?_
  refine L_iconst (pc := 1211) X dL_law_1211 ?_
  refine L_iadd (pc := 1212) X dL_law_1212 ?_
  refine L_sld (i + 1) (pc := 1213) X (by omega) (by omega) dL_law_1213 ?_
  refine L_aload_n (k := 0) (pc := 1214) X rfl dL_law_1214 ?_
  refine L_iload_n (k := 3) (pc := 1215) X rfl dL_law_1215 ?_
  refine L_iconst (pc := 1216) X dL_law_1216 ?_
  refine L_iadd (pc := 1217) X dL_law_1217 ?_
  refine L_sld (i + 2) (pc := 1218) X (by omega) (by omega) dL_law_1218 ?_
  refine L_aload_n (k := 0) (pc := 1219) X rfl dL_law_1219 ?_
  refine L_iload_n (k := 3) (pc := 1220) X rfl dL_law_1220 ?_
  refine L_iconst (pc := 1221) X dL_law_1221 ?_
  refine L_iadd (pc := 1222) X dL_law_1222 ?_
  refine L_sld (i + 3) (pc := 1223) X (by omega) (by omega) dL_law_1223 ?_
  refine L_aload_n (k := 0) (pc := 1224) X rfl dL_law_1224 ?_
  refine L_iload_n (k := 3) (pc := 1225) X rfl dL_law_1225 ?_
  refine L_iconst (pc := 1226) X dL_law_1226 ?_
  refine L_iadd (pc := 1227) X dL_law_1227 ?_
  refine L_sld (i + 4) (pc := 1228) X (by omega) (by omega) dL_law_1228 ?_
  refine L_call (pc := 1229) X kL_143 rfl rfl (c_X9_behind (d := 0) hM2 hO (i32_lo _) (i32_hi _) (i32_lo _) (i32_hi _) (i32_lo _) (i32_hi _) (i32_lo _) (i32_hi _)) (by decide) dL_law_1229 rfl rfl (Nat.le_of_ble_eq_true rfl) (Nat.le_of_ble_eq_true rfl) (fun v1 ω hω => ?_)
  obtain ⟨rfl, g1, f1⟩ := hω
  refine L_eq 1441 (pc := 1232) X dL_law_1232 (by decide) ?_
  exact ih _ _ (g0.frM f1) g1 (hI.oBehind _ _ _ _)
set_option maxRecDepth 20000 in
theorem L_case30 {G : Gl} {p : Program} {e : Env} {s : State} {m : MethodId} {below : List Frame} {meth : Method} {c : Code} {b L : Nat} {xs : Nat → Int32} (X : LX G p s m meth c b L xs) {Z : Zt} {σ : Sg} (hX : RelX Z σ) (hM : RelM Z σ) (hI : OkI Z) {i : Nat} (hi : i + 6 ≤ L) (ih : ∀ (Z2 : Zt) (σ2 : Sg), RelX Z2 σ2 → RelM Z2 σ2 → OkI Z2 → LW G p e s m below meth c b 1441 [(0, .ref b), (1, .ref (gA G 0)), (2, .ref (gA G 54)), (3, .int (iI (i : Int)))] [] σ2) : LW G p e s m below meth c b 1237 [(0, .ref b), (1, .ref (gA G 0)), (2, .ref (gA G 54)), (3, .int (iI (i : Int)))] [] σ := by
  have hO := hI.1
  refine L_aload_n (k := 1) (pc := 1237) X rfl dL_law_1237 ?_
  refine L_aload_n (k := 0) (pc := 1238) X rfl dL_law_1238 ?_
  refine L_iload_n (k := 3) (pc := 1239) X rfl dL_law_1239 ?_
  refine L_iconst (pc := 1240) X dL_law_1240 ?_
  refine L_iadd (pc := 1241) X dL_law_1241 ?_
  refine L_sld (i + 1) (pc := 1242) X (by omega) (by omega) dL_law_1242 ?_
  refine L_aload_n (k := 0) (pc := 1243) X rfl dL_law_1243 ?_
  refine L_iload_n (k := 3) (pc := 1244) X rfl dL_law_1244 ?_
  refine L_iconst (pc := 1245) X dL_law_1245 ?_
  refine L_iadd (pc := 1246) X dL_law_1246 ?_
  refine L_sld (i + 2) (pc := 1247) X (by omega) (by omega) dL_law_1247 ?_
  refine L_aload_n (k := 0) (pc := 1248) X rfl dL_law_1248 ?_
  refine L_iload_n (k := 3) (pc := 1249) X rfl dL_law_1249 ?_
  refine L_iconst (pc := 1250) X dL_law_1250 ?_
  refine L_iadd (pc := 1251) X dL_law_1251 ?_
  refine L_sld (i + 3) (pc := 1252) X (by omega) (by omega) dL_law_1252 ?_
  refine L_call (pc := 1253) X kL_144 rfl rfl (c_X8_done (d := 0) hX hO (i32_lo _) (i32_hi _) (i32_lo _) (i32_hi _) (i32_lo _) (i32_hi _)) (by decide) dL_law_1253 rfl rfl (Nat.le_of_ble_eq_true rfl) (Nat.le_of_ble_eq_true rfl) (fun v0 υ hυ => ?_)
  obtain ⟨rfl, g0, f0⟩ := hυ
  have hM2 := hM.frX f0
  refine L_aload_n (k := 2) (pc := 1256) X rfl dL_law_1256 ?_
  refine L_aload_n (k := 0) (pc := 1257) X rfl dL_law_1257 ?_
  refine L_iload_n (k := 3) (pc := 1258) X rfl dL_law_1258 ?_
  refine L_iconst (pc := 1259) X dL_law_1259 ?_
  refine L_iadd (pc := 1260) X dL_law_1260 ?_
  refine L_sld (i + 1) (pc := 1261) X (by omega) (by omega) dL_law_1261 ?_
  refine L_aload_n (k := 0) (pc := 1262) X rfl dL_law_1262 ?_
  refine L_iload_n (k := 3) (pc := 1263) X rfl dL_law_1263 ?_
  refine L_iconst (pc := 1264) X dL_law_1264 ?_
  refine L_iadd (pc := 1265) X dL_law_1265 ?_
  refine L_sld (i + 2) (pc := 1266) X (by omega) (by omega) dL_law_1266 ?_
  refine L_aload_n (k := 0) (pc := 1267) X rfl dL_law_1267 ?_
  refine L_iload_n (k := 3) (pc := 1268) X rfl dL_law_1268 ?_
  refine L_iconst (pc := 1269) X dL_law_1269 ?_
  refine L_iadd (pc := 1270) X dL_law_1270 ?_
  refine L_sld (i + 3) (pc := 1271) X (by omega) (by omega) dL_law_1271 ?_
  refine L_call (pc := 1272) X kL_147 rfl rfl (c_X9_done (d := 0) hM2 hO (i32_lo _) (i32_hi _) (i32_lo _) (i32_hi _) (i32_lo _) (i32_hi _)) (by decide) dL_law_1272 rfl rfl (Nat.le_of_ble_eq_true rfl) (Nat.le_of_ble_eq_true rfl) (fun v1 ω hω => ?_)
  obtain ⟨rfl, g1, f1⟩ := hω
  refine L_eq 1441 (pc := 1275) X dL_law_1275 (by decide) ?_
  exact ih _ _ (g0.frM f1) g1 (hI.oDone _ _ _)
set_option maxRecDepth 20000 in
theorem L_case31 {G : Gl} {p : Program} {e : Env} {s : State} {m : MethodId} {below : List Frame} {meth : Method} {c : Code} {b L : Nat} {xs : Nat → Int32} (X : LX G p s m meth c b L xs) {Z : Zt} {σ : Sg} (hX : RelX Z σ) (hM : RelM Z σ) (hI : OkI Z) {i : Nat} (hi : i + 6 ≤ L) (ih : ∀ (Z2 : Zt) (σ2 : Sg), RelX Z2 σ2 → RelM Z2 σ2 → OkI Z2 → LW G p e s m below meth c b 1441 [(0, .ref b), (1, .ref (gA G 0)), (2, .ref (gA G 54)), (3, .int (iI (i : Int)))] [] σ2) : LW G p e s m below meth c b 1280 [(0, .ref b), (1, .ref (gA G 0)), (2, .ref (gA G 54)), (3, .int (iI (i : Int)))] [] σ := by
  have hO := hI.1
  refine L_aload_n (k := 1) (pc := 1280) X rfl dL_law_1280 ?_
  refine L_aload_n (k := 0) (pc := 1281) X rfl dL_law_1281 ?_
  refine L_iload_n (k := 3) (pc := 1282) X rfl dL_law_1282 ?_
  refine L_iconst (pc := 1283) X dL_law_1283 ?_
  refine L_iadd (pc := 1284) X dL_law_1284 ?_
  refine L_sld (i + 1) (pc := 1285) X (by omega) (by omega) dL_law_1285 ?_
  refine L_call (pc := 1286) X kL_148 rfl rfl (c_X8_days (d := 0) hX hO (i32_lo _) (i32_hi _)) (by decide) dL_law_1286 rfl rfl (Nat.le_of_ble_eq_true rfl) (Nat.le_of_ble_eq_true rfl) (fun v0 υ hυ => ?_)
  obtain ⟨rfl, g0, f0⟩ := hυ
  have hM2 := hM.frX f0
  refine L_aload_n (k := 2) (pc := 1289) X rfl dL_law_1289 ?_
  refine L_aload_n (k := 0) (pc := 1290) X rfl dL_law_1290 ?_
  refine L_iload_n (k := 3) (pc := 1291) X rfl dL_law_1291 ?_
  refine L_iconst (pc := 1292) X dL_law_1292 ?_
  refine L_iadd (pc := 1293) X dL_law_1293 ?_
  refine L_sld (i + 1) (pc := 1294) X (by omega) (by omega) dL_law_1294 ?_
  refine L_call (pc := 1295) X kL_151 rfl rfl (c_X9_days (d := 0) hM2 hO (i32_lo _) (i32_hi _)) (by decide) dL_law_1295 rfl rfl (Nat.le_of_ble_eq_true rfl) (Nat.le_of_ble_eq_true rfl) (fun v1 ω hω => ?_)
  obtain ⟨rfl, g1, f1⟩ := hω
  refine L_eq 1441 (pc := 1298) X dL_law_1298 (by decide) ?_
  exact ih _ _ (g0.frM f1) g1 (hI.oDays _)
set_option maxRecDepth 20000 in
theorem L_case32 {G : Gl} {p : Program} {e : Env} {s : State} {m : MethodId} {below : List Frame} {meth : Method} {c : Code} {b L : Nat} {xs : Nat → Int32} (X : LX G p s m meth c b L xs) {Z : Zt} {σ : Sg} (hX : RelX Z σ) (hM : RelM Z σ) (hI : OkI Z) {i : Nat} (hi : i + 6 ≤ L) (ih : ∀ (Z2 : Zt) (σ2 : Sg), RelX Z2 σ2 → RelM Z2 σ2 → OkI Z2 → LW G p e s m below meth c b 1441 [(0, .ref b), (1, .ref (gA G 0)), (2, .ref (gA G 54)), (3, .int (iI (i : Int)))] [] σ2) : LW G p e s m below meth c b 1303 [(0, .ref b), (1, .ref (gA G 0)), (2, .ref (gA G 54)), (3, .int (iI (i : Int)))] [] σ := by
  have hO := hI.1
  refine L_aload_n (k := 1) (pc := 1303) X rfl dL_law_1303 ?_
  refine L_aload_n (k := 0) (pc := 1304) X rfl dL_law_1304 ?_
  refine L_iload_n (k := 3) (pc := 1305) X rfl dL_law_1305 ?_
  refine L_iconst (pc := 1306) X dL_law_1306 ?_
  refine L_iadd (pc := 1307) X dL_law_1307 ?_
  refine L_sld (i + 1) (pc := 1308) X (by omega) (by omega) dL_law_1308 ?_
  refine L_call (pc := 1309) X kL_152 rfl rfl (c_X8_seed (d := 0) hX hO (i32_lo _) (i32_hi _)) (by decide) dL_law_1309 rfl rfl (Nat.le_of_ble_eq_true rfl) (Nat.le_of_ble_eq_true rfl) (fun v0 υ hυ => ?_)
  obtain ⟨rfl, g0, f0⟩ := hυ
  have hM2 := hM.frX f0
  refine L_aload_n (k := 2) (pc := 1312) X rfl dL_law_1312 ?_
  refine L_aload_n (k := 0) (pc := 1313) X rfl dL_law_1313 ?_
  refine L_iload_n (k := 3) (pc := 1314) X rfl dL_law_1314 ?_
  refine L_iconst (pc := 1315) X dL_law_1315 ?_
  refine L_iadd (pc := 1316) X dL_law_1316 ?_
  refine L_sld (i + 1) (pc := 1317) X (by omega) (by omega) dL_law_1317 ?_
  refine L_call (pc := 1318) X kL_155 rfl rfl (c_X9_seed (d := 0) hM2 hO (i32_lo _) (i32_hi _)) (by decide) dL_law_1318 rfl rfl (Nat.le_of_ble_eq_true rfl) (Nat.le_of_ble_eq_true rfl) (fun v1 ω hω => ?_)
  obtain ⟨rfl, g1, f1⟩ := hω
  refine L_eq 1441 (pc := 1321) X dL_law_1321 (by decide) ?_
  exact ih _ _ (g0.frM f1) g1 (hI.oSeed _)
set_option maxRecDepth 20000 in
theorem L_case33 {G : Gl} {p : Program} {e : Env} {s : State} {m : MethodId} {below : List Frame} {meth : Method} {c : Code} {b L : Nat} {xs : Nat → Int32} (X : LX G p s m meth c b L xs) {Z : Zt} {σ : Sg} (hX : RelX Z σ) (hM : RelM Z σ) (hI : OkI Z) {i : Nat} (hi : i + 6 ≤ L) (ih : ∀ (Z2 : Zt) (σ2 : Sg), RelX Z2 σ2 → RelM Z2 σ2 → OkI Z2 → LW G p e s m below meth c b 1441 [(0, .ref b), (1, .ref (gA G 0)), (2, .ref (gA G 54)), (3, .int (iI (i : Int)))] [] σ2) : LW G p e s m below meth c b 1326 [(0, .ref b), (1, .ref (gA G 0)), (2, .ref (gA G 54)), (3, .int (iI (i : Int)))] [] σ := by
  have hO := hI.1
  refine L_aload_n (k := 1) (pc := 1326) X rfl dL_law_1326 ?_
  refine L_aload_n (k := 0) (pc := 1327) X rfl dL_law_1327 ?_
  refine L_iload_n (k := 3) (pc := 1328) X rfl dL_law_1328 ?_
  refine L_iconst (pc := 1329) X dL_law_1329 ?_
  refine L_iadd (pc := 1330) X dL_law_1330 ?_
  refine L_sld (i + 1) (pc := 1331) X (by omega) (by omega) dL_law_1331 ?_
  refine L_aload_n (k := 0) (pc := 1332) X rfl dL_law_1332 ?_
  refine L_iload_n (k := 3) (pc := 1333) X rfl dL_law_1333 ?_
  refine L_iconst (pc := 1334) X dL_law_1334 ?_
  refine L_iadd (pc := 1335) X dL_law_1335 ?_
  refine L_sld (i + 2) (pc := 1336) X (by omega) (by omega) dL_law_1336 ?_
  refine L_aload_n (k := 0) (pc := 1337) X rfl dL_law_1337 ?_
  refine L_iload_n (k := 3) (pc := 1338) X rfl dL_law_1338 ?_
  refine L_iconst (pc := 1339) X dL_law_1339 ?_
  refine L_iadd (pc := 1340) X dL_law_1340 ?_
  refine L_sld (i + 3) (pc := 1341) X (by omega) (by omega) dL_law_1341 ?_
  refine L_call (pc := 1342) X kL_156 rfl rfl (c_X8_act (d := 0) hX hO (i32_lo _) (i32_hi _) (i32_lo _) (i32_hi _)) (by decide) dL_law_1342 rfl rfl (Nat.le_of_ble_eq_true rfl) (Nat.le_of_ble_eq_true rfl) (fun v0 υ hυ => ?_)
  obtain ⟨rfl, g0, f0⟩ := hυ
  have hM2 := hM.frX f0
  refine L_aload_n (k := 2) (pc := 1345) X rfl dL_law_1345 ?_
  refine L_aload_n (k := 0) (pc := 1346) X rfl dL_law_1346 ?_
  refine L_iload_n (k := 3) (pc := 1347) X rfl dL_law_1347 ?_
  refine L_iconst (pc := 1348) X dL_law_1348 ?_
  refine L_iadd (pc := 1349) X dL_law_1349 ?_
  refine L_sld (i + 1) (pc := 1350) X (by omega) (by omega) dL_law_1350 ?_
  refine L_aload_n (k := 0) (pc := 1351) X rfl dL_law_1351 ?_
  refine L_iload_n (k := 3) (pc := 1352) X rfl dL_law_1352 ?_
  refine L_iconst (pc := 1353) X dL_law_1353 ?_
  refine L_iadd (pc := 1354) X dL_law_1354 ?_
  refine L_sld (i + 2) (pc := 1355) X (by omega) (by omega) dL_law_1355 ?_
  refine L_aload_n (k := 0) (pc := 1356) X rfl dL_law_1356 ?_
  refine L_iload_n (k := 3) (pc := 1357) X rfl dL_law_1357 ?_
  refine L_iconst (pc := 1358) X dL_law_1358 ?_
  refine L_iadd (pc := 1359) X dL_law_1359 ?_
  refine L_sld (i + 3) (pc := 1360) X (by omega) (by omega) dL_law_1360 ?_
  refine L_call (pc := 1361) X kL_159 rfl rfl (c_X9_act (d := 0) hM2 hO (i32_lo _) (i32_hi _) (i32_lo _) (i32_hi _)) (by decide) dL_law_1361 rfl rfl (Nat.le_of_ble_eq_true rfl) (Nat.le_of_ble_eq_true rfl) (fun v1 ω hω => ?_)
  obtain ⟨rfl, g1, f1⟩ := hω
  refine L_eq 1441 (pc := 1364) X dL_law_1364 (by decide) ?_
  exact ih _ _ (g0.frM f1) g1 (hI.oAct _ _ _)
set_option maxRecDepth 20000 in
theorem L_case34 {G : Gl} {p : Program} {e : Env} {s : State} {m : MethodId} {below : List Frame} {meth : Method} {c : Code} {b L : Nat} {xs : Nat → Int32} (X : LX G p s m meth c b L xs) {Z : Zt} {σ : Sg} (hX : RelX Z σ) (hM : RelM Z σ) (hI : OkI Z) {i : Nat} (hi : i + 6 ≤ L) (ih : ∀ (Z2 : Zt) (σ2 : Sg), RelX Z2 σ2 → RelM Z2 σ2 → OkI Z2 → LW G p e s m below meth c b 1441 [(0, .ref b), (1, .ref (gA G 0)), (2, .ref (gA G 54)), (3, .int (iI (i : Int)))] [] σ2) : LW G p e s m below meth c b 1369 [(0, .ref b), (1, .ref (gA G 0)), (2, .ref (gA G 54)), (3, .int (iI (i : Int)))] [] σ := by
  have hO := hI.1
  refine L_aload_n (k := 1) (pc := 1369) X rfl dL_law_1369 ?_
  refine L_aload_n (k := 0) (pc := 1370) X rfl dL_law_1370 ?_
  refine L_iload_n (k := 3) (pc := 1371) X rfl dL_law_1371 ?_
  refine L_iconst (pc := 1372) X dL_law_1372 ?_
  refine L_iadd (pc := 1373) X dL_law_1373 ?_
  refine L_sld (i + 1) (pc := 1374) X (by omega) (by omega) dL_law_1374 ?_
  refine L_call (pc := 1375) X kL_160 rfl rfl (c_X8_trace (d := 0) hX hO (i32_lo _) (i32_hi _)) (by decide) dL_law_1375 rfl rfl (Nat.le_of_ble_eq_true rfl) (Nat.le_of_ble_eq_true rfl) (fun v0 υ hυ => ?_)
  obtain ⟨rfl, rfl⟩ := hυ
  have hM2 := hM
  refine L_aload_n (k := 2) (pc := 1378) X rfl dL_law_1378 ?_
  refine L_aload_n (k := 0) (pc := 1379) X rfl dL_law_1379 ?_
  refine L_iload_n (k := 3) (pc := 1380) X rfl dL_law_1380 ?_
  refine L_iconst (pc := 1381) X dL_law_1381 ?_
  refine L_iadd (pc := 1382) X dL_law_1382 ?_
  refine L_sld (i + 1) (pc := 1383) X (by omega) (by omega) dL_law_1383 ?_
  refine L_call (pc := 1384) X kL_163 rfl rfl (c_X9_trace (d := 0) hM2 hO (i32_lo _) (i32_hi _)) (by decide) dL_law_1384 rfl rfl (Nat.le_of_ble_eq_true rfl) (Nat.le_of_ble_eq_true rfl) (fun v1 ω hω => ?_)
  obtain ⟨rfl, rfl⟩ := hω
  refine L_eq 1441 (pc := 1387) X dL_law_1387 (by decide) ?_
  exact ih Z _ hX hM hI
set_option maxRecDepth 20000 in
theorem L_case35 {G : Gl} {p : Program} {e : Env} {s : State} {m : MethodId} {below : List Frame} {meth : Method} {c : Code} {b L : Nat} {xs : Nat → Int32} (X : LX G p s m meth c b L xs) {Z : Zt} {σ : Sg} (hX : RelX Z σ) (hM : RelM Z σ) (hI : OkI Z) {i : Nat} (hi : i + 6 ≤ L) (ih : ∀ (Z2 : Zt) (σ2 : Sg), RelX Z2 σ2 → RelM Z2 σ2 → OkI Z2 → LW G p e s m below meth c b 1441 [(0, .ref b), (1, .ref (gA G 0)), (2, .ref (gA G 54)), (3, .int (iI (i : Int)))] [] σ2) : LW G p e s m below meth c b 1392 [(0, .ref b), (1, .ref (gA G 0)), (2, .ref (gA G 54)), (3, .int (iI (i : Int)))] [] σ := by
  have hO := hI.1
  refine L_aload_n (k := 1) (pc := 1392) X rfl dL_law_1392 ?_
  refine L_call (pc := 1393) X kL_164 rfl rfl (c_X8_image (d := 0) hX hO) (by decide) dL_law_1393 rfl rfl (Nat.le_of_ble_eq_true rfl) (Nat.le_of_ble_eq_true rfl) (fun v0 υ hυ => ?_)
  obtain ⟨rfl, g0, f0⟩ := hυ
  have hM2 := hM.frX f0
  refine L_aload_n (k := 2) (pc := 1396) X rfl dL_law_1396 ?_
  refine L_call (pc := 1397) X kL_167 rfl rfl (c_X9_image (d := 0) hM2 hO) (by decide) dL_law_1397 rfl rfl (Nat.le_of_ble_eq_true rfl) (Nat.le_of_ble_eq_true rfl) (fun v1 ω hω => ?_)
  obtain ⟨rfl, g1, f1⟩ := hω
  refine L_eq 1441 (pc := 1400) X dL_law_1400 (by decide) ?_
  exact ih _ _ (g0.frM f1) g1 (hI.oImage)
set_option maxRecDepth 20000 in
theorem L_case36 {G : Gl} {p : Program} {e : Env} {s : State} {m : MethodId} {below : List Frame} {meth : Method} {c : Code} {b L : Nat} {xs : Nat → Int32} (X : LX G p s m meth c b L xs) {Z : Zt} {σ : Sg} (hX : RelX Z σ) (hM : RelM Z σ) (hI : OkI Z) {i : Nat} (hi : i + 6 ≤ L) (ih : ∀ (Z2 : Zt) (σ2 : Sg), RelX Z2 σ2 → RelM Z2 σ2 → OkI Z2 → LW G p e s m below meth c b 1441 [(0, .ref b), (1, .ref (gA G 0)), (2, .ref (gA G 54)), (3, .int (iI (i : Int)))] [] σ2) : LW G p e s m below meth c b 1405 [(0, .ref b), (1, .ref (gA G 0)), (2, .ref (gA G 54)), (3, .int (iI (i : Int)))] [] σ := by
  have hO := hI.1
  refine L_aload_n (k := 1) (pc := 1405) X rfl dL_law_1405 ?_
  refine L_call (pc := 1406) X kL_168 rfl rfl (c_X8_restore (d := 0) hX hO) (by decide) dL_law_1406 rfl rfl (Nat.le_of_ble_eq_true rfl) (Nat.le_of_ble_eq_true rfl) (fun v0 υ hυ => ?_)
  obtain ⟨rfl, g0, f0⟩ := hυ
  have hM2 := hM.frX f0
  refine L_aload_n (k := 2) (pc := 1409) X rfl dL_law_1409 ?_
  refine L_call (pc := 1410) X kL_171 rfl rfl (c_X9_restore (d := 0) hM2 hO) (by decide) dL_law_1410 rfl rfl (Nat.le_of_ble_eq_true rfl) (Nat.le_of_ble_eq_true rfl) (fun v1 ω hω => ?_)
  obtain ⟨rfl, g1, f1⟩ := hω
  refine L_eq 1441 (pc := 1413) X dL_law_1413 (by decide) ?_
  exact ih _ _ (g0.frM f1) g1 (hI.oRestore)
set_option maxRecDepth 20000 in
theorem L_case37 {G : Gl} {p : Program} {e : Env} {s : State} {m : MethodId} {below : List Frame} {meth : Method} {c : Code} {b L : Nat} {xs : Nat → Int32} (X : LX G p s m meth c b L xs) {Z : Zt} {σ : Sg} (hX : RelX Z σ) (hM : RelM Z σ) (hI : OkI Z) {i : Nat} (hi : i + 6 ≤ L) (ih : ∀ (Z2 : Zt) (σ2 : Sg), RelX Z2 σ2 → RelM Z2 σ2 → OkI Z2 → LW G p e s m below meth c b 1441 [(0, .ref b), (1, .ref (gA G 0)), (2, .ref (gA G 54)), (3, .int (iI (i : Int)))] [] σ2) : LW G p e s m below meth c b 1418 [(0, .ref b), (1, .ref (gA G 0)), (2, .ref (gA G 54)), (3, .int (iI (i : Int)))] [] σ := by
  have hO := hI.1
  refine L_aload_n (k := 1) (pc := 1418) X rfl dL_law_1418 ?_
  refine L_aload_n (k := 0) (pc := 1419) X rfl dL_law_1419 ?_
  refine L_iload_n (k := 3) (pc := 1420) X rfl dL_law_1420 ?_
  refine L_iconst (pc := 1421) X dL_law_1421 ?_
  refine L_iadd (pc := 1422) X dL_law_1422 ?_
  refine L_sld (i + 1) (pc := 1423) X (by omega) (by omega) dL_law_1423 ?_
  refine L_call (pc := 1424) X kL_172 rfl rfl (c_X8_status (d := 0) hX hO (i32_lo _) (i32_hi _)) (by decide) dL_law_1424 rfl rfl (Nat.le_of_ble_eq_true rfl) (Nat.le_of_ble_eq_true rfl) (fun v0 υ hυ => ?_)
  obtain ⟨rfl, rfl⟩ := hυ
  have hM2 := hM
  refine L_aload_n (k := 2) (pc := 1427) X rfl dL_law_1427 ?_
  refine L_aload_n (k := 0) (pc := 1428) X rfl dL_law_1428 ?_
  refine L_iload_n (k := 3) (pc := 1429) X rfl dL_law_1429 ?_
  refine L_iconst (pc := 1430) X dL_law_1430 ?_
  refine L_iadd (pc := 1431) X dL_law_1431 ?_
  refine L_sld (i + 1) (pc := 1432) X (by omega) (by omega) dL_law_1432 ?_
  refine L_call (pc := 1433) X kL_175 rfl rfl (c_X9_status (d := 0) hM2 hO (i32_lo _) (i32_hi _)) (by decide) dL_law_1433 rfl rfl (Nat.le_of_ble_eq_true rfl) (Nat.le_of_ble_eq_true rfl) (fun v1 ω hω => ?_)
  obtain ⟨rfl, rfl⟩ := hω
  refine L_eq 1441 (pc := 1436) X dL_law_1436 (by decide) ?_
  exact ih Z _ hX hM hI
