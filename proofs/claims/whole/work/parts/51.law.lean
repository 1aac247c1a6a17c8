/-! ===== the law's loop ===== -/
section LAW
variable {E : EnvT} {b LN : Nat} {xs : Nat → Int32} {σ : Sg}
def mL : MI := (yL_law, cL_law, 4, ret, 0)
abbrev ZL (E : EnvT) (b LN : Nat) (xs : Nat → Int32) : ZT := (room_1, 53, 531, fun below args s => lw_Z below args s, fun s => va_X b LN xs s s.heap ∧ b < s.heap.size ∧ ∀ a, Aof E a → s.heap.size ≤ a)
theorem nI_4 (a : Nat) : nI a + 4 = nI (a + 4) := nI_add a 4
theorem nI_5 (a : Nat) : nI a + 5 = nI (a + 5) := nI_add a 5
theorem nI_6 (a : Nat) : nI a + 6 = nI (a + 6) := nI_add a 6
theorem r_xld {k pc : Nat} {L : List (Option Value)} {S : List Value} (hk : k < LN ∧ LN ≤ 3072) (d : decode mL.2.1 pc = .ok (.iaload, 1)) (K : GW E (ZL E b LN xs) mL (pc + 1) L (.int (xs k) :: S) σ) : GW E (ZL E b LN xs) mL pc L (.int (nI k) :: .ref b :: S) σ := fun p e s m args below meth c H locs ls C hl hP hS => by
  obtain ⟨hX, hbl, hA⟩ := C.2.2.2.2.2.2.2.2.2.2
  refine va_sld C.1 C.2.1 hX hbl (fun q => absurd (hA b q) (Nat.not_le.mpr hbl)) hS (i := nI k) (vp_in_nI hk.1 (by omega)) d ?_
  rw [nI_clamp (by omega)]
  exact K p e s m args below meth c H locs ls C hl hP hS
theorem r_xlen {pc : Nat} {L : List (Option Value)} {S : List Value} (d : decode mL.2.1 pc = .ok (.arraylength, 1)) (K : GW E (ZL E b LN xs) mL (pc + 1) L (.int (nI LN) :: S) σ) : GW E (ZL E b LN xs) mL pc L (.ref b :: S) σ := fun p e s m args below meth c H locs ls C hl hP hS => by
  obtain ⟨hX, hbl, hA⟩ := C.2.2.2.2.2.2.2.2.2.2
  exact va_slen C.1 C.2.1 hX hbl (fun q => absurd (hA b q) (Nat.not_le.mpr hbl)) hS d (K p e s m args below meth c H locs ls C hl hP hS)
theorem r_lret {pc : Nat} {L : List (Option Value)} (d : decode mL.2.1 pc = .ok (.ireturn, 1)) : GW E (ZL E b LN xs) mL pc L [.int 1] σ := fun p e s m args below meth c H locs ls C hl hP hS => by
  obtain ⟨hX, hbl, hA⟩ := C.2.2.2.2.2.2.2.2.2.2
  have hx := C.1
  have hb := C.2.1
  have hr : meth.sig.returnType = ret := C.2.2.2.1
  have hlocks := C.2.2.2.2.1
  have hdg : decode code pc = .ok (.ireturn, 1) := d
  have hb : c.code = code := hb
  refine va_forget (fun q hq => hA _ (hS.2.2 q hq)) ?_
  intro T hT X
  obtain ⟨fs, hret, hrun, hended, hW, hframe⟩ := X.leave (v := some (.int 1)) (hlocks := hlocks) (fun h => by rw [hr] at h; cases h)
  have hmeth' : T.vm.method? m = some meth := X.method'
  refine ⟨T.setFrames fs, ?_, .returned (some (.int 1)), hrun, hended, rfl, ⟨_, rfl⟩, hW, hframe⟩
  jvm_step X.here [X.here.top, hx, hb, hdg, hmeth', hr, ret, narrow_b1]
  (try refine ⟨rfl, ?_⟩); (try refine ⟨rfl, ?_⟩)
  first | (intro acts; rw [hret _ acts rfl rfl rfl]) | rw [hret _ _ rfl rfl rfl]
  exact Steps.refl _
abbrev lst4 (E : EnvT) (b i : Nat) : List (Option Value) := [some (.ref b), some (.ref (ad E 0 0)), some (.ref (ad E 18 0)), some (.int (nI i))]
abbrev NXT (E : EnvT) (b LN : Nat) (xs : Nat → Int32) (i : Nat) : Prop := ∀ σ, Rel σ → GW E (ZL E b LN xs) mL 1188 (lst4 E b i) [] σ
theorem lcmp_rfl (x : Int64) : lg_cmp x x = 0 := by
  unfold lg_cmp
  rw [if_neg (fun h => absurd h (Int64.lt_irrefl)), if_pos rfl]
theorem cs_letter {i : Nat} (hi : i + 6 ≤ LN) (hL : LN ≤ 3072) (hR : Rel σ) (NX : NXT E b LN xs i) : GW E (ZL E b LN xs) mL 184 (lst4 E b i) [] σ := by
  refine r_aload_n dL_law_184 rfl ?_
  refine r_aload_n dL_law_185 rfl ?_
  refine r_iload_n dL_law_186 rfl ?_
  refine r_iconst (1) dL_law_187 rfl ?_
  refine r_iadd dL_law_188 ?_
  rw [nI_1]
  refine r_xld (by omega) dL_law_189 ?_
  refine cV_i1 fX8_letter rcv_0 lkL_13 rfl dL_law_190 (pr_letter hR (fun r σ1 tw => ?_))
  refine r_aload_n dL_law_193 rfl ?_
  refine r_aload_n dL_law_194 rfl ?_
  refine r_iload_n dL_law_195 rfl ?_
  refine r_iconst (1) dL_law_196 rfl ?_
  refine r_iadd dL_law_197 ?_
  rw [nI_1]
  refine r_xld (by omega) dL_law_198 ?_
  refine cV_i1 fX9_letter rcv_18 lkL_17 rfl dL_law_199 (tw _ (fun σ2 hR2 => ?_))
  refine r_icmp_eq 1188 dL_law_202 rfl (fun h202 => ?_) (fun h202 => ?_)
  · exact NX _ hR2
  · exact absurd rfl h202
theorem cs_works {i : Nat} (hi : i + 6 ≤ LN) (hL : LN ≤ 3072) (hR : Rel σ) (NX : NXT E b LN xs i) : GW E (ZL E b LN xs) mL 207 (lst4 E b i) [] σ := by
  refine r_aload_n dL_law_207 rfl ?_
  refine cV_i0 fX8_works rcv_0 lkL_18 rfl dL_law_208 (pr_works hR (fun r σ1 tw => ?_))
  refine r_aload_n dL_law_211 rfl ?_
  refine cV_i0 fX9_works rcv_18 lkL_22 rfl dL_law_212 (tw _ (fun σ2 hR2 => ?_))
  refine r_icmp_eq 1188 dL_law_215 rfl (fun h215 => ?_) (fun h215 => ?_)
  · exact NX _ hR2
  · exact absurd rfl h215
theorem cs_worker {i : Nat} (hi : i + 6 ≤ LN) (hL : LN ≤ 3072) (hR : Rel σ) (NX : NXT E b LN xs i) : GW E (ZL E b LN xs) mL 220 (lst4 E b i) [] σ := by
  refine r_aload_n dL_law_220 rfl ?_
  refine r_aload_n dL_law_221 rfl ?_
  refine r_iload_n dL_law_222 rfl ?_
  refine r_iconst (1) dL_law_223 rfl ?_
  refine r_iadd dL_law_224 ?_
  rw [nI_1]
  refine r_xld (by omega) dL_law_225 ?_
  refine r_aload_n dL_law_226 rfl ?_
  refine r_iload_n dL_law_227 rfl ?_
  refine r_iconst (2) dL_law_228 rfl ?_
  refine r_iadd dL_law_229 ?_
  rw [nI_2]
  refine r_xld (by omega) dL_law_230 ?_
  refine cV_i2 fX8_worker rcv_0 lkL_23 rfl dL_law_231 (pr_worker hR (fun r σ1 tw => ?_))
  refine r_aload_n dL_law_234 rfl ?_
  refine r_aload_n dL_law_235 rfl ?_
  refine r_iload_n dL_law_236 rfl ?_
  refine r_iconst (1) dL_law_237 rfl ?_
  refine r_iadd dL_law_238 ?_
  rw [nI_1]
  refine r_xld (by omega) dL_law_239 ?_
  refine r_aload_n dL_law_240 rfl ?_
  refine r_iload_n dL_law_241 rfl ?_
  refine r_iconst (2) dL_law_242 rfl ?_
  refine r_iadd dL_law_243 ?_
  rw [nI_2]
  refine r_xld (by omega) dL_law_244 ?_
  refine cV_i2 fX9_worker rcv_18 lkL_27 rfl dL_law_245 (tw _ (fun σ2 hR2 => ?_))
  refine r_icmp_eq 1188 dL_law_248 rfl (fun h248 => ?_) (fun h248 => ?_)
  · exact NX _ hR2
  · exact absurd rfl h248
theorem cs_from {i : Nat} (hi : i + 6 ≤ LN) (hL : LN ≤ 3072) (hR : Rel σ) (NX : NXT E b LN xs i) : GW E (ZL E b LN xs) mL 253 (lst4 E b i) [] σ := by
  refine r_aload_n dL_law_253 rfl ?_
  refine r_aload_n dL_law_254 rfl ?_
  refine r_iload_n dL_law_255 rfl ?_
  refine r_iconst (1) dL_law_256 rfl ?_
  refine r_iadd dL_law_257 ?_
  rw [nI_1]
  refine r_xld (by omega) dL_law_258 ?_
  refine r_aload_n dL_law_259 rfl ?_
  refine r_iload_n dL_law_260 rfl ?_
  refine r_iconst (2) dL_law_261 rfl ?_
  refine r_iadd dL_law_262 ?_
  rw [nI_2]
  refine r_xld (by omega) dL_law_263 ?_
  refine cV_i2 fX8_from rcv_0 lkL_28 rfl dL_law_264 (pr_from hR (fun r σ1 tw => ?_))
  refine r_aload_n dL_law_267 rfl ?_
  refine r_aload_n dL_law_268 rfl ?_
  refine r_iload_n dL_law_269 rfl ?_
  refine r_iconst (1) dL_law_270 rfl ?_
  refine r_iadd dL_law_271 ?_
  rw [nI_1]
  refine r_xld (by omega) dL_law_272 ?_
  refine r_aload_n dL_law_273 rfl ?_
  refine r_iload_n dL_law_274 rfl ?_
  refine r_iconst (2) dL_law_275 rfl ?_
  refine r_iadd dL_law_276 ?_
  rw [nI_2]
  refine r_xld (by omega) dL_law_277 ?_
  refine cV_i2 fX9_from rcv_18 lkL_31 rfl dL_law_278 (tw _ (fun σ2 hR2 => ?_))
  refine r_icmp_eq 1188 dL_law_281 rfl (fun h281 => ?_) (fun h281 => ?_)
  · exact NX _ hR2
  · exact absurd rfl h281
theorem cs_frees {i : Nat} (hi : i + 6 ≤ LN) (hL : LN ≤ 3072) (hR : Rel σ) (NX : NXT E b LN xs i) : GW E (ZL E b LN xs) mL 286 (lst4 E b i) [] σ := by
  refine r_aload_n dL_law_286 rfl ?_
  refine r_aload_n dL_law_287 rfl ?_
  refine r_iload_n dL_law_288 rfl ?_
  refine r_iconst (1) dL_law_289 rfl ?_
  refine r_iadd dL_law_290 ?_
  rw [nI_1]
  refine r_xld (by omega) dL_law_291 ?_
  refine r_aload_n dL_law_292 rfl ?_
  refine r_iload_n dL_law_293 rfl ?_
  refine r_iconst (2) dL_law_294 rfl ?_
  refine r_iadd dL_law_295 ?_
  rw [nI_2]
  refine r_xld (by omega) dL_law_296 ?_
  refine cV_i2 fX8_frees rcv_0 lkL_32 rfl dL_law_297 (pr_frees hR (fun r σ1 tw => ?_))
  refine r_aload_n dL_law_300 rfl ?_
  refine r_aload_n dL_law_301 rfl ?_
  refine r_iload_n dL_law_302 rfl ?_
  refine r_iconst (1) dL_law_303 rfl ?_
  refine r_iadd dL_law_304 ?_
  rw [nI_1]
  refine r_xld (by omega) dL_law_305 ?_
  refine r_aload_n dL_law_306 rfl ?_
  refine r_iload_n dL_law_307 rfl ?_
  refine r_iconst (2) dL_law_308 rfl ?_
  refine r_iadd dL_law_309 ?_
  rw [nI_2]
  refine r_xld (by omega) dL_law_310 ?_
  refine cV_i2 fX9_frees rcv_18 lkL_35 rfl dL_law_311 (tw _ (fun σ2 hR2 => ?_))
  refine r_icmp_eq 1188 dL_law_314 rfl (fun h314 => ?_) (fun h314 => ?_)
  · exact NX _ hR2
  · exact absurd rfl h314
theorem cs_gives {i : Nat} (hi : i + 6 ≤ LN) (hL : LN ≤ 3072) (hR : Rel σ) (NX : NXT E b LN xs i) : GW E (ZL E b LN xs) mL 319 (lst4 E b i) [] σ := by
  refine r_aload_n dL_law_319 rfl ?_
  refine r_aload_n dL_law_320 rfl ?_
  refine r_iload_n dL_law_321 rfl ?_
  refine r_iconst (1) dL_law_322 rfl ?_
  refine r_iadd dL_law_323 ?_
  rw [nI_1]
  refine r_xld (by omega) dL_law_324 ?_
  refine r_aload_n dL_law_325 rfl ?_
  refine r_iload_n dL_law_326 rfl ?_
  refine r_iconst (2) dL_law_327 rfl ?_
  refine r_iadd dL_law_328 ?_
  rw [nI_2]
  refine r_xld (by omega) dL_law_329 ?_
  refine r_aload_n dL_law_330 rfl ?_
  refine r_iload_n dL_law_331 rfl ?_
  refine r_iconst (3) dL_law_332 rfl ?_
  refine r_iadd dL_law_333 ?_
  rw [nI_3]
  refine r_xld (by omega) dL_law_334 ?_
  refine cV_i3 fX8_gives rcv_0 lkL_36 rfl dL_law_335 (pr_gives hR (fun r σ1 tw => ?_))
  refine r_aload_n dL_law_338 rfl ?_
  refine r_aload_n dL_law_339 rfl ?_
  refine r_iload_n dL_law_340 rfl ?_
  refine r_iconst (1) dL_law_341 rfl ?_
  refine r_iadd dL_law_342 ?_
  rw [nI_1]
  refine r_xld (by omega) dL_law_343 ?_
  refine r_aload_n dL_law_344 rfl ?_
  refine r_iload_n dL_law_345 rfl ?_
  refine r_iconst (2) dL_law_346 rfl ?_
  refine r_iadd dL_law_347 ?_
  rw [nI_2]
  refine r_xld (by omega) dL_law_348 ?_
  refine r_aload_n dL_law_349 rfl ?_
  refine r_iload_n dL_law_350 rfl ?_
  refine r_iconst (3) dL_law_351 rfl ?_
  refine r_iadd dL_law_352 ?_
  rw [nI_3]
  refine r_xld (by omega) dL_law_353 ?_
  refine cV_i3 fX9_gives rcv_18 lkL_40 rfl dL_law_354 (tw _ (fun σ2 hR2 => ?_))
  refine r_icmp_eq 1188 dL_law_357 rfl (fun h357 => ?_) (fun h357 => ?_)
  · exact NX _ hR2
  · exact absurd rfl h357
theorem cs_rests {i : Nat} (hi : i + 6 ≤ LN) (hL : LN ≤ 3072) (hR : Rel σ) (NX : NXT E b LN xs i) : GW E (ZL E b LN xs) mL 362 (lst4 E b i) [] σ := by
  refine r_aload_n dL_law_362 rfl ?_
  refine r_aload_n dL_law_363 rfl ?_
  refine r_iload_n dL_law_364 rfl ?_
  refine r_iconst (1) dL_law_365 rfl ?_
  refine r_iadd dL_law_366 ?_
  rw [nI_1]
  refine r_xld (by omega) dL_law_367 ?_
  refine r_aload_n dL_law_368 rfl ?_
  refine r_iload_n dL_law_369 rfl ?_
  refine r_iconst (2) dL_law_370 rfl ?_
  refine r_iadd dL_law_371 ?_
  rw [nI_2]
  refine r_xld (by omega) dL_law_372 ?_
  refine cV_i2 fX8_rests rcv_0 lkL_41 rfl dL_law_373 (pr_rests hR (fun r σ1 tw => ?_))
  refine r_aload_n dL_law_376 rfl ?_
  refine r_aload_n dL_law_377 rfl ?_
  refine r_iload_n dL_law_378 rfl ?_
  refine r_iconst (1) dL_law_379 rfl ?_
  refine r_iadd dL_law_380 ?_
  rw [nI_1]
  refine r_xld (by omega) dL_law_381 ?_
  refine r_aload_n dL_law_382 rfl ?_
  refine r_iload_n dL_law_383 rfl ?_
  refine r_iconst (2) dL_law_384 rfl ?_
  refine r_iadd dL_law_385 ?_
  rw [nI_2]
  refine r_xld (by omega) dL_law_386 ?_
  refine cV_i2 fX9_rests rcv_18 lkL_44 rfl dL_law_387 (tw _ (fun σ2 hR2 => ?_))
  refine r_icmp_eq 1188 dL_law_390 rfl (fun h390 => ?_) (fun h390 => ?_)
  · exact NX _ hR2
  · exact absurd rfl h390
theorem cs_turn {i : Nat} (hi : i + 6 ≤ LN) (hL : LN ≤ 3072) (hR : Rel σ) (NX : NXT E b LN xs i) : GW E (ZL E b LN xs) mL 395 (lst4 E b i) [] σ := by
  refine r_aload_n dL_law_395 rfl ?_
  refine r_aload_n dL_law_396 rfl ?_
  refine r_iload_n dL_law_397 rfl ?_
  refine r_iconst (1) dL_law_398 rfl ?_
  refine r_iadd dL_law_399 ?_
  rw [nI_1]
  refine r_xld (by omega) dL_law_400 ?_
  refine r_aload_n dL_law_401 rfl ?_
  refine r_iload_n dL_law_402 rfl ?_
  refine r_iconst (2) dL_law_403 rfl ?_
  refine r_iadd dL_law_404 ?_
  rw [nI_2]
  refine r_xld (by omega) dL_law_405 ?_
  refine r_aload_n dL_law_406 rfl ?_
  refine r_iload_n dL_law_407 rfl ?_
  refine r_iconst (3) dL_law_408 rfl ?_
  refine r_iadd dL_law_409 ?_
  rw [nI_3]
  refine r_xld (by omega) dL_law_410 ?_
  refine cV_i3 fX8_turn rcv_0 lkL_45 rfl dL_law_411 (pr_turn hR (fun r σ1 tw => ?_))
  refine r_aload_n dL_law_414 rfl ?_
  refine r_aload_n dL_law_415 rfl ?_
  refine r_iload_n dL_law_416 rfl ?_
  refine r_iconst (1) dL_law_417 rfl ?_
  refine r_iadd dL_law_418 ?_
  rw [nI_1]
  refine r_xld (by omega) dL_law_419 ?_
  refine r_aload_n dL_law_420 rfl ?_
  refine r_iload_n dL_law_421 rfl ?_
  refine r_iconst (2) dL_law_422 rfl ?_
  refine r_iadd dL_law_423 ?_
  rw [nI_2]
  refine r_xld (by omega) dL_law_424 ?_
  refine r_aload_n dL_law_425 rfl ?_
  refine r_iload_n dL_law_426 rfl ?_
  refine r_iconst (3) dL_law_427 rfl ?_
  refine r_iadd dL_law_428 ?_
  rw [nI_3]
  refine r_xld (by omega) dL_law_429 ?_
  refine cV_i3 fX9_turn rcv_18 lkL_48 rfl dL_law_430 (tw _ (fun σ2 hR2 => ?_))
  refine r_icmp_eq 1188 dL_law_433 rfl (fun h433 => ?_) (fun h433 => ?_)
  · exact NX _ hR2
  · exact absurd rfl h433
theorem cs_days {i : Nat} (hi : i + 6 ≤ LN) (hL : LN ≤ 3072) (hR : Rel σ) (NX : NXT E b LN xs i) : GW E (ZL E b LN xs) mL 438 (lst4 E b i) [] σ := by
  refine r_aload_n dL_law_438 rfl ?_
  refine r_aload_n dL_law_439 rfl ?_
  refine r_iload_n dL_law_440 rfl ?_
  refine r_iconst (1) dL_law_441 rfl ?_
  refine r_iadd dL_law_442 ?_
  rw [nI_1]
  refine r_xld (by omega) dL_law_443 ?_
  refine cV_i1 fX8_days rcv_0 lkL_49 rfl dL_law_444 (pr_days hR (fun r σ1 tw => ?_))
  refine r_aload_n dL_law_447 rfl ?_
  refine r_aload_n dL_law_448 rfl ?_
  refine r_iload_n dL_law_449 rfl ?_
  refine r_iconst (1) dL_law_450 rfl ?_
  refine r_iadd dL_law_451 ?_
  rw [nI_1]
  refine r_xld (by omega) dL_law_452 ?_
  refine cV_i1 fX9_days rcv_18 lkL_52 rfl dL_law_453 (tw _ (fun σ2 hR2 => ?_))
  refine r_icmp_eq 1188 dL_law_456 rfl (fun h456 => ?_) (fun h456 => ?_)
  · exact NX _ hR2
  · exact absurd rfl h456
theorem cs_workerThen {i : Nat} (hi : i + 6 ≤ LN) (hL : LN ≤ 3072) (hR : Rel σ) (NX : NXT E b LN xs i) : GW E (ZL E b LN xs) mL 461 (lst4 E b i) [] σ := by
  refine r_aload_n dL_law_461 rfl ?_
  refine r_aload_n dL_law_462 rfl ?_
  refine r_iload_n dL_law_463 rfl ?_
  refine r_iconst (1) dL_law_464 rfl ?_
  refine r_iadd dL_law_465 ?_
  rw [nI_1]
  refine r_xld (by omega) dL_law_466 ?_
  refine r_aload_n dL_law_467 rfl ?_
  refine r_iload_n dL_law_468 rfl ?_
  refine r_iconst (2) dL_law_469 rfl ?_
  refine r_iadd dL_law_470 ?_
  rw [nI_2]
  refine r_xld (by omega) dL_law_471 ?_
  refine r_aload_n dL_law_472 rfl ?_
  refine r_iload_n dL_law_473 rfl ?_
  refine r_iconst (3) dL_law_474 rfl ?_
  refine r_iadd dL_law_475 ?_
  rw [nI_3]
  refine r_xld (by omega) dL_law_476 ?_
  refine cV_i3 fX8_workerThen rcv_0 lkL_53 rfl dL_law_477 (pr_workerThen hR (fun r σ1 tw => ?_))
  refine r_aload_n dL_law_480 rfl ?_
  refine r_aload_n dL_law_481 rfl ?_
  refine r_iload_n dL_law_482 rfl ?_
  refine r_iconst (1) dL_law_483 rfl ?_
  refine r_iadd dL_law_484 ?_
  rw [nI_1]
  refine r_xld (by omega) dL_law_485 ?_
  refine r_aload_n dL_law_486 rfl ?_
  refine r_iload_n dL_law_487 rfl ?_
  refine r_iconst (2) dL_law_488 rfl ?_
  refine r_iadd dL_law_489 ?_
  rw [nI_2]
  refine r_xld (by omega) dL_law_490 ?_
  refine r_aload_n dL_law_491 rfl ?_
  refine r_iload_n dL_law_492 rfl ?_
  refine r_iconst (3) dL_law_493 rfl ?_
  refine r_iadd dL_law_494 ?_
  rw [nI_3]
  refine r_xld (by omega) dL_law_495 ?_
  refine cV_i3 fX9_workerThen rcv_18 lkL_56 rfl dL_law_496 (tw _ (fun σ2 hR2 => ?_))
  refine r_icmp_eq 1188 dL_law_499 rfl (fun h499 => ?_) (fun h499 => ?_)
  · exact NX _ hR2
  · exact absurd rfl h499
theorem cs_then {i : Nat} (hi : i + 6 ≤ LN) (hL : LN ≤ 3072) (hR : Rel σ) (NX : NXT E b LN xs i) : GW E (ZL E b LN xs) mL 504 (lst4 E b i) [] σ := by
  refine r_aload_n dL_law_504 rfl ?_
  refine r_aload_n dL_law_505 rfl ?_
  refine r_iload_n dL_law_506 rfl ?_
  refine r_iconst (1) dL_law_507 rfl ?_
  refine r_iadd dL_law_508 ?_
  rw [nI_1]
  refine r_xld (by omega) dL_law_509 ?_
  refine r_aload_n dL_law_510 rfl ?_
  refine r_iload_n dL_law_511 rfl ?_
  refine r_iconst (2) dL_law_512 rfl ?_
  refine r_iadd dL_law_513 ?_
  rw [nI_2]
  refine r_xld (by omega) dL_law_514 ?_
  refine cV_i2 fX8_then rcv_0 lkL_57 rfl dL_law_515 (pr_then hR (fun r σ1 tw => ?_))
  refine r_aload_n dL_law_518 rfl ?_
  refine r_aload_n dL_law_519 rfl ?_
  refine r_iload_n dL_law_520 rfl ?_
  refine r_iconst (1) dL_law_521 rfl ?_
  refine r_iadd dL_law_522 ?_
  rw [nI_1]
  refine r_xld (by omega) dL_law_523 ?_
  refine r_aload_n dL_law_524 rfl ?_
  refine r_iload_n dL_law_525 rfl ?_
  refine r_iconst (2) dL_law_526 rfl ?_
  refine r_iadd dL_law_527 ?_
  rw [nI_2]
  refine r_xld (by omega) dL_law_528 ?_
  refine cV_i2 fX9_then rcv_18 lkL_60 rfl dL_law_529 (tw _ (fun σ2 hR2 => ?_))
  refine r_icmp_eq 1188 dL_law_532 rfl (fun h532 => ?_) (fun h532 => ?_)
  · exact NX _ hR2
  · exact absurd rfl h532
theorem cs_falls {i : Nat} (hi : i + 6 ≤ LN) (hL : LN ≤ 3072) (hR : Rel σ) (NX : NXT E b LN xs i) : GW E (ZL E b LN xs) mL 537 (lst4 E b i) [] σ := by
  refine r_aload_n dL_law_537 rfl ?_
  refine r_aload_n dL_law_538 rfl ?_
  refine r_iload_n dL_law_539 rfl ?_
  refine r_iconst (1) dL_law_540 rfl ?_
  refine r_iadd dL_law_541 ?_
  rw [nI_1]
  refine r_xld (by omega) dL_law_542 ?_
  refine cV_i1 fX8_falls rcv_0 lkL_61 rfl dL_law_543 (pr_falls hR (fun r σ1 tw => ?_))
  refine r_aload_n dL_law_546 rfl ?_
  refine r_aload_n dL_law_547 rfl ?_
  refine r_iload_n dL_law_548 rfl ?_
  refine r_iconst (1) dL_law_549 rfl ?_
  refine r_iadd dL_law_550 ?_
  rw [nI_1]
  refine r_xld (by omega) dL_law_551 ?_
  refine cV_i1 fX9_falls rcv_18 lkL_64 rfl dL_law_552 (tw _ (fun σ2 hR2 => ?_))
  refine r_icmp_eq 1188 dL_law_555 rfl (fun h555 => ?_) (fun h555 => ?_)
  · exact NX _ hR2
  · exact absurd rfl h555
theorem cs_still {i : Nat} (hi : i + 6 ≤ LN) (hL : LN ≤ 3072) (hR : Rel σ) (NX : NXT E b LN xs i) : GW E (ZL E b LN xs) mL 560 (lst4 E b i) [] σ := by
  refine r_aload_n dL_law_560 rfl ?_
  refine cV_i0 fX8_still rcv_0 lkL_65 rfl dL_law_561 (pr_still hR (fun r σ1 tw => ?_))
  refine r_aload_n dL_law_564 rfl ?_
  refine cV_i0 fX9_still rcv_18 lkL_68 rfl dL_law_565 (tw _ (fun σ2 hR2 => ?_))
  refine r_icmp_eq 1188 dL_law_568 rfl (fun h568 => ?_) (fun h568 => ?_)
  · exact NX _ hR2
  · exact absurd rfl h568
theorem cs_strike {i : Nat} (hi : i + 6 ≤ LN) (hL : LN ≤ 3072) (hR : Rel σ) (NX : NXT E b LN xs i) : GW E (ZL E b LN xs) mL 573 (lst4 E b i) [] σ := by
  refine r_aload_n dL_law_573 rfl ?_
  refine r_aload_n dL_law_574 rfl ?_
  refine r_iload_n dL_law_575 rfl ?_
  refine r_iconst (1) dL_law_576 rfl ?_
  refine r_iadd dL_law_577 ?_
  rw [nI_1]
  refine r_xld (by omega) dL_law_578 ?_
  refine cV_i1 fX8_strike rcv_0 lkL_69 rfl dL_law_579 (pr_strike hR (fun r σ1 tw => ?_))
  refine r_aload_n dL_law_582 rfl ?_
  refine r_aload_n dL_law_583 rfl ?_
  refine r_iload_n dL_law_584 rfl ?_
  refine r_iconst (1) dL_law_585 rfl ?_
  refine r_iadd dL_law_586 ?_
  rw [nI_1]
  refine r_xld (by omega) dL_law_587 ?_
  refine cV_i1 fX9_strike rcv_18 lkL_72 rfl dL_law_588 (tw _ (fun σ2 hR2 => ?_))
  refine r_icmp_eq 1188 dL_law_591 rfl (fun h591 => ?_) (fun h591 => ?_)
  · exact NX _ hR2
  · exact absurd rfl h591
theorem cs_meet {i : Nat} (hi : i + 6 ≤ LN) (hL : LN ≤ 3072) (hR : Rel σ) (NX : NXT E b LN xs i) : GW E (ZL E b LN xs) mL 596 (lst4 E b i) [] σ := by
  refine r_aload_n dL_law_596 rfl ?_
  refine r_aload_n dL_law_597 rfl ?_
  refine r_iload_n dL_law_598 rfl ?_
  refine r_iconst (1) dL_law_599 rfl ?_
  refine r_iadd dL_law_600 ?_
  rw [nI_1]
  refine r_xld (by omega) dL_law_601 ?_
  refine r_aload_n dL_law_602 rfl ?_
  refine r_iload_n dL_law_603 rfl ?_
  refine r_iconst (2) dL_law_604 rfl ?_
  refine r_iadd dL_law_605 ?_
  rw [nI_2]
  refine r_xld (by omega) dL_law_606 ?_
  refine cV_i2 fX8_meet rcv_0 lkL_73 rfl dL_law_607 (pr_meet hR (fun r σ1 tw => ?_))
  refine r_aload_n dL_law_610 rfl ?_
  refine r_aload_n dL_law_611 rfl ?_
  refine r_iload_n dL_law_612 rfl ?_
  refine r_iconst (1) dL_law_613 rfl ?_
  refine r_iadd dL_law_614 ?_
  rw [nI_1]
  refine r_xld (by omega) dL_law_615 ?_
  refine r_aload_n dL_law_616 rfl ?_
  refine r_iload_n dL_law_617 rfl ?_
  refine r_iconst (2) dL_law_618 rfl ?_
  refine r_iadd dL_law_619 ?_
  rw [nI_2]
  refine r_xld (by omega) dL_law_620 ?_
  refine cV_i2 fX9_meet rcv_18 lkL_76 rfl dL_law_621 (tw _ (fun σ2 hR2 => ?_))
  refine r_icmp_eq 1188 dL_law_624 rfl (fun h624 => ?_) (fun h624 => ?_)
  · exact NX _ hR2
  · exact absurd rfl h624
theorem cs_never {i : Nat} (hi : i + 6 ≤ LN) (hL : LN ≤ 3072) (hR : Rel σ) (NX : NXT E b LN xs i) : GW E (ZL E b LN xs) mL 629 (lst4 E b i) [] σ := by
  refine r_aload_n dL_law_629 rfl ?_
  refine r_aload_n dL_law_630 rfl ?_
  refine r_iload_n dL_law_631 rfl ?_
  refine r_iconst (1) dL_law_632 rfl ?_
  refine r_iadd dL_law_633 ?_
  rw [nI_1]
  refine r_xld (by omega) dL_law_634 ?_
  refine cV_i1 fX8_never rcv_0 lkL_77 rfl dL_law_635 (pr_never hR (fun r σ1 tw => ?_))
  refine r_aload_n dL_law_638 rfl ?_
  refine r_aload_n dL_law_639 rfl ?_
  refine r_iload_n dL_law_640 rfl ?_
  refine r_iconst (1) dL_law_641 rfl ?_
  refine r_iadd dL_law_642 ?_
  rw [nI_1]
  refine r_xld (by omega) dL_law_643 ?_
  refine cV_i1 fX9_never rcv_18 lkL_80 rfl dL_law_644 (tw _ (fun σ2 hR2 => ?_))
  refine r_icmp_eq 1188 dL_law_647 rfl (fun h647 => ?_) (fun h647 => ?_)
  · exact NX _ hR2
  · exact absurd rfl h647
theorem cs_rest {i : Nat} (hi : i + 6 ≤ LN) (hL : LN ≤ 3072) (hR : Rel σ) (NX : NXT E b LN xs i) : GW E (ZL E b LN xs) mL 652 (lst4 E b i) [] σ := by
  refine r_aload_n dL_law_652 rfl ?_
  refine r_aload_n dL_law_653 rfl ?_
  refine r_iload_n dL_law_654 rfl ?_
  refine r_iconst (1) dL_law_655 rfl ?_
  refine r_iadd dL_law_656 ?_
  rw [nI_1]
  refine r_xld (by omega) dL_law_657 ?_
  refine cV_i1 fX8_rest rcv_0 lkL_81 rfl dL_law_658 (pr_rest hR (fun r σ1 tw => ?_))
  refine r_aload_n dL_law_661 rfl ?_
  refine r_aload_n dL_law_662 rfl ?_
  refine r_iload_n dL_law_663 rfl ?_
  refine r_iconst (1) dL_law_664 rfl ?_
  refine r_iadd dL_law_665 ?_
  rw [nI_1]
  refine r_xld (by omega) dL_law_666 ?_
  refine cV_i1 fX9_rest rcv_18 lkL_84 rfl dL_law_667 (tw _ (fun σ2 hR2 => ?_))
  refine r_icmp_eq 1188 dL_law_670 rfl (fun h670 => ?_) (fun h670 => ?_)
  · exact NX _ hR2
  · exact absurd rfl h670
theorem cs_gift {i : Nat} (hi : i + 6 ≤ LN) (hL : LN ≤ 3072) (hR : Rel σ) (NX : NXT E b LN xs i) : GW E (ZL E b LN xs) mL 675 (lst4 E b i) [] σ := by
  refine r_aload_n dL_law_675 rfl ?_
  refine r_aload_n dL_law_676 rfl ?_
  refine r_iload_n dL_law_677 rfl ?_
  refine r_iconst (1) dL_law_678 rfl ?_
  refine r_iadd dL_law_679 ?_
  rw [nI_1]
  refine r_xld (by omega) dL_law_680 ?_
  refine r_aload_n dL_law_681 rfl ?_
  refine r_iload_n dL_law_682 rfl ?_
  refine r_iconst (2) dL_law_683 rfl ?_
  refine r_iadd dL_law_684 ?_
  rw [nI_2]
  refine r_xld (by omega) dL_law_685 ?_
  refine r_aload_n dL_law_686 rfl ?_
  refine r_iload_n dL_law_687 rfl ?_
  refine r_iconst (3) dL_law_688 rfl ?_
  refine r_iadd dL_law_689 ?_
  rw [nI_3]
  refine r_xld (by omega) dL_law_690 ?_
  refine cV_i3 fX8_gift rcv_0 lkL_85 rfl dL_law_691 (pr_gift hR (fun r σ1 tw => ?_))
  refine r_aload_n dL_law_694 rfl ?_
  refine r_aload_n dL_law_695 rfl ?_
  refine r_iload_n dL_law_696 rfl ?_
  refine r_iconst (1) dL_law_697 rfl ?_
  refine r_iadd dL_law_698 ?_
  rw [nI_1]
  refine r_xld (by omega) dL_law_699 ?_
  refine r_aload_n dL_law_700 rfl ?_
  refine r_iload_n dL_law_701 rfl ?_
  refine r_iconst (2) dL_law_702 rfl ?_
  refine r_iadd dL_law_703 ?_
  rw [nI_2]
  refine r_xld (by omega) dL_law_704 ?_
  refine r_aload_n dL_law_705 rfl ?_
  refine r_iload_n dL_law_706 rfl ?_
  refine r_iconst (3) dL_law_707 rfl ?_
  refine r_iadd dL_law_708 ?_
  rw [nI_3]
  refine r_xld (by omega) dL_law_709 ?_
  refine cV_i3 fX9_gift rcv_18 lkL_88 rfl dL_law_710 (tw _ (fun σ2 hR2 => ?_))
  refine r_icmp_eq 1188 dL_law_713 rfl (fun h713 => ?_) (fun h713 => ?_)
  · exact NX _ hR2
  · exact absurd rfl h713
theorem cs_trade {i : Nat} (hi : i + 6 ≤ LN) (hL : LN ≤ 3072) (hR : Rel σ) (NX : NXT E b LN xs i) : GW E (ZL E b LN xs) mL 718 (lst4 E b i) [] σ := by
  refine r_aload_n dL_law_718 rfl ?_
  refine r_aload_n dL_law_719 rfl ?_
  refine r_iload_n dL_law_720 rfl ?_
  refine r_iconst (1) dL_law_721 rfl ?_
  refine r_iadd dL_law_722 ?_
  rw [nI_1]
  refine r_xld (by omega) dL_law_723 ?_
  refine r_aload_n dL_law_724 rfl ?_
  refine r_iload_n dL_law_725 rfl ?_
  refine r_iconst (2) dL_law_726 rfl ?_
  refine r_iadd dL_law_727 ?_
  rw [nI_2]
  refine r_xld (by omega) dL_law_728 ?_
  refine r_aload_n dL_law_729 rfl ?_
  refine r_iload_n dL_law_730 rfl ?_
  refine r_iconst (3) dL_law_731 rfl ?_
  refine r_iadd dL_law_732 ?_
  rw [nI_3]
  refine r_xld (by omega) dL_law_733 ?_
  refine cV_i3 fX8_trade rcv_0 lkL_89 rfl dL_law_734 (pr_trade hR (fun r σ1 tw => ?_))
  refine r_aload_n dL_law_737 rfl ?_
  refine r_aload_n dL_law_738 rfl ?_
  refine r_iload_n dL_law_739 rfl ?_
  refine r_iconst (1) dL_law_740 rfl ?_
  refine r_iadd dL_law_741 ?_
  rw [nI_1]
  refine r_xld (by omega) dL_law_742 ?_
  refine r_aload_n dL_law_743 rfl ?_
  refine r_iload_n dL_law_744 rfl ?_
  refine r_iconst (2) dL_law_745 rfl ?_
  refine r_iadd dL_law_746 ?_
  rw [nI_2]
  refine r_xld (by omega) dL_law_747 ?_
  refine r_aload_n dL_law_748 rfl ?_
  refine r_iload_n dL_law_749 rfl ?_
  refine r_iconst (3) dL_law_750 rfl ?_
  refine r_iadd dL_law_751 ?_
  rw [nI_3]
  refine r_xld (by omega) dL_law_752 ?_
  refine cV_i3 fX9_trade rcv_18 lkL_92 rfl dL_law_753 (tw _ (fun σ2 hR2 => ?_))
  refine r_icmp_eq 1188 dL_law_756 rfl (fun h756 => ?_) (fun h756 => ?_)
  · exact NX _ hR2
  · exact absurd rfl h756
theorem cs_better {i : Nat} (hi : i + 6 ≤ LN) (hL : LN ≤ 3072) (hR : Rel σ) (NX : NXT E b LN xs i) : GW E (ZL E b LN xs) mL 761 (lst4 E b i) [] σ := by
  refine r_aload_n dL_law_761 rfl ?_
  refine r_aload_n dL_law_762 rfl ?_
  refine r_iload_n dL_law_763 rfl ?_
  refine r_iconst (1) dL_law_764 rfl ?_
  refine r_iadd dL_law_765 ?_
  rw [nI_1]
  refine r_xld (by omega) dL_law_766 ?_
  refine r_aload_n dL_law_767 rfl ?_
  refine r_iload_n dL_law_768 rfl ?_
  refine r_iconst (2) dL_law_769 rfl ?_
  refine r_iadd dL_law_770 ?_
  rw [nI_2]
  refine r_xld (by omega) dL_law_771 ?_
  refine r_aload_n dL_law_772 rfl ?_
  refine r_iload_n dL_law_773 rfl ?_
  refine r_iconst (3) dL_law_774 rfl ?_
  refine r_iadd dL_law_775 ?_
  rw [nI_3]
  refine r_xld (by omega) dL_law_776 ?_
  refine cV_i3 fX8_better rcv_0 lkL_93 rfl dL_law_777 (pr_better hR (fun r σ1 tw => ?_))
  refine r_aload_n dL_law_780 rfl ?_
  refine r_aload_n dL_law_781 rfl ?_
  refine r_iload_n dL_law_782 rfl ?_
  refine r_iconst (1) dL_law_783 rfl ?_
  refine r_iadd dL_law_784 ?_
  rw [nI_1]
  refine r_xld (by omega) dL_law_785 ?_
  refine r_aload_n dL_law_786 rfl ?_
  refine r_iload_n dL_law_787 rfl ?_
  refine r_iconst (2) dL_law_788 rfl ?_
  refine r_iadd dL_law_789 ?_
  rw [nI_2]
  refine r_xld (by omega) dL_law_790 ?_
  refine r_aload_n dL_law_791 rfl ?_
  refine r_iload_n dL_law_792 rfl ?_
  refine r_iconst (3) dL_law_793 rfl ?_
  refine r_iadd dL_law_794 ?_
  rw [nI_3]
  refine r_xld (by omega) dL_law_795 ?_
  refine cV_i3 fX9_better rcv_18 lkL_96 rfl dL_law_796 (tw _ (fun σ2 hR2 => ?_))
  refine r_icmp_eq 1188 dL_law_799 rfl (fun h799 => ?_) (fun h799 => ?_)
  · exact NX _ hR2
  · exact absurd rfl h799
theorem cs_fewest {i : Nat} (hi : i + 6 ≤ LN) (hL : LN ≤ 3072) (hR : Rel σ) (NX : NXT E b LN xs i) : GW E (ZL E b LN xs) mL 804 (lst4 E b i) [] σ := by
  refine r_aload_n dL_law_804 rfl ?_
  refine r_aload_n dL_law_805 rfl ?_
  refine r_iload_n dL_law_806 rfl ?_
  refine r_iconst (1) dL_law_807 rfl ?_
  refine r_iadd dL_law_808 ?_
  rw [nI_1]
  refine r_xld (by omega) dL_law_809 ?_
  refine cV_i1 fX8_fewest rcv_0 lkL_97 rfl dL_law_810 (pr_fewest hR (fun r σ1 tw => ?_))
  refine r_aload_n dL_law_813 rfl ?_
  refine r_aload_n dL_law_814 rfl ?_
  refine r_iload_n dL_law_815 rfl ?_
  refine r_iconst (1) dL_law_816 rfl ?_
  refine r_iadd dL_law_817 ?_
  rw [nI_1]
  refine r_xld (by omega) dL_law_818 ?_
  refine cV_i1 fX9_fewest rcv_18 lkL_100 rfl dL_law_819 (tw _ (fun σ2 hR2 => ?_))
  refine r_icmp_eq 1188 dL_law_822 rfl (fun h822 => ?_) (fun h822 => ?_)
  · exact NX _ hR2
  · exact absurd rfl h822
theorem cs_send {i : Nat} (hi : i + 6 ≤ LN) (hL : LN ≤ 3072) (hR : Rel σ) (NX : NXT E b LN xs i) : GW E (ZL E b LN xs) mL 827 (lst4 E b i) [] σ := by
  refine r_aload_n dL_law_827 rfl ?_
  refine r_aload_n dL_law_828 rfl ?_
  refine r_iload_n dL_law_829 rfl ?_
  refine r_iconst (1) dL_law_830 rfl ?_
  refine r_iadd dL_law_831 ?_
  rw [nI_1]
  refine r_xld (by omega) dL_law_832 ?_
  refine cV_i1 fX8_send rcv_0 lkL_101 rfl dL_law_833 (pr_send hR (fun r σ1 tw => ?_))
  refine r_aload_n dL_law_836 rfl ?_
  refine r_aload_n dL_law_837 rfl ?_
  refine r_iload_n dL_law_838 rfl ?_
  refine r_iconst (1) dL_law_839 rfl ?_
  refine r_iadd dL_law_840 ?_
  rw [nI_1]
  refine r_xld (by omega) dL_law_841 ?_
  refine cV_i1 fX9_send rcv_18 lkL_104 rfl dL_law_842 (tw _ (fun σ2 hR2 => ?_))
  refine r_icmp_eq 1188 dL_law_845 rfl (fun h845 => ?_) (fun h845 => ?_)
  · exact NX _ hR2
  · exact absurd rfl h845
theorem cs_holiday {i : Nat} (hi : i + 6 ≤ LN) (hL : LN ≤ 3072) (hR : Rel σ) (NX : NXT E b LN xs i) : GW E (ZL E b LN xs) mL 850 (lst4 E b i) [] σ := by
  refine r_aload_n dL_law_850 rfl ?_
  refine r_aload_n dL_law_851 rfl ?_
  refine r_iload_n dL_law_852 rfl ?_
  refine r_iconst (1) dL_law_853 rfl ?_
  refine r_iadd dL_law_854 ?_
  rw [nI_1]
  refine r_xld (by omega) dL_law_855 ?_
  refine r_aload_n dL_law_856 rfl ?_
  refine r_iload_n dL_law_857 rfl ?_
  refine r_iconst (2) dL_law_858 rfl ?_
  refine r_iadd dL_law_859 ?_
  rw [nI_2]
  refine r_xld (by omega) dL_law_860 ?_
  refine cV_i2 fX8_holiday rcv_0 lkL_105 rfl dL_law_861 (pr_holiday hR (fun r σ1 tw => ?_))
  refine r_aload_n dL_law_864 rfl ?_
  refine r_aload_n dL_law_865 rfl ?_
  refine r_iload_n dL_law_866 rfl ?_
  refine r_iconst (1) dL_law_867 rfl ?_
  refine r_iadd dL_law_868 ?_
  rw [nI_1]
  refine r_xld (by omega) dL_law_869 ?_
  refine r_aload_n dL_law_870 rfl ?_
  refine r_iload_n dL_law_871 rfl ?_
  refine r_iconst (2) dL_law_872 rfl ?_
  refine r_iadd dL_law_873 ?_
  rw [nI_2]
  refine r_xld (by omega) dL_law_874 ?_
  refine cV_i2 fX9_holiday rcv_18 lkL_108 rfl dL_law_875 (tw _ (fun σ2 hR2 => ?_))
  refine r_icmp_eq 1188 dL_law_878 rfl (fun h878 => ?_) (fun h878 => ?_)
  · exact NX _ hR2
  · exact absurd rfl h878
theorem cs_two {i : Nat} (hi : i + 6 ≤ LN) (hL : LN ≤ 3072) (hR : Rel σ) (NX : NXT E b LN xs i) : GW E (ZL E b LN xs) mL 883 (lst4 E b i) [] σ := by
  refine r_aload_n dL_law_883 rfl ?_
  refine r_aload_n dL_law_884 rfl ?_
  refine r_iload_n dL_law_885 rfl ?_
  refine r_iconst (1) dL_law_886 rfl ?_
  refine r_iadd dL_law_887 ?_
  rw [nI_1]
  refine r_xld (by omega) dL_law_888 ?_
  refine r_aload_n dL_law_889 rfl ?_
  refine r_iload_n dL_law_890 rfl ?_
  refine r_iconst (2) dL_law_891 rfl ?_
  refine r_iadd dL_law_892 ?_
  rw [nI_2]
  refine r_xld (by omega) dL_law_893 ?_
  refine r_aload_n dL_law_894 rfl ?_
  refine r_iload_n dL_law_895 rfl ?_
  refine r_iconst (3) dL_law_896 rfl ?_
  refine r_iadd dL_law_897 ?_
  rw [nI_3]
  refine r_xld (by omega) dL_law_898 ?_
  refine cV_i3 fX8_two rcv_0 lkL_109 rfl dL_law_899 (pr_two hR (fun r σ1 tw => ?_))
  refine r_aload_n dL_law_902 rfl ?_
  refine r_aload_n dL_law_903 rfl ?_
  refine r_iload_n dL_law_904 rfl ?_
  refine r_iconst (1) dL_law_905 rfl ?_
  refine r_iadd dL_law_906 ?_
  rw [nI_1]
  refine r_xld (by omega) dL_law_907 ?_
  refine r_aload_n dL_law_908 rfl ?_
  refine r_iload_n dL_law_909 rfl ?_
  refine r_iconst (2) dL_law_910 rfl ?_
  refine r_iadd dL_law_911 ?_
  rw [nI_2]
  refine r_xld (by omega) dL_law_912 ?_
  refine r_aload_n dL_law_913 rfl ?_
  refine r_iload_n dL_law_914 rfl ?_
  refine r_iconst (3) dL_law_915 rfl ?_
  refine r_iadd dL_law_916 ?_
  rw [nI_3]
  refine r_xld (by omega) dL_law_917 ?_
  refine cV_i3 fX9_two rcv_18 lkL_112 rfl dL_law_918 (tw _ (fun σ2 hR2 => ?_))
  refine r_icmp_eq 1188 dL_law_921 rfl (fun h921 => ?_) (fun h921 => ?_)
  · exact NX _ hR2
  · exact absurd rfl h921
theorem cs_fever {i : Nat} (hi : i + 6 ≤ LN) (hL : LN ≤ 3072) (hR : Rel σ) (NX : NXT E b LN xs i) : GW E (ZL E b LN xs) mL 926 (lst4 E b i) [] σ := by
  refine r_aload_n dL_law_926 rfl ?_
  refine r_aload_n dL_law_927 rfl ?_
  refine r_iload_n dL_law_928 rfl ?_
  refine r_iconst (1) dL_law_929 rfl ?_
  refine r_iadd dL_law_930 ?_
  rw [nI_1]
  refine r_xld (by omega) dL_law_931 ?_
  refine r_aload_n dL_law_932 rfl ?_
  refine r_iload_n dL_law_933 rfl ?_
  refine r_iconst (2) dL_law_934 rfl ?_
  refine r_iadd dL_law_935 ?_
  rw [nI_2]
  refine r_xld (by omega) dL_law_936 ?_
  refine r_aload_n dL_law_937 rfl ?_
  refine r_iload_n dL_law_938 rfl ?_
  refine r_iconst (3) dL_law_939 rfl ?_
  refine r_iadd dL_law_940 ?_
  rw [nI_3]
  refine r_xld (by omega) dL_law_941 ?_
  refine r_aload_n dL_law_942 rfl ?_
  refine r_iload_n dL_law_943 rfl ?_
  refine r_iconst (4) dL_law_944 rfl ?_
  refine r_iadd dL_law_945 ?_
  rw [nI_4]
  refine r_xld (by omega) dL_law_946 ?_
  refine r_aload_n dL_law_947 rfl ?_
  refine r_iload_n dL_law_948 rfl ?_
  refine r_iconst (5) dL_law_949 rfl ?_
  refine r_iadd dL_law_950 ?_
  rw [nI_5]
  refine r_xld (by omega) dL_law_951 ?_
  refine cV_l5 fX8_fever rcv_0 lkL_113 rfl dL_law_952 (pr_fever hR (fun r σ1 tw => ?_))
  refine r_aload_n dL_law_955 rfl ?_
  refine r_aload_n dL_law_956 rfl ?_
  refine r_iload_n dL_law_957 rfl ?_
  refine r_iconst (1) dL_law_958 rfl ?_
  refine r_iadd dL_law_959 ?_
  rw [nI_1]
  refine r_xld (by omega) dL_law_960 ?_
  refine r_aload_n dL_law_961 rfl ?_
  refine r_iload_n dL_law_962 rfl ?_
  refine r_iconst (2) dL_law_963 rfl ?_
  refine r_iadd dL_law_964 ?_
  rw [nI_2]
  refine r_xld (by omega) dL_law_965 ?_
  refine r_aload_n dL_law_966 rfl ?_
  refine r_iload_n dL_law_967 rfl ?_
  refine r_iconst (3) dL_law_968 rfl ?_
  refine r_iadd dL_law_969 ?_
  rw [nI_3]
  refine r_xld (by omega) dL_law_970 ?_
  refine r_aload_n dL_law_971 rfl ?_
  refine r_iload_n dL_law_972 rfl ?_
  refine r_iconst (4) dL_law_973 rfl ?_
  refine r_iadd dL_law_974 ?_
  rw [nI_4]
  refine r_xld (by omega) dL_law_975 ?_
  refine r_aload_n dL_law_976 rfl ?_
  refine r_iload_n dL_law_977 rfl ?_
  refine r_iconst (5) dL_law_978 rfl ?_
  refine r_iadd dL_law_979 ?_
  rw [nI_5]
  refine r_xld (by omega) dL_law_980 ?_
  refine cV_l5 fX9_fever rcv_18 lkL_117 rfl dL_law_981 (tw _ (fun σ2 hR2 => ?_))
  refine r_lcmp dL_law_984 ?_
  refine r_if_eq 1188 dL_law_985 rfl (fun h985 => ?_) (fun h985 => ?_)
  · exact NX _ hR2
  · exact absurd (lcmp_rfl _) h985
theorem cs_mean {i : Nat} (hi : i + 6 ≤ LN) (hL : LN ≤ 3072) (hR : Rel σ) (NX : NXT E b LN xs i) : GW E (ZL E b LN xs) mL 990 (lst4 E b i) [] σ := by
  refine r_aload_n dL_law_990 rfl ?_
  refine r_aload_n dL_law_991 rfl ?_
  refine r_iload_n dL_law_992 rfl ?_
  refine r_iconst (1) dL_law_993 rfl ?_
  refine r_iadd dL_law_994 ?_
  rw [nI_1]
  refine r_xld (by omega) dL_law_995 ?_
  refine cV_l1 fX8_mean rcv_0 lkL_118 rfl dL_law_996 (pr_mean hR (fun r σ1 tw => ?_))
  refine r_aload_n dL_law_999 rfl ?_
  refine r_aload_n dL_law_1000 rfl ?_
  refine r_iload_n dL_law_1001 rfl ?_
  refine r_iconst (1) dL_law_1002 rfl ?_
  refine r_iadd dL_law_1003 ?_
  rw [nI_1]
  refine r_xld (by omega) dL_law_1004 ?_
  refine cV_l1 fX9_mean rcv_18 lkL_122 rfl dL_law_1005 (tw _ (fun σ2 hR2 => ?_))
  refine r_lcmp dL_law_1008 ?_
  refine r_if_eq 1188 dL_law_1009 rfl (fun h1009 => ?_) (fun h1009 => ?_)
  · exact NX _ hR2
  · exact absurd (lcmp_rfl _) h1009
theorem cs_whatIs {i : Nat} (hi : i + 6 ≤ LN) (hL : LN ≤ 3072) (hR : Rel σ) (NX : NXT E b LN xs i) : GW E (ZL E b LN xs) mL 1014 (lst4 E b i) [] σ := by
  refine r_aload_n dL_law_1014 rfl ?_
  refine r_aload_n dL_law_1015 rfl ?_
  refine r_iload_n dL_law_1016 rfl ?_
  refine r_iconst (1) dL_law_1017 rfl ?_
  refine r_iadd dL_law_1018 ?_
  rw [nI_1]
  refine r_xld (by omega) dL_law_1019 ?_
  refine r_aload_n dL_law_1020 rfl ?_
  refine r_iload_n dL_law_1021 rfl ?_
  refine r_iconst (2) dL_law_1022 rfl ?_
  refine r_iadd dL_law_1023 ?_
  rw [nI_2]
  refine r_xld (by omega) dL_law_1024 ?_
  refine cV_i2 fX8_whatIs rcv_0 lkL_123 rfl dL_law_1025 (pr_whatIs hR (fun r σ1 tw => ?_))
  refine r_aload_n dL_law_1028 rfl ?_
  refine r_aload_n dL_law_1029 rfl ?_
  refine r_iload_n dL_law_1030 rfl ?_
  refine r_iconst (1) dL_law_1031 rfl ?_
  refine r_iadd dL_law_1032 ?_
  rw [nI_1]
  refine r_xld (by omega) dL_law_1033 ?_
  refine r_aload_n dL_law_1034 rfl ?_
  refine r_iload_n dL_law_1035 rfl ?_
  refine r_iconst (2) dL_law_1036 rfl ?_
  refine r_iadd dL_law_1037 ?_
  rw [nI_2]
  refine r_xld (by omega) dL_law_1038 ?_
  refine cV_i2 fX9_whatIs rcv_18 lkL_126 rfl dL_law_1039 (tw _ (fun σ2 hR2 => ?_))
  refine r_icmp_eq 1188 dL_law_1042 rfl (fun h1042 => ?_) (fun h1042 => ?_)
  · exact NX _ hR2
  · exact absurd rfl h1042
theorem cs_row {i : Nat} (hi : i + 6 ≤ LN) (hL : LN ≤ 3072) (hR : Rel σ) (NX : NXT E b LN xs i) : GW E (ZL E b LN xs) mL 1047 (lst4 E b i) [] σ := by
  refine r_aload_n dL_law_1047 rfl ?_
  refine r_aload_n dL_law_1048 rfl ?_
  refine r_iload_n dL_law_1049 rfl ?_
  refine r_iconst (1) dL_law_1050 rfl ?_
  refine r_iadd dL_law_1051 ?_
  rw [nI_1]
  refine r_xld (by omega) dL_law_1052 ?_
  refine cV_i1 fX8_row rcv_0 lkL_127 rfl dL_law_1053 (pr_row hR (fun r σ1 tw => ?_))
  refine r_aload_n dL_law_1056 rfl ?_
  refine r_aload_n dL_law_1057 rfl ?_
  refine r_iload_n dL_law_1058 rfl ?_
  refine r_iconst (1) dL_law_1059 rfl ?_
  refine r_iadd dL_law_1060 ?_
  rw [nI_1]
  refine r_xld (by omega) dL_law_1061 ?_
  refine cV_i1 fX9_row rcv_18 lkL_130 rfl dL_law_1062 (tw _ (fun σ2 hR2 => ?_))
  refine r_icmp_eq 1188 dL_law_1065 rfl (fun h1065 => ?_) (fun h1065 => ?_)
  · exact NX _ hR2
  · exact absurd rfl h1065
theorem cs_judge {i : Nat} (hi : i + 6 ≤ LN) (hL : LN ≤ 3072) (hR : Rel σ) (NX : NXT E b LN xs i) : GW E (ZL E b LN xs) mL 1070 (lst4 E b i) [] σ := by
  refine r_aload_n dL_law_1070 rfl ?_
  refine cV_i0 fX8_judge rcv_0 lkL_131 rfl dL_law_1071 (pr_judge hR (fun r σ1 tw => ?_))
  refine r_aload_n dL_law_1074 rfl ?_
  refine cV_i0 fX9_judge rcv_18 lkL_134 rfl dL_law_1075 (tw _ (fun σ2 hR2 => ?_))
  refine r_icmp_eq 1188 dL_law_1078 rfl (fun h1078 => ?_) (fun h1078 => ?_)
  · exact NX _ hR2
  · exact absurd rfl h1078
theorem cs_clear {i : Nat} (hi : i + 6 ≤ LN) (hL : LN ≤ 3072) (hR : Rel σ) (NX : NXT E b LN xs i) : GW E (ZL E b LN xs) mL 1083 (lst4 E b i) [] σ := by
  refine r_aload_n dL_law_1083 rfl ?_
  refine cV_i0 fX8_clear rcv_0 lkL_135 rfl dL_law_1084 (pr_clear hR (fun r σ1 tw => ?_))
  refine r_aload_n dL_law_1087 rfl ?_
  refine cV_i0 fX9_clear rcv_18 lkL_138 rfl dL_law_1088 (tw _ (fun σ2 hR2 => ?_))
  refine r_icmp_eq 1188 dL_law_1091 rfl (fun h1091 => ?_) (fun h1091 => ?_)
  · exact NX _ hR2
  · exact absurd rfl h1091
theorem cs_lots {i : Nat} (hi : i + 6 ≤ LN) (hL : LN ≤ 3072) (hR : Rel σ) (NX : NXT E b LN xs i) : GW E (ZL E b LN xs) mL 1096 (lst4 E b i) [] σ := by
  refine r_aload_n dL_law_1096 rfl ?_
  refine r_aload_n dL_law_1097 rfl ?_
  refine r_iload_n dL_law_1098 rfl ?_
  refine r_iconst (1) dL_law_1099 rfl ?_
  refine r_iadd dL_law_1100 ?_
  rw [nI_1]
  refine r_xld (by omega) dL_law_1101 ?_
  refine r_aload_n dL_law_1102 rfl ?_
  refine r_iload_n dL_law_1103 rfl ?_
  refine r_iconst (2) dL_law_1104 rfl ?_
  refine r_iadd dL_law_1105 ?_
  rw [nI_2]
  refine r_xld (by omega) dL_law_1106 ?_
  refine r_aload_n dL_law_1107 rfl ?_
  refine r_iload_n dL_law_1108 rfl ?_
  refine r_iconst (3) dL_law_1109 rfl ?_
  refine r_iadd dL_law_1110 ?_
  rw [nI_3]
  refine r_xld (by omega) dL_law_1111 ?_
  refine cV_i3 fX8_lots rcv_0 lkL_139 rfl dL_law_1112 (pr_lots hR (fun r σ1 tw => ?_))
  refine r_aload_n dL_law_1115 rfl ?_
  refine r_aload_n dL_law_1116 rfl ?_
  refine r_iload_n dL_law_1117 rfl ?_
  refine r_iconst (1) dL_law_1118 rfl ?_
  refine r_iadd dL_law_1119 ?_
  rw [nI_1]
  refine r_xld (by omega) dL_law_1120 ?_
  refine r_aload_n dL_law_1121 rfl ?_
  refine r_iload_n dL_law_1122 rfl ?_
  refine r_iconst (2) dL_law_1123 rfl ?_
  refine r_iadd dL_law_1124 ?_
  rw [nI_2]
  refine r_xld (by omega) dL_law_1125 ?_
  refine r_aload_n dL_law_1126 rfl ?_
  refine r_iload_n dL_law_1127 rfl ?_
  refine r_iconst (3) dL_law_1128 rfl ?_
  refine r_iadd dL_law_1129 ?_
  rw [nI_3]
  refine r_xld (by omega) dL_law_1130 ?_
  refine cV_i3 fX9_lots rcv_18 lkL_142 rfl dL_law_1131 (tw _ (fun σ2 hR2 => ?_))
  refine r_icmp_eq 1188 dL_law_1134 rfl (fun h1134 => ?_) (fun h1134 => ?_)
  · exact NX _ hR2
  · exact absurd rfl h1134
theorem cs_image {i : Nat} (hi : i + 6 ≤ LN) (hL : LN ≤ 3072) (hR : Rel σ) (NX : NXT E b LN xs i) : GW E (ZL E b LN xs) mL 1139 (lst4 E b i) [] σ := by
  refine r_aload_n dL_law_1139 rfl ?_
  refine cV_i0 fX8_image rcv_0 lkL_143 rfl dL_law_1140 (pr_image hR (fun r σ1 tw => ?_))
  refine r_aload_n dL_law_1143 rfl ?_
  refine cV_i0 fX9_image rcv_18 lkL_146 rfl dL_law_1144 (tw _ (fun σ2 hR2 => ?_))
  refine r_icmp_eq 1188 dL_law_1147 rfl (fun h1147 => ?_) (fun h1147 => ?_)
  · exact NX _ hR2
  · exact absurd rfl h1147
theorem cs_on {i : Nat} (hi : i + 6 ≤ LN) (hL : LN ≤ 3072) (hR : Rel σ) (NX : NXT E b LN xs i) : GW E (ZL E b LN xs) mL 1152 (lst4 E b i) [] σ := by
  refine r_aload_n dL_law_1152 rfl ?_
  refine cV_i0 fX8_on rcv_0 lkL_147 rfl dL_law_1153 (pr_on hR (fun r σ1 tw => ?_))
  refine r_aload_n dL_law_1156 rfl ?_
  refine cV_i0 fX9_on rcv_18 lkL_150 rfl dL_law_1157 (tw _ (fun σ2 hR2 => ?_))
  refine r_icmp_eq 1188 dL_law_1160 rfl (fun h1160 => ?_) (fun h1160 => ?_)
  · exact NX _ hR2
  · exact absurd rfl h1160
theorem cs_count {i : Nat} (hi : i + 6 ≤ LN) (hL : LN ≤ 3072) (hR : Rel σ) (NX : NXT E b LN xs i) : GW E (ZL E b LN xs) mL 1165 (lst4 E b i) [] σ := by
  refine r_aload_n dL_law_1165 rfl ?_
  refine r_aload_n dL_law_1166 rfl ?_
  refine r_iload_n dL_law_1167 rfl ?_
  refine r_iconst (1) dL_law_1168 rfl ?_
  refine r_iadd dL_law_1169 ?_
  rw [nI_1]
  refine r_xld (by omega) dL_law_1170 ?_
  refine cV_i1 fX8_count rcv_0 lkL_151 rfl dL_law_1171 (pr_count hR (fun r σ1 tw => ?_))
  refine r_aload_n dL_law_1174 rfl ?_
  refine r_aload_n dL_law_1175 rfl ?_
  refine r_iload_n dL_law_1176 rfl ?_
  refine r_iconst (1) dL_law_1177 rfl ?_
  refine r_iadd dL_law_1178 ?_
  rw [nI_1]
  refine r_xld (by omega) dL_law_1179 ?_
  refine cV_i1 fX9_count rcv_18 lkL_154 rfl dL_law_1180 (tw _ (fun σ2 hR2 => ?_))
  refine r_icmp_eq 1188 dL_law_1183 rfl (fun h1183 => ?_) (fun h1183 => ?_)
  · exact NX _ hR2
  · exact absurd rfl h1183
theorem law_sw {i j : Nat} (hj : j < 64) (hi : i + 6 ≤ LN) (hL : LN ≤ 3072) (hR : Rel σ) (NX : NXT E b LN xs i) : GW E (ZL E b LN xs) mL 33 (lst4 E b i) [.int (nI j)] σ := by
  match j, hj with
  | 0, _ => exact r_tableIn 151 184 dL_law_33 (by decide) (by decide) rfl rfl (cs_letter hi hL hR NX)
  | 1, _ => exact r_tableIn 174 207 dL_law_33 (by decide) (by decide) rfl rfl (cs_works hi hL hR NX)
  | 2, _ => exact r_tableIn 187 220 dL_law_33 (by decide) (by decide) rfl rfl (cs_worker hi hL hR NX)
  | 3, _ => exact r_tableIn 220 253 dL_law_33 (by decide) (by decide) rfl rfl (cs_from hi hL hR NX)
  | 4, _ => exact r_tableIn 253 286 dL_law_33 (by decide) (by decide) rfl rfl (cs_frees hi hL hR NX)
  | 5, _ => exact r_tableIn 286 319 dL_law_33 (by decide) (by decide) rfl rfl (cs_gives hi hL hR NX)
  | 6, _ => exact r_tableIn 329 362 dL_law_33 (by decide) (by decide) rfl rfl (cs_rests hi hL hR NX)
  | 7, _ => exact r_tableIn 362 395 dL_law_33 (by decide) (by decide) rfl rfl (cs_turn hi hL hR NX)
  | 8, _ => exact r_tableIn 405 438 dL_law_33 (by decide) (by decide) rfl rfl (cs_days hi hL hR NX)
  | 9, _ => exact r_tableIn 428 461 dL_law_33 (by decide) (by decide) rfl rfl (cs_workerThen hi hL hR NX)
  | 10, _ => exact r_tableIn 471 504 dL_law_33 (by decide) (by decide) rfl rfl (cs_then hi hL hR NX)
  | 11, _ => exact r_tableIn 504 537 dL_law_33 (by decide) (by decide) rfl rfl (cs_falls hi hL hR NX)
  | 12, _ => exact r_tableIn 527 560 dL_law_33 (by decide) (by decide) rfl rfl (cs_still hi hL hR NX)
  | 13, _ => exact r_tableIn 540 573 dL_law_33 (by decide) (by decide) rfl rfl (cs_strike hi hL hR NX)
  | 14, _ => exact r_tableIn 563 596 dL_law_33 (by decide) (by decide) rfl rfl (cs_meet hi hL hR NX)
  | 15, _ => exact r_tableIn 596 629 dL_law_33 (by decide) (by decide) rfl rfl (cs_never hi hL hR NX)
  | 16, _ => exact r_tableIn 619 652 dL_law_33 (by decide) (by decide) rfl rfl (cs_rest hi hL hR NX)
  | 17, _ => exact r_tableIn 642 675 dL_law_33 (by decide) (by decide) rfl rfl (cs_gift hi hL hR NX)
  | 18, _ => exact r_tableIn 685 718 dL_law_33 (by decide) (by decide) rfl rfl (cs_trade hi hL hR NX)
  | 19, _ => exact r_tableIn 728 761 dL_law_33 (by decide) (by decide) rfl rfl (cs_better hi hL hR NX)
  | 20, _ => exact r_tableIn 771 804 dL_law_33 (by decide) (by decide) rfl rfl (cs_fewest hi hL hR NX)
  | 21, _ => exact r_tableIn 794 827 dL_law_33 (by decide) (by decide) rfl rfl (cs_send hi hL hR NX)
  | 22, _ => exact r_tableIn 817 850 dL_law_33 (by decide) (by decide) rfl rfl (cs_holiday hi hL hR NX)
  | 23, _ => exact r_tableIn 850 883 dL_law_33 (by decide) (by decide) rfl rfl (cs_two hi hL hR NX)
  | 24, _ => exact r_tableIn 893 926 dL_law_33 (by decide) (by decide) rfl rfl (cs_fever hi hL hR NX)
  | 25, _ => exact r_tableIn 957 990 dL_law_33 (by decide) (by decide) rfl rfl (cs_mean hi hL hR NX)
  | 26, _ => exact r_tableIn 981 1014 dL_law_33 (by decide) (by decide) rfl rfl (cs_whatIs hi hL hR NX)
  | 27, _ => exact r_tableIn 1014 1047 dL_law_33 (by decide) (by decide) rfl rfl (cs_row hi hL hR NX)
  | 28, _ => exact r_tableIn 1037 1070 dL_law_33 (by decide) (by decide) rfl rfl (cs_judge hi hL hR NX)
  | 29, _ => exact r_tableIn 1050 1083 dL_law_33 (by decide) (by decide) rfl rfl (cs_clear hi hL hR NX)
  | 30, _ => exact r_tableIn 1063 1096 dL_law_33 (by decide) (by decide) rfl rfl (cs_lots hi hL hR NX)
  | 31, _ => exact r_tableIn 1106 1139 dL_law_33 (by decide) (by decide) rfl rfl (cs_image hi hL hR NX)
  | 32, _ => exact r_tableIn 1119 1152 dL_law_33 (by decide) (by decide) rfl rfl (cs_on hi hL hR NX)
  | 33, _ => exact r_tableIn 1132 1165 dL_law_33 (by decide) (by decide) rfl rfl (cs_count hi hL hR NX)
  | k + 34, hj =>
    refine r_tableOut 1188 dL_law_33 (Or.inr ?_) rfl (NX _ hR)
    show (33 : Int) < (nI (k + 34)).toInt
    rw [nI_toInt (by omega)]
    omega
theorem law_loop (hL : LN ≤ 3072) : ∀ f i, LN < f + i → i ≤ LN + 6 → ∀ σ, Rel σ → GW E (ZL E b LN xs) mL 18 (lst4 E b i) [] σ := by
  intro f
  induction f with
  | zero =>
    intro i h1 h2 σ hR
    have EX : GW E (ZL E b LN xs) mL 1194 (lst4 E b i) [] σ := by
      refine r_iconst (1) dL_law_1194 rfl ?_
      exact r_lret dL_law_1195
    refine r_iload_n dL_law_18 rfl ?_
    refine r_aload_n dL_law_19 rfl ?_
    refine r_xlen dL_law_20 ?_
    refine r_bipush (6) dL_law_21 rfl ?_
    refine r_isub dL_law_23 ?_
    refine r_icmp_gt 1194 dL_law_24 rfl (fun h24 => ?_) (fun h24 => ?_)
    · exact EX
    · exfalso
      by_cases h6 : 6 ≤ LN
      · rw [show nI LN - 6 = nI (LN - 6) from pk_sub (b := 6) h6] at h24
        exact h24 ((nI_ltI (by omega) (by omega)).mpr (by omega))
      · exact h24 (Int32.lt_of_lt_of_le (pk_sneg (b := 6) (by omega) (by omega)) (Int32.not_lt.mp (nI_pos (n := i) (by omega))))
  | succ f ih =>
    intro i h1 h2 σ hR
    have EX : GW E (ZL E b LN xs) mL 1194 (lst4 E b i) [] σ := by
      refine r_iconst (1) dL_law_1194 rfl ?_
      exact r_lret dL_law_1195
    refine r_iload_n dL_law_18 rfl ?_
    refine r_aload_n dL_law_19 rfl ?_
    refine r_xlen dL_law_20 ?_
    refine r_bipush (6) dL_law_21 rfl ?_
    refine r_isub dL_law_23 ?_
    refine r_icmp_gt 1194 dL_law_24 rfl (fun h24 => ?_) (fun h24 => ?_)
    · exact EX
    · have hi : i + 6 ≤ LN := by
        by_cases h6 : 6 ≤ LN
        · rw [show nI LN - 6 = nI (LN - 6) from pk_sub (b := 6) h6] at h24
          have := (nI_leI (by omega) (by omega)).mp (Int32.not_lt.mp h24)
          omega
        · exact absurd (Int32.lt_of_lt_of_le (pk_sneg (b := 6) (by omega) (by omega)) (Int32.not_lt.mp (nI_pos (n := i) (by omega)))) h24
      obtain ⟨j, hj, ej⟩ := pk_andE (xs i) (m := 63) 6 (by decide)
      refine r_aload_n dL_law_27 rfl ?_
      refine r_iload_n dL_law_28 rfl ?_
      refine r_xld (by omega) dL_law_29 ?_
      refine r_bipush (63) dL_law_30 rfl ?_
      refine r_iand dL_law_32 ?_
      rw [ej]
      refine law_sw hj hi hL hR (fun σ2 hR2 => ?_)
      refine r_iinc_3 dL_law_1188 rfl ?_
      rw [show nI i + Int32.ofInt 6 = nI (i + 6) from nI_6 i]
      refine r_goto 18 dL_law_1191 rfl ?_
      exact ih (i + 6) (by omega) (by omega) σ2 hR2
end LAW
