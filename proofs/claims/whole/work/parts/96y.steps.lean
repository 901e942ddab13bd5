theorem st_0 {x : Ctx} {n : Nat} {i : Int32} {σ : Mem} {Len : Nat} {xs : Nat → Int32} (C : Cx x RL cL_law 10) (Sc : Scr x Len xs) (hL : Lw x n) (hin : ∀ c : Nat, c ≤ 4 → vp_in (i + Int32.ofNat c) Len) (hR : Rel σ) (hc : ∀ υ n', n' ≤ n + 4 → Rel υ → Ws x n' 2348 (LL i) [] υ) : Ws x n 216 (LL i) [] σ := by
  show Ws x n 216 [(5, .int i), (4, .ref 234), (3, .ref 233), (2, .ref 209), (1, .ref 0), (0, .ref 1003)] [] σ
  refine r_aload_n C 217 (j := 4) dL_law_216 rfl rfl ?_
  refine r_scr (j0 := 5) (j5 := 0) C Sc 223 1 dL_law_217 dL_law_218 dL_law_220 dL_law_221 dL_law_222 rfl rfl rfl rfl (hin 1 (by decide)) ?_
  refine r_scr (j0 := 5) (j5 := 0) C Sc 229 2 dL_law_223 dL_law_224 dL_law_226 dL_law_227 dL_law_228 rfl rfl rfl rfl (hin 2 (by decide)) ?_
  refine r_aload_n C 230 (j := 2) dL_law_229 rfl rfl ?_
  refine r_lW (b := 0) (as := [.ref 0, .int (xs (i + 1).toNatClampNeg), .int (xs (i + 2).toNatClampNeg), .ref 233]) (S := []) C 233 (cw_setSetting _ _ σ (KwI (sp_X5_setSetting (xs (i + 1).toNatClampNeg) (xs (i + 2).toNatClampNeg))) (q_setSetting hR (fun r τ hA => KwI.a hA) (fun τ hA => .inl ⟨rfl, KwI.b (by decide) hA⟩) (fun τ hA => .inr ⟨rfl, KwI.b (by decide) hA⟩))) dL_law_230 rfl wq_593 wq_592 wq_594 wd_89 yd_L_setSetting ⟨Nat.le_trans (Nat.le_of_ble_eq_true rfl) hL.1, Nat.le_trans (Nat.le_of_ble_eq_true rfl) hL.2.1⟩ (Nat.le_of_ble_eq_true rfl) ⟨by have := hL.2.2.1; omega, by have := hL.2.2.2; omega⟩ (fun k τ2 h => ?_)
  obtain ⟨r, τ, hF, hA, hO⟩ := h
  refine r_istore C 235 [(6, .int k), (5, .int i), (4, .ref 234), (3, .ref 233), (2, .ref 209), (1, .ref 0), (0, .ref 1003)] dL_law_233 rfl (by decide) rfl ?_
  refine r_aload_n C 236 (j := 4) dL_law_235 rfl rfl ?_
  refine r_scr (j0 := 6) (j5 := 1) C Sc 242 1 dL_law_236 dL_law_237 dL_law_239 dL_law_240 dL_law_241 rfl rfl rfl rfl (hin 1 (by decide)) ?_
  refine r_scr (j0 := 6) (j5 := 1) C Sc 248 2 dL_law_242 dL_law_243 dL_law_245 dL_law_246 dL_law_247 rfl rfl rfl rfl (hin 2 (by decide)) ?_
  refine r_lVI (as := [.int (xs (i + 1).toNatClampNeg), .int (xs (i + 2).toNatClampNeg)]) (S := []) C 251 (ct_X5_setSetting _ _ τ2 (fun b υ => υ.1 209 0 = k ∧ (k = 0 → b = r) ∧ RU τ2 υ) (fun _ _ => False) (hA τ2 hF _ _ (fun b υ e1 e2 e3 => ⟨e1, e2, e3⟩))) dL_law_248 rfl cl7 kd_209 wq_1318 wq_1317 rfl wq_1316 wq_1319 wd_95 yd_X5_setSetting ⟨Nat.le_trans (Nat.le_of_ble_eq_true rfl) hL.1, Nat.le_trans (Nat.le_of_ble_eq_true rfl) hL.2.1⟩ (Nat.le_of_ble_eq_true rfl) ⟨by have := hL.2.2.1; omega, by have := hL.2.2.2; omega⟩ (fun b υ h => ?_)
  obtain ⟨hk, hb, hU⟩ := h
  refine r_istore C 253 [(7, .int b), (6, .int k), (5, .int i), (4, .ref 234), (3, .ref 233), (2, .ref 209), (1, .ref 0), (0, .ref 1003)] dL_law_251 rfl (by decide) rfl ?_
  refine r_aload_n C 254 (j := 5) dL_law_253 rfl rfl ?_
  refine r_lVI (as := []) (S := []) C 257 (ct_X5_thrown υ (fun t ω => t = υ.1 209 0 ∧ ω = υ) (fun _ _ => False) ⟨rfl, rfl⟩) dL_law_254 rfl cl7 kd_209 wq_1314 wq_1313 rfl wq_1312 wq_1315 wd_95 yd_X5_thrown ⟨Nat.le_trans (Nat.le_of_ble_eq_true rfl) hL.1, Nat.le_trans (Nat.le_of_ble_eq_true rfl) hL.2.1⟩ (Nat.le_of_ble_eq_true rfl) ⟨by have := hL.2.2.1; omega, by have := hL.2.2.2; omega⟩ (fun t ω h => ?_)
  obtain ⟨rfl, rfl⟩ := h
  refine r_iload C 259 (j := 1) dL_law_257 rfl rfl ?_
  refine r_icmp_eq C 264 262 dL_law_259 (by decide) rfl (fun _ => ?_) (fun z => absurd hk z)
  refine r_iload C 266 (j := 1) dL_law_264 rfl rfl ?_
  refine r_if_ne C 281 269 dL_law_266 (by decide) rfl (fun _ => r_goto C 2348 dL_law_281 (by decide) (Ws_sub (L' := LL i) (fun q hq => List.mem_cons_of_mem _ (List.mem_cons_of_mem _ (hq))) (hc _ _ (by omega) hU.1))) (fun z => ?_)
  have hk0 : k = 0 := z
  refine r_aload_n C 270 (j := 4) dL_law_269 rfl rfl ?_
  refine r_iconst C 271 (v := 0) dL_law_270 rfl (by decide) ?_
  refine r_lald C 272 dL_law_271 rfl kd_233 (by unfold vp_in; decide) ?_
  refine r_iload C 274 (j := 0) dL_law_272 rfl rfl ?_
  refine r_i2l C 275 dL_law_274 rfl ?_
  exact r_lcmp_eq C 276 281 279 dL_law_275 rfl dL_law_276 (by decide) rfl (fun _ => r_goto C 2348 dL_law_281 (by decide) (Ws_sub (L' := LL i) (fun q hq => List.mem_cons_of_mem _ (List.mem_cons_of_mem _ (hq))) (hc _ _ (by omega) hU.1))) (fun w => absurd (by rw [show (0 : Int32).toNatClampNeg = 0 from rfl, hU.2, hO hk0, hb hk0]) w)
theorem st_1 {x : Ctx} {n : Nat} {i : Int32} {σ : Mem} {Len : Nat} {xs : Nat → Int32} (C : Cx x RL cL_law 10) (Sc : Scr x Len xs) (hL : Lw x n) (hin : ∀ c : Nat, c ≤ 4 → vp_in (i + Int32.ofNat c) Len) (hR : Rel σ) (hc : ∀ υ n', n' ≤ n + 4 → Rel υ → Ws x n' 2348 (LL i) [] υ) : Ws x n 284 (LL i) [] σ := by
  show Ws x n 284 [(5, .int i), (4, .ref 234), (3, .ref 233), (2, .ref 209), (1, .ref 0), (0, .ref 1003)] [] σ
  refine r_aload_n C 285 (j := 4) dL_law_284 rfl rfl ?_
  refine r_scr (j0 := 5) (j5 := 0) C Sc 291 1 dL_law_285 dL_law_286 dL_law_288 dL_law_289 dL_law_290 rfl rfl rfl rfl (hin 1 (by decide)) ?_
  refine r_aload_n C 292 (j := 2) dL_law_291 rfl rfl ?_
  refine r_lW (b := 0) (as := [.ref 0, .int (xs (i + 1).toNatClampNeg), .ref 233]) (S := []) C 295 (cw_setting _ σ (KwI (sp_X5_setting (xs (i + 1).toNatClampNeg))) (q_setting hR (fun r τ hA => KwI.a hA) (fun τ hA => ⟨rfl, KwI.b (by decide) hA⟩))) dL_law_292 rfl wq_726 wq_725 wq_727 wd_89 yd_L_setting ⟨Nat.le_trans (Nat.le_of_ble_eq_true rfl) hL.1, Nat.le_trans (Nat.le_of_ble_eq_true rfl) hL.2.1⟩ (Nat.le_of_ble_eq_true rfl) ⟨by have := hL.2.2.1; omega, by have := hL.2.2.2; omega⟩ (fun k τ2 h => ?_)
  obtain ⟨r, τ, hF, hA, hO⟩ := h
  refine r_istore C 297 [(6, .int k), (5, .int i), (4, .ref 234), (3, .ref 233), (2, .ref 209), (1, .ref 0), (0, .ref 1003)] dL_law_295 rfl (by decide) rfl ?_
  refine r_aload_n C 298 (j := 4) dL_law_297 rfl rfl ?_
  refine r_scr (j0 := 6) (j5 := 1) C Sc 304 1 dL_law_298 dL_law_299 dL_law_301 dL_law_302 dL_law_303 rfl rfl rfl rfl (hin 1 (by decide)) ?_
  refine r_lVI (as := [.int (xs (i + 1).toNatClampNeg)]) (S := []) C 307 (ct_X5_setting _ τ2 (fun b υ => υ.1 209 0 = k ∧ (k = 0 → b = r) ∧ RU τ2 υ) (fun _ _ => False) (hA τ2 hF _ _ (fun b υ e1 e2 e3 => ⟨e1, e2, e3⟩))) dL_law_304 rfl cl7 kd_209 wq_1345 wq_1344 rfl wq_1343 wq_1346 wd_95 yd_X5_setting ⟨Nat.le_trans (Nat.le_of_ble_eq_true rfl) hL.1, Nat.le_trans (Nat.le_of_ble_eq_true rfl) hL.2.1⟩ (Nat.le_of_ble_eq_true rfl) ⟨by have := hL.2.2.1; omega, by have := hL.2.2.2; omega⟩ (fun b υ h => ?_)
  obtain ⟨hk, hb, hU⟩ := h
  refine r_istore C 309 [(7, .int b), (6, .int k), (5, .int i), (4, .ref 234), (3, .ref 233), (2, .ref 209), (1, .ref 0), (0, .ref 1003)] dL_law_307 rfl (by decide) rfl ?_
  refine r_aload_n C 310 (j := 5) dL_law_309 rfl rfl ?_
  refine r_lVI (as := []) (S := []) C 313 (ct_X5_thrown υ (fun t ω => t = υ.1 209 0 ∧ ω = υ) (fun _ _ => False) ⟨rfl, rfl⟩) dL_law_310 rfl cl7 kd_209 wq_1314 wq_1313 rfl wq_1312 wq_1315 wd_95 yd_X5_thrown ⟨Nat.le_trans (Nat.le_of_ble_eq_true rfl) hL.1, Nat.le_trans (Nat.le_of_ble_eq_true rfl) hL.2.1⟩ (Nat.le_of_ble_eq_true rfl) ⟨by have := hL.2.2.1; omega, by have := hL.2.2.2; omega⟩ (fun t ω h => ?_)
  obtain ⟨rfl, rfl⟩ := h
  refine r_iload C 315 (j := 1) dL_law_313 rfl rfl ?_
  refine r_icmp_eq C 320 318 dL_law_315 (by decide) rfl (fun _ => ?_) (fun z => absurd hk z)
  refine r_iload C 322 (j := 1) dL_law_320 rfl rfl ?_
  refine r_if_ne C 337 325 dL_law_322 (by decide) rfl (fun _ => r_goto C 2348 dL_law_337 (by decide) (Ws_sub (L' := LL i) (fun q hq => List.mem_cons_of_mem _ (List.mem_cons_of_mem _ (hq))) (hc _ _ (by omega) hU.1))) (fun z => ?_)
  have hk0 : k = 0 := z
  refine r_aload_n C 326 (j := 4) dL_law_325 rfl rfl ?_
  refine r_iconst C 327 (v := 0) dL_law_326 rfl (by decide) ?_
  refine r_lald C 328 dL_law_327 rfl kd_233 (by unfold vp_in; decide) ?_
  refine r_iload C 330 (j := 0) dL_law_328 rfl rfl ?_
  refine r_i2l C 331 dL_law_330 rfl ?_
  exact r_lcmp_eq C 332 337 335 dL_law_331 rfl dL_law_332 (by decide) rfl (fun _ => r_goto C 2348 dL_law_337 (by decide) (Ws_sub (L' := LL i) (fun q hq => List.mem_cons_of_mem _ (List.mem_cons_of_mem _ (hq))) (hc _ _ (by omega) hU.1))) (fun w => absurd (by rw [show (0 : Int32).toNatClampNeg = 0 from rfl, hU.2, hO hk0, hb hk0]) w)
theorem st_2 {x : Ctx} {n : Nat} {i : Int32} {σ : Mem} {Len : Nat} {xs : Nat → Int32} (C : Cx x RL cL_law 10) (Sc : Scr x Len xs) (hL : Lw x n) (hin : ∀ c : Nat, c ≤ 4 → vp_in (i + Int32.ofNat c) Len) (hR : Rel σ) (hc : ∀ υ n', n' ≤ n + 4 → Rel υ → Ws x n' 2348 (LL i) [] υ) : Ws x n 340 (LL i) [] σ := by
  show Ws x n 340 [(5, .int i), (4, .ref 234), (3, .ref 233), (2, .ref 209), (1, .ref 0), (0, .ref 1003)] [] σ
  refine r_aload_n C 341 (j := 4) dL_law_340 rfl rfl ?_
  refine r_scr (j0 := 5) (j5 := 0) C Sc 347 1 dL_law_341 dL_law_342 dL_law_344 dL_law_345 dL_law_346 rfl rfl rfl rfl (hin 1 (by decide)) ?_
  refine r_scr (j0 := 5) (j5 := 0) C Sc 353 2 dL_law_347 dL_law_348 dL_law_350 dL_law_351 dL_law_352 rfl rfl rfl rfl (hin 2 (by decide)) ?_
  refine r_scr (j0 := 5) (j5 := 0) C Sc 359 3 dL_law_353 dL_law_354 dL_law_356 dL_law_357 dL_law_358 rfl rfl rfl rfl (hin 3 (by decide)) ?_
  refine r_scr (j0 := 5) (j5 := 0) C Sc 365 4 dL_law_359 dL_law_360 dL_law_362 dL_law_363 dL_law_364 rfl rfl rfl rfl (hin 4 (by decide)) ?_
  refine r_aload_n C 366 (j := 2) dL_law_365 rfl rfl ?_
  refine r_lW (b := 0) (as := [.ref 0, .int (xs (i + 1).toNatClampNeg), .int (xs (i + 2).toNatClampNeg), .int (xs (i + 3).toNatClampNeg), .int (xs (i + 4).toNatClampNeg), .ref 233]) (S := []) C 369 (cw_addPipe _ _ _ _ σ (KwI (sp_X5_addPipe (xs (i + 1).toNatClampNeg) (xs (i + 2).toNatClampNeg) (xs (i + 3).toNatClampNeg) (xs (i + 4).toNatClampNeg))) (q_addPipe hR (fun r τ hA => KwI.a hA) (fun τ hA => ⟨rfl, KwI.b (by decide) hA⟩))) dL_law_366 rfl wq_733 wq_732 wq_734 wd_89 yd_L_addPipe ⟨Nat.le_trans (Nat.le_of_ble_eq_true rfl) hL.1, Nat.le_trans (Nat.le_of_ble_eq_true rfl) hL.2.1⟩ (Nat.le_of_ble_eq_true rfl) ⟨by have := hL.2.2.1; omega, by have := hL.2.2.2; omega⟩ (fun k τ2 h => ?_)
  obtain ⟨r, τ, hF, hA, hO⟩ := h
  refine r_istore C 371 [(6, .int k), (5, .int i), (4, .ref 234), (3, .ref 233), (2, .ref 209), (1, .ref 0), (0, .ref 1003)] dL_law_369 rfl (by decide) rfl ?_
  refine r_aload_n C 372 (j := 4) dL_law_371 rfl rfl ?_
  refine r_scr (j0 := 6) (j5 := 1) C Sc 378 1 dL_law_372 dL_law_373 dL_law_375 dL_law_376 dL_law_377 rfl rfl rfl rfl (hin 1 (by decide)) ?_
  refine r_scr (j0 := 6) (j5 := 1) C Sc 384 2 dL_law_378 dL_law_379 dL_law_381 dL_law_382 dL_law_383 rfl rfl rfl rfl (hin 2 (by decide)) ?_
  refine r_scr (j0 := 6) (j5 := 1) C Sc 390 3 dL_law_384 dL_law_385 dL_law_387 dL_law_388 dL_law_389 rfl rfl rfl rfl (hin 3 (by decide)) ?_
  refine r_scr (j0 := 6) (j5 := 1) C Sc 396 4 dL_law_390 dL_law_391 dL_law_393 dL_law_394 dL_law_395 rfl rfl rfl rfl (hin 4 (by decide)) ?_
  refine r_lVI (as := [.int (xs (i + 1).toNatClampNeg), .int (xs (i + 2).toNatClampNeg), .int (xs (i + 3).toNatClampNeg), .int (xs (i + 4).toNatClampNeg)]) (S := []) C 399 (ct_X5_addPipe _ _ _ _ τ2 (fun b υ => υ.1 209 0 = k ∧ (k = 0 → b = r) ∧ RU τ2 υ) (fun _ _ => False) (hA τ2 hF _ _ (fun b υ e1 e2 e3 => ⟨e1, e2, e3⟩))) dL_law_396 rfl cl7 kd_209 wq_1349 wq_1348 rfl wq_1347 wq_1350 wd_95 yd_X5_addPipe ⟨Nat.le_trans (Nat.le_of_ble_eq_true rfl) hL.1, Nat.le_trans (Nat.le_of_ble_eq_true rfl) hL.2.1⟩ (Nat.le_of_ble_eq_true rfl) ⟨by have := hL.2.2.1; omega, by have := hL.2.2.2; omega⟩ (fun b υ h => ?_)
  obtain ⟨hk, hb, hU⟩ := h
  refine r_istore C 401 [(7, .int b), (6, .int k), (5, .int i), (4, .ref 234), (3, .ref 233), (2, .ref 209), (1, .ref 0), (0, .ref 1003)] dL_law_399 rfl (by decide) rfl ?_
  refine r_aload_n C 402 (j := 5) dL_law_401 rfl rfl ?_
  refine r_lVI (as := []) (S := []) C 405 (ct_X5_thrown υ (fun t ω => t = υ.1 209 0 ∧ ω = υ) (fun _ _ => False) ⟨rfl, rfl⟩) dL_law_402 rfl cl7 kd_209 wq_1314 wq_1313 rfl wq_1312 wq_1315 wd_95 yd_X5_thrown ⟨Nat.le_trans (Nat.le_of_ble_eq_true rfl) hL.1, Nat.le_trans (Nat.le_of_ble_eq_true rfl) hL.2.1⟩ (Nat.le_of_ble_eq_true rfl) ⟨by have := hL.2.2.1; omega, by have := hL.2.2.2; omega⟩ (fun t ω h => ?_)
  obtain ⟨rfl, rfl⟩ := h
  refine r_iload C 407 (j := 1) dL_law_405 rfl rfl ?_
  refine r_icmp_eq C 412 410 dL_law_407 (by decide) rfl (fun _ => ?_) (fun z => absurd hk z)
  refine r_iload C 414 (j := 1) dL_law_412 rfl rfl ?_
  refine r_if_ne C 429 417 dL_law_414 (by decide) rfl (fun _ => r_goto C 2348 dL_law_429 (by decide) (Ws_sub (L' := LL i) (fun q hq => List.mem_cons_of_mem _ (List.mem_cons_of_mem _ (hq))) (hc _ _ (by omega) hU.1))) (fun z => ?_)
  have hk0 : k = 0 := z
  refine r_aload_n C 418 (j := 4) dL_law_417 rfl rfl ?_
  refine r_iconst C 419 (v := 0) dL_law_418 rfl (by decide) ?_
  refine r_lald C 420 dL_law_419 rfl kd_233 (by unfold vp_in; decide) ?_
  refine r_iload C 422 (j := 0) dL_law_420 rfl rfl ?_
  refine r_i2l C 423 dL_law_422 rfl ?_
  exact r_lcmp_eq C 424 429 427 dL_law_423 rfl dL_law_424 (by decide) rfl (fun _ => r_goto C 2348 dL_law_429 (by decide) (Ws_sub (L' := LL i) (fun q hq => List.mem_cons_of_mem _ (List.mem_cons_of_mem _ (hq))) (hc _ _ (by omega) hU.1))) (fun w => absurd (by rw [show (0 : Int32).toNatClampNeg = 0 from rfl, hU.2, hO hk0, hb hk0]) w)
theorem st_3 {x : Ctx} {n : Nat} {i : Int32} {σ : Mem} {Len : Nat} {xs : Nat → Int32} (C : Cx x RL cL_law 10) (Sc : Scr x Len xs) (hL : Lw x n) (hin : ∀ c : Nat, c ≤ 4 → vp_in (i + Int32.ofNat c) Len) (hR : Rel σ) (hc : ∀ υ n', n' ≤ n + 4 → Rel υ → Ws x n' 2348 (LL i) [] υ) : Ws x n 432 (LL i) [] σ := by
  show Ws x n 432 [(5, .int i), (4, .ref 234), (3, .ref 233), (2, .ref 209), (1, .ref 0), (0, .ref 1003)] [] σ
  refine r_aload_n C 433 (j := 4) dL_law_432 rfl rfl ?_
  refine r_scr (j0 := 5) (j5 := 0) C Sc 439 1 dL_law_433 dL_law_434 dL_law_436 dL_law_437 dL_law_438 rfl rfl rfl rfl (hin 1 (by decide)) ?_
  refine r_aload_n C 440 (j := 2) dL_law_439 rfl rfl ?_
  refine r_lW (b := 0) (as := [.ref 0, .int (xs (i + 1).toNatClampNeg), .ref 233]) (S := []) C 443 (cw_removePipe _ σ (KwI (sp_X5_removePipe (xs (i + 1).toNatClampNeg))) (q_removePipe hR (fun r τ hA => KwI.a hA) (fun τ hA => ⟨rfl, KwI.b (by decide) hA⟩))) dL_law_440 rfl wq_789 wq_788 wq_790 wd_89 yd_L_removePipe ⟨Nat.le_trans (Nat.le_of_ble_eq_true rfl) hL.1, Nat.le_trans (Nat.le_of_ble_eq_true rfl) hL.2.1⟩ (Nat.le_of_ble_eq_true rfl) ⟨by have := hL.2.2.1; omega, by have := hL.2.2.2; omega⟩ (fun k τ2 h => ?_)
  obtain ⟨r, τ, hF, hA, hO⟩ := h
  refine r_istore C 445 [(6, .int k), (5, .int i), (4, .ref 234), (3, .ref 233), (2, .ref 209), (1, .ref 0), (0, .ref 1003)] dL_law_443 rfl (by decide) rfl ?_
  refine r_aload_n C 446 (j := 4) dL_law_445 rfl rfl ?_
  refine r_scr (j0 := 6) (j5 := 1) C Sc 452 1 dL_law_446 dL_law_447 dL_law_449 dL_law_450 dL_law_451 rfl rfl rfl rfl (hin 1 (by decide)) ?_
  refine r_lVI (as := [.int (xs (i + 1).toNatClampNeg)]) (S := []) C 455 (ct_X5_removePipe _ τ2 (fun b υ => υ.1 209 0 = k ∧ (k = 0 → b = r) ∧ RU τ2 υ) (fun _ _ => False) (hA τ2 hF _ _ (fun b υ e1 e2 e3 => ⟨e1, e2, e3⟩))) dL_law_452 rfl cl7 kd_209 wq_1380 wq_1379 rfl wq_1378 wq_1381 wd_95 yd_X5_removePipe ⟨Nat.le_trans (Nat.le_of_ble_eq_true rfl) hL.1, Nat.le_trans (Nat.le_of_ble_eq_true rfl) hL.2.1⟩ (Nat.le_of_ble_eq_true rfl) ⟨by have := hL.2.2.1; omega, by have := hL.2.2.2; omega⟩ (fun b υ h => ?_)
  obtain ⟨hk, hb, hU⟩ := h
  refine r_istore C 457 [(7, .int b), (6, .int k), (5, .int i), (4, .ref 234), (3, .ref 233), (2, .ref 209), (1, .ref 0), (0, .ref 1003)] dL_law_455 rfl (by decide) rfl ?_
  refine r_aload_n C 458 (j := 5) dL_law_457 rfl rfl ?_
  refine r_lVI (as := []) (S := []) C 461 (ct_X5_thrown υ (fun t ω => t = υ.1 209 0 ∧ ω = υ) (fun _ _ => False) ⟨rfl, rfl⟩) dL_law_458 rfl cl7 kd_209 wq_1314 wq_1313 rfl wq_1312 wq_1315 wd_95 yd_X5_thrown ⟨Nat.le_trans (Nat.le_of_ble_eq_true rfl) hL.1, Nat.le_trans (Nat.le_of_ble_eq_true rfl) hL.2.1⟩ (Nat.le_of_ble_eq_true rfl) ⟨by have := hL.2.2.1; omega, by have := hL.2.2.2; omega⟩ (fun t ω h => ?_)
  obtain ⟨rfl, rfl⟩ := h
  refine r_iload C 463 (j := 1) dL_law_461 rfl rfl ?_
  refine r_icmp_eq C 468 466 dL_law_463 (by decide) rfl (fun _ => ?_) (fun z => absurd hk z)
  refine r_iload C 470 (j := 1) dL_law_468 rfl rfl ?_
  refine r_if_ne C 485 473 dL_law_470 (by decide) rfl (fun _ => r_goto C 2348 dL_law_485 (by decide) (Ws_sub (L' := LL i) (fun q hq => List.mem_cons_of_mem _ (List.mem_cons_of_mem _ (hq))) (hc _ _ (by omega) hU.1))) (fun z => ?_)
  have hk0 : k = 0 := z
  refine r_aload_n C 474 (j := 4) dL_law_473 rfl rfl ?_
  refine r_iconst C 475 (v := 0) dL_law_474 rfl (by decide) ?_
  refine r_lald C 476 dL_law_475 rfl kd_233 (by unfold vp_in; decide) ?_
  refine r_iload C 478 (j := 0) dL_law_476 rfl rfl ?_
  refine r_i2l C 479 dL_law_478 rfl ?_
  exact r_lcmp_eq C 480 485 483 dL_law_479 rfl dL_law_480 (by decide) rfl (fun _ => r_goto C 2348 dL_law_485 (by decide) (Ws_sub (L' := LL i) (fun q hq => List.mem_cons_of_mem _ (List.mem_cons_of_mem _ (hq))) (hc _ _ (by omega) hU.1))) (fun w => absurd (by rw [show (0 : Int32).toNatClampNeg = 0 from rfl, hU.2, hO hk0, hb hk0]) w)
theorem st_4 {x : Ctx} {n : Nat} {i : Int32} {σ : Mem} {Len : Nat} {xs : Nat → Int32} (C : Cx x RL cL_law 10) (Sc : Scr x Len xs) (hL : Lw x n) (hin : ∀ c : Nat, c ≤ 4 → vp_in (i + Int32.ofNat c) Len) (hR : Rel σ) (hc : ∀ υ n', n' ≤ n + 4 → Rel υ → Ws x n' 2348 (LL i) [] υ) : Ws x n 488 (LL i) [] σ := by
  show Ws x n 488 [(5, .int i), (4, .ref 234), (3, .ref 233), (2, .ref 209), (1, .ref 0), (0, .ref 1003)] [] σ
  refine r_aload_n C 489 (j := 4) dL_law_488 rfl rfl ?_
  refine r_scr (j0 := 5) (j5 := 0) C Sc 495 1 dL_law_489 dL_law_490 dL_law_492 dL_law_493 dL_law_494 rfl rfl rfl rfl (hin 1 (by decide)) ?_
  refine r_scr (j0 := 5) (j5 := 0) C Sc 501 2 dL_law_495 dL_law_496 dL_law_498 dL_law_499 dL_law_500 rfl rfl rfl rfl (hin 2 (by decide)) ?_
  refine r_scr (j0 := 5) (j5 := 0) C Sc 507 3 dL_law_501 dL_law_502 dL_law_504 dL_law_505 dL_law_506 rfl rfl rfl rfl (hin 3 (by decide)) ?_
  refine r_scr (j0 := 5) (j5 := 0) C Sc 513 4 dL_law_507 dL_law_508 dL_law_510 dL_law_511 dL_law_512 rfl rfl rfl rfl (hin 4 (by decide)) ?_
  refine r_aload_n C 514 (j := 2) dL_law_513 rfl rfl ?_
  refine r_lW (b := 0) (as := [.ref 0, .int (xs (i + 1).toNatClampNeg), .int (xs (i + 2).toNatClampNeg), .int (xs (i + 3).toNatClampNeg), .int (xs (i + 4).toNatClampNeg), .ref 233]) (S := []) C 517 (cw_addStation _ _ _ _ σ (KwI (sp_X5_addStation (xs (i + 1).toNatClampNeg) (xs (i + 2).toNatClampNeg) (xs (i + 3).toNatClampNeg) (xs (i + 4).toNatClampNeg))) (q_addStation hR (fun r τ hA => KwI.a hA) (fun τ hA => ⟨rfl, KwI.b (by decide) hA⟩))) dL_law_514 rfl wq_805 wq_804 wq_806 wd_89 yd_L_addStation ⟨Nat.le_trans (Nat.le_of_ble_eq_true rfl) hL.1, Nat.le_trans (Nat.le_of_ble_eq_true rfl) hL.2.1⟩ (Nat.le_of_ble_eq_true rfl) ⟨by have := hL.2.2.1; omega, by have := hL.2.2.2; omega⟩ (fun k τ2 h => ?_)
  obtain ⟨r, τ, hF, hA, hO⟩ := h
  refine r_istore C 519 [(6, .int k), (5, .int i), (4, .ref 234), (3, .ref 233), (2, .ref 209), (1, .ref 0), (0, .ref 1003)] dL_law_517 rfl (by decide) rfl ?_
  refine r_aload_n C 520 (j := 4) dL_law_519 rfl rfl ?_
  refine r_scr (j0 := 6) (j5 := 1) C Sc 526 1 dL_law_520 dL_law_521 dL_law_523 dL_law_524 dL_law_525 rfl rfl rfl rfl (hin 1 (by decide)) ?_
  refine r_scr (j0 := 6) (j5 := 1) C Sc 532 2 dL_law_526 dL_law_527 dL_law_529 dL_law_530 dL_law_531 rfl rfl rfl rfl (hin 2 (by decide)) ?_
  refine r_scr (j0 := 6) (j5 := 1) C Sc 538 3 dL_law_532 dL_law_533 dL_law_535 dL_law_536 dL_law_537 rfl rfl rfl rfl (hin 3 (by decide)) ?_
  refine r_scr (j0 := 6) (j5 := 1) C Sc 544 4 dL_law_538 dL_law_539 dL_law_541 dL_law_542 dL_law_543 rfl rfl rfl rfl (hin 4 (by decide)) ?_
  refine r_lVI (as := [.int (xs (i + 1).toNatClampNeg), .int (xs (i + 2).toNatClampNeg), .int (xs (i + 3).toNatClampNeg), .int (xs (i + 4).toNatClampNeg)]) (S := []) C 547 (ct_X5_addStation _ _ _ _ τ2 (fun b υ => υ.1 209 0 = k ∧ (k = 0 → b = r) ∧ RU τ2 υ) (fun _ _ => False) (hA τ2 hF _ _ (fun b υ e1 e2 e3 => ⟨e1, e2, e3⟩))) dL_law_544 rfl cl7 kd_209 wq_1388 wq_1387 rfl wq_1386 wq_1389 wd_95 yd_X5_addStation ⟨Nat.le_trans (Nat.le_of_ble_eq_true rfl) hL.1, Nat.le_trans (Nat.le_of_ble_eq_true rfl) hL.2.1⟩ (Nat.le_of_ble_eq_true rfl) ⟨by have := hL.2.2.1; omega, by have := hL.2.2.2; omega⟩ (fun b υ h => ?_)
  obtain ⟨hk, hb, hU⟩ := h
  refine r_istore C 549 [(7, .int b), (6, .int k), (5, .int i), (4, .ref 234), (3, .ref 233), (2, .ref 209), (1, .ref 0), (0, .ref 1003)] dL_law_547 rfl (by decide) rfl ?_
  refine r_aload_n C 550 (j := 5) dL_law_549 rfl rfl ?_
  refine r_lVI (as := []) (S := []) C 553 (ct_X5_thrown υ (fun t ω => t = υ.1 209 0 ∧ ω = υ) (fun _ _ => False) ⟨rfl, rfl⟩) dL_law_550 rfl cl7 kd_209 wq_1314 wq_1313 rfl wq_1312 wq_1315 wd_95 yd_X5_thrown ⟨Nat.le_trans (Nat.le_of_ble_eq_true rfl) hL.1, Nat.le_trans (Nat.le_of_ble_eq_true rfl) hL.2.1⟩ (Nat.le_of_ble_eq_true rfl) ⟨by have := hL.2.2.1; omega, by have := hL.2.2.2; omega⟩ (fun t ω h => ?_)
  obtain ⟨rfl, rfl⟩ := h
  refine r_iload C 555 (j := 1) dL_law_553 rfl rfl ?_
  refine r_icmp_eq C 560 558 dL_law_555 (by decide) rfl (fun _ => ?_) (fun z => absurd hk z)
  refine r_iload C 562 (j := 1) dL_law_560 rfl rfl ?_
  refine r_if_ne C 577 565 dL_law_562 (by decide) rfl (fun _ => r_goto C 2348 dL_law_577 (by decide) (Ws_sub (L' := LL i) (fun q hq => List.mem_cons_of_mem _ (List.mem_cons_of_mem _ (hq))) (hc _ _ (by omega) hU.1))) (fun z => ?_)
  have hk0 : k = 0 := z
  refine r_aload_n C 566 (j := 4) dL_law_565 rfl rfl ?_
  refine r_iconst C 567 (v := 0) dL_law_566 rfl (by decide) ?_
  refine r_lald C 568 dL_law_567 rfl kd_233 (by unfold vp_in; decide) ?_
  refine r_iload C 570 (j := 0) dL_law_568 rfl rfl ?_
  refine r_i2l C 571 dL_law_570 rfl ?_
  exact r_lcmp_eq C 572 577 575 dL_law_571 rfl dL_law_572 (by decide) rfl (fun _ => r_goto C 2348 dL_law_577 (by decide) (Ws_sub (L' := LL i) (fun q hq => List.mem_cons_of_mem _ (List.mem_cons_of_mem _ (hq))) (hc _ _ (by omega) hU.1))) (fun w => absurd (by rw [show (0 : Int32).toNatClampNeg = 0 from rfl, hU.2, hO hk0, hb hk0]) w)
theorem st_5 {x : Ctx} {n : Nat} {i : Int32} {σ : Mem} {Len : Nat} {xs : Nat → Int32} (C : Cx x RL cL_law 10) (Sc : Scr x Len xs) (hL : Lw x n) (hin : ∀ c : Nat, c ≤ 4 → vp_in (i + Int32.ofNat c) Len) (hR : Rel σ) (hc : ∀ υ n', n' ≤ n + 4 → Rel υ → Ws x n' 2348 (LL i) [] υ) : Ws x n 580 (LL i) [] σ := by
  show Ws x n 580 [(5, .int i), (4, .ref 234), (3, .ref 233), (2, .ref 209), (1, .ref 0), (0, .ref 1003)] [] σ
  refine r_aload_n C 581 (j := 4) dL_law_580 rfl rfl ?_
  refine r_scr (j0 := 5) (j5 := 0) C Sc 587 1 dL_law_581 dL_law_582 dL_law_584 dL_law_585 dL_law_586 rfl rfl rfl rfl (hin 1 (by decide)) ?_
  refine r_aload_n C 588 (j := 2) dL_law_587 rfl rfl ?_
  refine r_lW (b := 0) (as := [.ref 0, .int (xs (i + 1).toNatClampNeg), .ref 233]) (S := []) C 591 (cw_removeStation _ σ (KwI (sp_X5_removeStation (xs (i + 1).toNatClampNeg))) (q_removeStation hR (fun r τ hA => KwI.a hA) (fun τ hA => ⟨rfl, KwI.b (by decide) hA⟩))) dL_law_588 rfl wq_825 wq_824 wq_826 wd_89 yd_L_removeStation ⟨Nat.le_trans (Nat.le_of_ble_eq_true rfl) hL.1, Nat.le_trans (Nat.le_of_ble_eq_true rfl) hL.2.1⟩ (Nat.le_of_ble_eq_true rfl) ⟨by have := hL.2.2.1; omega, by have := hL.2.2.2; omega⟩ (fun k τ2 h => ?_)
  obtain ⟨r, τ, hF, hA, hO⟩ := h
  refine r_istore C 593 [(6, .int k), (5, .int i), (4, .ref 234), (3, .ref 233), (2, .ref 209), (1, .ref 0), (0, .ref 1003)] dL_law_591 rfl (by decide) rfl ?_
  refine r_aload_n C 594 (j := 4) dL_law_593 rfl rfl ?_
  refine r_scr (j0 := 6) (j5 := 1) C Sc 600 1 dL_law_594 dL_law_595 dL_law_597 dL_law_598 dL_law_599 rfl rfl rfl rfl (hin 1 (by decide)) ?_
  refine r_lVI (as := [.int (xs (i + 1).toNatClampNeg)]) (S := []) C 603 (ct_X5_removeStation _ τ2 (fun b υ => υ.1 209 0 = k ∧ (k = 0 → b = r) ∧ RU τ2 υ) (fun _ _ => False) (hA τ2 hF _ _ (fun b υ e1 e2 e3 => ⟨e1, e2, e3⟩))) dL_law_600 rfl cl7 kd_209 wq_1404 wq_1403 rfl wq_1402 wq_1405 wd_95 yd_X5_removeStation ⟨Nat.le_trans (Nat.le_of_ble_eq_true rfl) hL.1, Nat.le_trans (Nat.le_of_ble_eq_true rfl) hL.2.1⟩ (Nat.le_of_ble_eq_true rfl) ⟨by have := hL.2.2.1; omega, by have := hL.2.2.2; omega⟩ (fun b υ h => ?_)
  obtain ⟨hk, hb, hU⟩ := h
  refine r_istore C 605 [(7, .int b), (6, .int k), (5, .int i), (4, .ref 234), (3, .ref 233), (2, .ref 209), (1, .ref 0), (0, .ref 1003)] dL_law_603 rfl (by decide) rfl ?_
  refine r_aload_n C 606 (j := 5) dL_law_605 rfl rfl ?_
  refine r_lVI (as := []) (S := []) C 609 (ct_X5_thrown υ (fun t ω => t = υ.1 209 0 ∧ ω = υ) (fun _ _ => False) ⟨rfl, rfl⟩) dL_law_606 rfl cl7 kd_209 wq_1314 wq_1313 rfl wq_1312 wq_1315 wd_95 yd_X5_thrown ⟨Nat.le_trans (Nat.le_of_ble_eq_true rfl) hL.1, Nat.le_trans (Nat.le_of_ble_eq_true rfl) hL.2.1⟩ (Nat.le_of_ble_eq_true rfl) ⟨by have := hL.2.2.1; omega, by have := hL.2.2.2; omega⟩ (fun t ω h => ?_)
  obtain ⟨rfl, rfl⟩ := h
  refine r_iload C 611 (j := 1) dL_law_609 rfl rfl ?_
  refine r_icmp_eq C 616 614 dL_law_611 (by decide) rfl (fun _ => ?_) (fun z => absurd hk z)
  refine r_iload C 618 (j := 1) dL_law_616 rfl rfl ?_
  refine r_if_ne C 633 621 dL_law_618 (by decide) rfl (fun _ => r_goto C 2348 dL_law_633 (by decide) (Ws_sub (L' := LL i) (fun q hq => List.mem_cons_of_mem _ (List.mem_cons_of_mem _ (hq))) (hc _ _ (by omega) hU.1))) (fun z => ?_)
  have hk0 : k = 0 := z
  refine r_aload_n C 622 (j := 4) dL_law_621 rfl rfl ?_
  refine r_iconst C 623 (v := 0) dL_law_622 rfl (by decide) ?_
  refine r_lald C 624 dL_law_623 rfl kd_233 (by unfold vp_in; decide) ?_
  refine r_iload C 626 (j := 0) dL_law_624 rfl rfl ?_
  refine r_i2l C 627 dL_law_626 rfl ?_
  exact r_lcmp_eq C 628 633 631 dL_law_627 rfl dL_law_628 (by decide) rfl (fun _ => r_goto C 2348 dL_law_633 (by decide) (Ws_sub (L' := LL i) (fun q hq => List.mem_cons_of_mem _ (List.mem_cons_of_mem _ (hq))) (hc _ _ (by omega) hU.1))) (fun w => absurd (by rw [show (0 : Int32).toNatClampNeg = 0 from rfl, hU.2, hO hk0, hb hk0]) w)
theorem st_6 {x : Ctx} {n : Nat} {i : Int32} {σ : Mem} {Len : Nat} {xs : Nat → Int32} (C : Cx x RL cL_law 10) (Sc : Scr x Len xs) (hL : Lw x n) (hin : ∀ c : Nat, c ≤ 4 → vp_in (i + Int32.ofNat c) Len) (hR : Rel σ) (hc : ∀ υ n', n' ≤ n + 4 → Rel υ → Ws x n' 2348 (LL i) [] υ) : Ws x n 636 (LL i) [] σ := by
  show Ws x n 636 [(5, .int i), (4, .ref 234), (3, .ref 233), (2, .ref 209), (1, .ref 0), (0, .ref 1003)] [] σ
  refine r_aload_n C 637 (j := 4) dL_law_636 rfl rfl ?_
  refine r_scr (j0 := 5) (j5 := 0) C Sc 643 1 dL_law_637 dL_law_638 dL_law_640 dL_law_641 dL_law_642 rfl rfl rfl rfl (hin 1 (by decide)) ?_
  refine r_scr (j0 := 5) (j5 := 0) C Sc 649 2 dL_law_643 dL_law_644 dL_law_646 dL_law_647 dL_law_648 rfl rfl rfl rfl (hin 2 (by decide)) ?_
  refine r_aload_n C 650 (j := 2) dL_law_649 rfl rfl ?_
  refine r_lW (b := 0) (as := [.ref 0, .int (xs (i + 1).toNatClampNeg), .int (xs (i + 2).toNatClampNeg), .ref 233]) (S := []) C 653 (cw_setReturn _ _ σ (KwI (sp_X5_setReturn (xs (i + 1).toNatClampNeg) (xs (i + 2).toNatClampNeg))) (q_setReturn hR (fun r τ hA => KwI.a hA) (fun τ hA => .inl ⟨rfl, KwI.b (by decide) hA⟩) (fun τ hA => .inr ⟨rfl, KwI.b (by decide) hA⟩))) dL_law_650 rfl wq_840 wq_839 wq_841 wd_89 yd_L_setReturn ⟨Nat.le_trans (Nat.le_of_ble_eq_true rfl) hL.1, Nat.le_trans (Nat.le_of_ble_eq_true rfl) hL.2.1⟩ (Nat.le_of_ble_eq_true rfl) ⟨by have := hL.2.2.1; omega, by have := hL.2.2.2; omega⟩ (fun k τ2 h => ?_)
  obtain ⟨r, τ, hF, hA, hO⟩ := h
  refine r_istore C 655 [(6, .int k), (5, .int i), (4, .ref 234), (3, .ref 233), (2, .ref 209), (1, .ref 0), (0, .ref 1003)] dL_law_653 rfl (by decide) rfl ?_
  refine r_aload_n C 656 (j := 4) dL_law_655 rfl rfl ?_
  refine r_scr (j0 := 6) (j5 := 1) C Sc 662 1 dL_law_656 dL_law_657 dL_law_659 dL_law_660 dL_law_661 rfl rfl rfl rfl (hin 1 (by decide)) ?_
  refine r_scr (j0 := 6) (j5 := 1) C Sc 668 2 dL_law_662 dL_law_663 dL_law_665 dL_law_666 dL_law_667 rfl rfl rfl rfl (hin 2 (by decide)) ?_
  refine r_lVI (as := [.int (xs (i + 1).toNatClampNeg), .int (xs (i + 2).toNatClampNeg)]) (S := []) C 671 (ct_X5_setReturn _ _ τ2 (fun b υ => υ.1 209 0 = k ∧ (k = 0 → b = r) ∧ RU τ2 υ) (fun _ _ => False) (hA τ2 hF _ _ (fun b υ e1 e2 e3 => ⟨e1, e2, e3⟩))) dL_law_668 rfl cl7 kd_209 wq_1412 wq_1411 rfl wq_1410 wq_1413 wd_95 yd_X5_setReturn ⟨Nat.le_trans (Nat.le_of_ble_eq_true rfl) hL.1, Nat.le_trans (Nat.le_of_ble_eq_true rfl) hL.2.1⟩ (Nat.le_of_ble_eq_true rfl) ⟨by have := hL.2.2.1; omega, by have := hL.2.2.2; omega⟩ (fun b υ h => ?_)
  obtain ⟨hk, hb, hU⟩ := h
  refine r_istore C 673 [(7, .int b), (6, .int k), (5, .int i), (4, .ref 234), (3, .ref 233), (2, .ref 209), (1, .ref 0), (0, .ref 1003)] dL_law_671 rfl (by decide) rfl ?_
  refine r_aload_n C 674 (j := 5) dL_law_673 rfl rfl ?_
  refine r_lVI (as := []) (S := []) C 677 (ct_X5_thrown υ (fun t ω => t = υ.1 209 0 ∧ ω = υ) (fun _ _ => False) ⟨rfl, rfl⟩) dL_law_674 rfl cl7 kd_209 wq_1314 wq_1313 rfl wq_1312 wq_1315 wd_95 yd_X5_thrown ⟨Nat.le_trans (Nat.le_of_ble_eq_true rfl) hL.1, Nat.le_trans (Nat.le_of_ble_eq_true rfl) hL.2.1⟩ (Nat.le_of_ble_eq_true rfl) ⟨by have := hL.2.2.1; omega, by have := hL.2.2.2; omega⟩ (fun t ω h => ?_)
  obtain ⟨rfl, rfl⟩ := h
  refine r_iload C 679 (j := 1) dL_law_677 rfl rfl ?_
  refine r_icmp_eq C 684 682 dL_law_679 (by decide) rfl (fun _ => ?_) (fun z => absurd hk z)
  refine r_iload C 686 (j := 1) dL_law_684 rfl rfl ?_
  refine r_if_ne C 701 689 dL_law_686 (by decide) rfl (fun _ => r_goto C 2348 dL_law_701 (by decide) (Ws_sub (L' := LL i) (fun q hq => List.mem_cons_of_mem _ (List.mem_cons_of_mem _ (hq))) (hc _ _ (by omega) hU.1))) (fun z => ?_)
  have hk0 : k = 0 := z
  refine r_aload_n C 690 (j := 4) dL_law_689 rfl rfl ?_
  refine r_iconst C 691 (v := 0) dL_law_690 rfl (by decide) ?_
  refine r_lald C 692 dL_law_691 rfl kd_233 (by unfold vp_in; decide) ?_
  refine r_iload C 694 (j := 0) dL_law_692 rfl rfl ?_
  refine r_i2l C 695 dL_law_694 rfl ?_
  exact r_lcmp_eq C 696 701 699 dL_law_695 rfl dL_law_696 (by decide) rfl (fun _ => r_goto C 2348 dL_law_701 (by decide) (Ws_sub (L' := LL i) (fun q hq => List.mem_cons_of_mem _ (List.mem_cons_of_mem _ (hq))) (hc _ _ (by omega) hU.1))) (fun w => absurd (by rw [show (0 : Int32).toNatClampNeg = 0 from rfl, hU.2, hO hk0, hb hk0]) w)
theorem st_7 {x : Ctx} {n : Nat} {i : Int32} {σ : Mem} {Len : Nat} {xs : Nat → Int32} (C : Cx x RL cL_law 10) (Sc : Scr x Len xs) (hL : Lw x n) (hin : ∀ c : Nat, c ≤ 4 → vp_in (i + Int32.ofNat c) Len) (hR : Rel σ) (hc : ∀ υ n', n' ≤ n + 4 → Rel υ → Ws x n' 2348 (LL i) [] υ) : Ws x n 704 (LL i) [] σ := by
  show Ws x n 704 [(5, .int i), (4, .ref 234), (3, .ref 233), (2, .ref 209), (1, .ref 0), (0, .ref 1003)] [] σ
  refine r_aload_n C 705 (j := 4) dL_law_704 rfl rfl ?_
  refine r_scr (j0 := 5) (j5 := 0) C Sc 711 1 dL_law_705 dL_law_706 dL_law_708 dL_law_709 dL_law_710 rfl rfl rfl rfl (hin 1 (by decide)) ?_
  refine r_scr (j0 := 5) (j5 := 0) C Sc 717 2 dL_law_711 dL_law_712 dL_law_714 dL_law_715 dL_law_716 rfl rfl rfl rfl (hin 2 (by decide)) ?_
  refine r_scr (j0 := 5) (j5 := 0) C Sc 723 3 dL_law_717 dL_law_718 dL_law_720 dL_law_721 dL_law_722 rfl rfl rfl rfl (hin 3 (by decide)) ?_
  refine r_aload_n C 724 (j := 2) dL_law_723 rfl rfl ?_
  refine r_lW (b := 0) (as := [.ref 0, .int (xs (i + 1).toNatClampNeg), .int (xs (i + 2).toNatClampNeg), .int (xs (i + 3).toNatClampNeg), .ref 233]) (S := []) C 727 (cw_setMeter _ _ _ σ (KwI (sp_X5_setMeter (xs (i + 1).toNatClampNeg) (xs (i + 2).toNatClampNeg) (xs (i + 3).toNatClampNeg))) (q_setMeter hR (fun r τ hA => KwI.a hA) (fun τ hA => .inl ⟨rfl, KwI.b (by decide) hA⟩) (fun τ hA => .inr ⟨rfl, KwI.b (by decide) hA⟩))) dL_law_724 rfl wq_873 wq_872 wq_874 wd_89 yd_L_setMeter ⟨Nat.le_trans (Nat.le_of_ble_eq_true rfl) hL.1, Nat.le_trans (Nat.le_of_ble_eq_true rfl) hL.2.1⟩ (Nat.le_of_ble_eq_true rfl) ⟨by have := hL.2.2.1; omega, by have := hL.2.2.2; omega⟩ (fun k τ2 h => ?_)
  obtain ⟨r, τ, hF, hA, hO⟩ := h
  refine r_istore C 729 [(6, .int k), (5, .int i), (4, .ref 234), (3, .ref 233), (2, .ref 209), (1, .ref 0), (0, .ref 1003)] dL_law_727 rfl (by decide) rfl ?_
  refine r_aload_n C 730 (j := 4) dL_law_729 rfl rfl ?_
  refine r_scr (j0 := 6) (j5 := 1) C Sc 736 1 dL_law_730 dL_law_731 dL_law_733 dL_law_734 dL_law_735 rfl rfl rfl rfl (hin 1 (by decide)) ?_
  refine r_scr (j0 := 6) (j5 := 1) C Sc 742 2 dL_law_736 dL_law_737 dL_law_739 dL_law_740 dL_law_741 rfl rfl rfl rfl (hin 2 (by decide)) ?_
  refine r_scr (j0 := 6) (j5 := 1) C Sc 748 3 dL_law_742 dL_law_743 dL_law_745 dL_law_746 dL_law_747 rfl rfl rfl rfl (hin 3 (by decide)) ?_
  refine r_lVI (as := [.int (xs (i + 1).toNatClampNeg), .int (xs (i + 2).toNatClampNeg), .int (xs (i + 3).toNatClampNeg)]) (S := []) C 751 (ct_X5_setMeter _ _ _ τ2 (fun b υ => υ.1 209 0 = k ∧ (k = 0 → b = r) ∧ RU τ2 υ) (fun _ _ => False) (hA τ2 hF _ _ (fun b υ e1 e2 e3 => ⟨e1, e2, e3⟩))) dL_law_748 rfl cl7 kd_209 wq_1416 wq_1415 rfl wq_1414 wq_1417 wd_95 yd_X5_setMeter ⟨Nat.le_trans (Nat.le_of_ble_eq_true rfl) hL.1, Nat.le_trans (Nat.le_of_ble_eq_true rfl) hL.2.1⟩ (Nat.le_of_ble_eq_true rfl) ⟨by have := hL.2.2.1; omega, by have := hL.2.2.2; omega⟩ (fun b υ h => ?_)
  obtain ⟨hk, hb, hU⟩ := h
  refine r_istore C 753 [(7, .int b), (6, .int k), (5, .int i), (4, .ref 234), (3, .ref 233), (2, .ref 209), (1, .ref 0), (0, .ref 1003)] dL_law_751 rfl (by decide) rfl ?_
  refine r_aload_n C 754 (j := 5) dL_law_753 rfl rfl ?_
  refine r_lVI (as := []) (S := []) C 757 (ct_X5_thrown υ (fun t ω => t = υ.1 209 0 ∧ ω = υ) (fun _ _ => False) ⟨rfl, rfl⟩) dL_law_754 rfl cl7 kd_209 wq_1314 wq_1313 rfl wq_1312 wq_1315 wd_95 yd_X5_thrown ⟨Nat.le_trans (Nat.le_of_ble_eq_true rfl) hL.1, Nat.le_trans (Nat.le_of_ble_eq_true rfl) hL.2.1⟩ (Nat.le_of_ble_eq_true rfl) ⟨by have := hL.2.2.1; omega, by have := hL.2.2.2; omega⟩ (fun t ω h => ?_)
  obtain ⟨rfl, rfl⟩ := h
  refine r_iload C 759 (j := 1) dL_law_757 rfl rfl ?_
  refine r_icmp_eq C 764 762 dL_law_759 (by decide) rfl (fun _ => ?_) (fun z => absurd hk z)
  refine r_iload C 766 (j := 1) dL_law_764 rfl rfl ?_
  refine r_if_ne C 781 769 dL_law_766 (by decide) rfl (fun _ => r_goto C 2348 dL_law_781 (by decide) (Ws_sub (L' := LL i) (fun q hq => List.mem_cons_of_mem _ (List.mem_cons_of_mem _ (hq))) (hc _ _ (by omega) hU.1))) (fun z => ?_)
  have hk0 : k = 0 := z
  refine r_aload_n C 770 (j := 4) dL_law_769 rfl rfl ?_
  refine r_iconst C 771 (v := 0) dL_law_770 rfl (by decide) ?_
  refine r_lald C 772 dL_law_771 rfl kd_233 (by unfold vp_in; decide) ?_
  refine r_iload C 774 (j := 0) dL_law_772 rfl rfl ?_
  refine r_i2l C 775 dL_law_774 rfl ?_
  exact r_lcmp_eq C 776 781 779 dL_law_775 rfl dL_law_776 (by decide) rfl (fun _ => r_goto C 2348 dL_law_781 (by decide) (Ws_sub (L' := LL i) (fun q hq => List.mem_cons_of_mem _ (List.mem_cons_of_mem _ (hq))) (hc _ _ (by omega) hU.1))) (fun w => absurd (by rw [show (0 : Int32).toNatClampNeg = 0 from rfl, hU.2, hO hk0, hb hk0]) w)
theorem st_8 {x : Ctx} {n : Nat} {i : Int32} {σ : Mem} {Len : Nat} {xs : Nat → Int32} (C : Cx x RL cL_law 10) (Sc : Scr x Len xs) (hL : Lw x n) (hin : ∀ c : Nat, c ≤ 4 → vp_in (i + Int32.ofNat c) Len) (hR : Rel σ) (hc : ∀ υ n', n' ≤ n + 4 → Rel υ → Ws x n' 2348 (LL i) [] υ) : Ws x n 784 (LL i) [] σ := by
  show Ws x n 784 [(5, .int i), (4, .ref 234), (3, .ref 233), (2, .ref 209), (1, .ref 0), (0, .ref 1003)] [] σ
  refine r_aload_n C 785 (j := 4) dL_law_784 rfl rfl ?_
  refine r_scr (j0 := 5) (j5 := 0) C Sc 791 1 dL_law_785 dL_law_786 dL_law_788 dL_law_789 dL_law_790 rfl rfl rfl rfl (hin 1 (by decide)) ?_
  refine r_aload_n C 792 (j := 2) dL_law_791 rfl rfl ?_
  refine r_lW (b := 0) (as := [.ref 0, .int (xs (i + 1).toNatClampNeg), .ref 233]) (S := []) C 795 (cw_hours _ σ (KwL (sp_X5_hours (xs (i + 1).toNatClampNeg))) (q_hours hR (fun r τ hA => KwL.a hA) (fun τ hA => .inl ⟨rfl, KwL.b (by decide) hA⟩) (fun τ hA => .inr ⟨rfl, KwL.b (by decide) hA⟩))) dL_law_792 rfl wq_880 wq_879 wq_881 wd_89 yd_L_hours ⟨Nat.le_trans (Nat.le_of_ble_eq_true rfl) hL.1, Nat.le_trans (Nat.le_of_ble_eq_true rfl) hL.2.1⟩ (Nat.le_of_ble_eq_true rfl) ⟨by have := hL.2.2.1; omega, by have := hL.2.2.2; omega⟩ (fun k τ2 h => ?_)
  obtain ⟨r, τ, hF, hA, hO⟩ := h
  refine r_istore C 797 [(6, .int k), (5, .int i), (4, .ref 234), (3, .ref 233), (2, .ref 209), (1, .ref 0), (0, .ref 1003)] dL_law_795 rfl (by decide) rfl ?_
  refine r_aload_n C 798 (j := 4) dL_law_797 rfl rfl ?_
  refine r_scr (j0 := 6) (j5 := 1) C Sc 804 1 dL_law_798 dL_law_799 dL_law_801 dL_law_802 dL_law_803 rfl rfl rfl rfl (hin 1 (by decide)) ?_
  refine r_lVL (as := [.int (xs (i + 1).toNatClampNeg)]) (S := []) C 807 (ct_X5_hours _ τ2 (fun b υ => υ.1 209 0 = k ∧ (k = 0 → b = r) ∧ RU τ2 υ) (fun _ _ => False) (hA τ2 hF _ _ (fun b υ e1 e2 e3 => ⟨e1, e2, e3⟩))) dL_law_804 rfl cl7 kd_209 wq_1420 wq_1419 rfl wq_1418 wq_1421 wd_95 yd_X5_hours ⟨Nat.le_trans (Nat.le_of_ble_eq_true rfl) hL.1, Nat.le_trans (Nat.le_of_ble_eq_true rfl) hL.2.1⟩ (Nat.le_of_ble_eq_true rfl) ⟨by have := hL.2.2.1; omega, by have := hL.2.2.2; omega⟩ (fun b υ h => ?_)
  obtain ⟨hk, hb, hU⟩ := h
  refine r_lstore C 809 [(7, .long b), (6, .int k), (5, .int i), (4, .ref 234), (3, .ref 233), (2, .ref 209), (1, .ref 0), (0, .ref 1003)] dL_law_807 rfl (by decide) rfl ?_
  refine r_aload_n C 810 (j := 5) dL_law_809 rfl rfl ?_
  refine r_lVI (as := []) (S := []) C 813 (ct_X5_thrown υ (fun t ω => t = υ.1 209 0 ∧ ω = υ) (fun _ _ => False) ⟨rfl, rfl⟩) dL_law_810 rfl cl7 kd_209 wq_1314 wq_1313 rfl wq_1312 wq_1315 wd_95 yd_X5_thrown ⟨Nat.le_trans (Nat.le_of_ble_eq_true rfl) hL.1, Nat.le_trans (Nat.le_of_ble_eq_true rfl) hL.2.1⟩ (Nat.le_of_ble_eq_true rfl) ⟨by have := hL.2.2.1; omega, by have := hL.2.2.2; omega⟩ (fun t ω h => ?_)
  obtain ⟨rfl, rfl⟩ := h
  refine r_iload C 815 (j := 1) dL_law_813 rfl rfl ?_
  refine r_icmp_eq C 820 818 dL_law_815 (by decide) rfl (fun _ => ?_) (fun z => absurd hk z)
  refine r_iload C 822 (j := 1) dL_law_820 rfl rfl ?_
  refine r_if_ne C 836 825 dL_law_822 (by decide) rfl (fun _ => r_goto C 2348 dL_law_836 (by decide) (Ws_sub (L' := LL i) (fun q hq => List.mem_cons_of_mem _ (List.mem_cons_of_mem _ (hq))) (hc _ _ (by omega) hU.1))) (fun z => ?_)
  have hk0 : k = 0 := z
  refine r_aload_n C 826 (j := 4) dL_law_825 rfl rfl ?_
  refine r_iconst C 827 (v := 0) dL_law_826 rfl (by decide) ?_
  refine r_lald C 828 dL_law_827 rfl kd_233 (by unfold vp_in; decide) ?_
  refine r_lload C 830 (j := 0) dL_law_828 rfl rfl ?_
  exact r_lcmp_eq C 831 836 834 dL_law_830 rfl dL_law_831 (by decide) rfl (fun _ => r_goto C 2348 dL_law_836 (by decide) (Ws_sub (L' := LL i) (fun q hq => List.mem_cons_of_mem _ (List.mem_cons_of_mem _ (hq))) (hc _ _ (by omega) hU.1))) (fun w => absurd (by rw [show (0 : Int32).toNatClampNeg = 0 from rfl, hU.2, hO hk0, hb hk0]) w)
theorem st_9 {x : Ctx} {n : Nat} {i : Int32} {σ : Mem} {Len : Nat} {xs : Nat → Int32} (C : Cx x RL cL_law 10) (Sc : Scr x Len xs) (hL : Lw x n) (hin : ∀ c : Nat, c ≤ 4 → vp_in (i + Int32.ofNat c) Len) (hR : Rel σ) (hc : ∀ υ n', n' ≤ n + 4 → Rel υ → Ws x n' 2348 (LL i) [] υ) : Ws x n 839 (LL i) [] σ := by
  show Ws x n 839 [(5, .int i), (4, .ref 234), (3, .ref 233), (2, .ref 209), (1, .ref 0), (0, .ref 1003)] [] σ
  refine r_aload_n C 840 (j := 4) dL_law_839 rfl rfl ?_
  refine r_scr (j0 := 5) (j5 := 0) C Sc 846 1 dL_law_840 dL_law_841 dL_law_843 dL_law_844 dL_law_845 rfl rfl rfl rfl (hin 1 (by decide)) ?_
  refine r_aload_n C 847 (j := 2) dL_law_846 rfl rfl ?_
  refine r_lW (b := 0) (as := [.ref 0, .int (xs (i + 1).toNatClampNeg), .ref 233]) (S := []) C 850 (cw_append _ σ (KwI (sp_X5_append (xs (i + 1).toNatClampNeg))) (q_append hR (fun r τ hA => KwI.a hA) (fun τ hA => .inl ⟨rfl, KwI.b (by decide) hA⟩) (fun τ hA => .inr ⟨rfl, KwI.b (by decide) hA⟩))) dL_law_847 rfl wq_927 wq_926 wq_928 wd_89 yd_L_append ⟨Nat.le_trans (Nat.le_of_ble_eq_true rfl) hL.1, Nat.le_trans (Nat.le_of_ble_eq_true rfl) hL.2.1⟩ (Nat.le_of_ble_eq_true rfl) ⟨by have := hL.2.2.1; omega, by have := hL.2.2.2; omega⟩ (fun k τ2 h => ?_)
  obtain ⟨r, τ, hF, hA, hO⟩ := h
  refine r_istore C 852 [(6, .int k), (5, .int i), (4, .ref 234), (3, .ref 233), (2, .ref 209), (1, .ref 0), (0, .ref 1003)] dL_law_850 rfl (by decide) rfl ?_
  refine r_aload_n C 853 (j := 4) dL_law_852 rfl rfl ?_
  refine r_scr (j0 := 6) (j5 := 1) C Sc 859 1 dL_law_853 dL_law_854 dL_law_856 dL_law_857 dL_law_858 rfl rfl rfl rfl (hin 1 (by decide)) ?_
  refine r_lVI (as := [.int (xs (i + 1).toNatClampNeg)]) (S := []) C 862 (ct_X5_append _ τ2 (fun b υ => υ.1 209 0 = k ∧ (k = 0 → b = r) ∧ RU τ2 υ) (fun _ _ => False) (hA τ2 hF _ _ (fun b υ e1 e2 e3 => ⟨e1, e2, e3⟩))) dL_law_859 rfl cl7 kd_209 wq_1537 wq_1536 rfl wq_1535 wq_1538 wd_95 yd_X5_append ⟨Nat.le_trans (Nat.le_of_ble_eq_true rfl) hL.1, Nat.le_trans (Nat.le_of_ble_eq_true rfl) hL.2.1⟩ (Nat.le_of_ble_eq_true rfl) ⟨by have := hL.2.2.1; omega, by have := hL.2.2.2; omega⟩ (fun b υ h => ?_)
  obtain ⟨hk, hb, hU⟩ := h
  refine r_istore C 864 [(7, .int b), (6, .int k), (5, .int i), (4, .ref 234), (3, .ref 233), (2, .ref 209), (1, .ref 0), (0, .ref 1003)] dL_law_862 rfl (by decide) rfl ?_
  refine r_aload_n C 865 (j := 5) dL_law_864 rfl rfl ?_
  refine r_lVI (as := []) (S := []) C 868 (ct_X5_thrown υ (fun t ω => t = υ.1 209 0 ∧ ω = υ) (fun _ _ => False) ⟨rfl, rfl⟩) dL_law_865 rfl cl7 kd_209 wq_1314 wq_1313 rfl wq_1312 wq_1315 wd_95 yd_X5_thrown ⟨Nat.le_trans (Nat.le_of_ble_eq_true rfl) hL.1, Nat.le_trans (Nat.le_of_ble_eq_true rfl) hL.2.1⟩ (Nat.le_of_ble_eq_true rfl) ⟨by have := hL.2.2.1; omega, by have := hL.2.2.2; omega⟩ (fun t ω h => ?_)
  obtain ⟨rfl, rfl⟩ := h
  refine r_iload C 870 (j := 1) dL_law_868 rfl rfl ?_
  refine r_icmp_eq C 875 873 dL_law_870 (by decide) rfl (fun _ => ?_) (fun z => absurd hk z)
  refine r_iload C 877 (j := 1) dL_law_875 rfl rfl ?_
  refine r_if_ne C 892 880 dL_law_877 (by decide) rfl (fun _ => r_goto C 2348 dL_law_892 (by decide) (Ws_sub (L' := LL i) (fun q hq => List.mem_cons_of_mem _ (List.mem_cons_of_mem _ (hq))) (hc _ _ (by omega) hU.1))) (fun z => ?_)
  have hk0 : k = 0 := z
  refine r_aload_n C 881 (j := 4) dL_law_880 rfl rfl ?_
  refine r_iconst C 882 (v := 0) dL_law_881 rfl (by decide) ?_
  refine r_lald C 883 dL_law_882 rfl kd_233 (by unfold vp_in; decide) ?_
  refine r_iload C 885 (j := 0) dL_law_883 rfl rfl ?_
  refine r_i2l C 886 dL_law_885 rfl ?_
  exact r_lcmp_eq C 887 892 890 dL_law_886 rfl dL_law_887 (by decide) rfl (fun _ => r_goto C 2348 dL_law_892 (by decide) (Ws_sub (L' := LL i) (fun q hq => List.mem_cons_of_mem _ (List.mem_cons_of_mem _ (hq))) (hc _ _ (by omega) hU.1))) (fun w => absurd (by rw [show (0 : Int32).toNatClampNeg = 0 from rfl, hU.2, hO hk0, hb hk0]) w)
theorem st_10 {x : Ctx} {n : Nat} {i : Int32} {σ : Mem} {Len : Nat} {xs : Nat → Int32} (C : Cx x RL cL_law 10) (Sc : Scr x Len xs) (hL : Lw x n) (hin : ∀ c : Nat, c ≤ 4 → vp_in (i + Int32.ofNat c) Len) (hR : Rel σ) (hc : ∀ υ n', n' ≤ n + 4 → Rel υ → Ws x n' 2348 (LL i) [] υ) : Ws x n 895 (LL i) [] σ := by
  show Ws x n 895 [(5, .int i), (4, .ref 234), (3, .ref 233), (2, .ref 209), (1, .ref 0), (0, .ref 1003)] [] σ
  refine r_aload_n C 896 (j := 4) dL_law_895 rfl rfl ?_
  refine r_aload_n C 897 (j := 2) dL_law_896 rfl rfl ?_
  refine r_lW (b := 0) (as := [.ref 0, .ref 233]) (S := []) C 900 (cw_run  σ (KwI sp_X5_run) (q_run hR (fun r τ hA => KwI.a hA) (fun τ hA => .inl ⟨rfl, KwI.b (by decide) hA⟩) (fun τ hA => .inr ⟨rfl, KwI.b (by decide) hA⟩))) dL_law_897 rfl wq_951 wq_950 wq_952 wd_89 yd_L_run ⟨Nat.le_trans (Nat.le_of_ble_eq_true rfl) hL.1, Nat.le_trans (Nat.le_of_ble_eq_true rfl) hL.2.1⟩ (Nat.le_of_ble_eq_true rfl) ⟨by have := hL.2.2.1; omega, by have := hL.2.2.2; omega⟩ (fun k τ2 h => ?_)
  obtain ⟨r, τ, hF, hA, hO⟩ := h
  refine r_istore C 902 [(6, .int k), (5, .int i), (4, .ref 234), (3, .ref 233), (2, .ref 209), (1, .ref 0), (0, .ref 1003)] dL_law_900 rfl (by decide) rfl ?_
  refine r_aload_n C 903 (j := 4) dL_law_902 rfl rfl ?_
  refine r_lVI (as := []) (S := []) C 906 (ct_X5_run  τ2 (fun b υ => υ.1 209 0 = k ∧ (k = 0 → b = r) ∧ RU τ2 υ) (fun _ _ => False) (hA τ2 hF _ _ (fun b υ e1 e2 e3 => ⟨e1, e2, e3⟩))) dL_law_903 rfl cl7 kd_209 wq_1541 wq_1540 rfl wq_1539 wq_1542 wd_95 yd_X5_run ⟨Nat.le_trans (Nat.le_of_ble_eq_true rfl) hL.1, Nat.le_trans (Nat.le_of_ble_eq_true rfl) hL.2.1⟩ (Nat.le_of_ble_eq_true rfl) ⟨by have := hL.2.2.1; omega, by have := hL.2.2.2; omega⟩ (fun b υ h => ?_)
  obtain ⟨hk, hb, hU⟩ := h
  refine r_istore C 908 [(7, .int b), (6, .int k), (5, .int i), (4, .ref 234), (3, .ref 233), (2, .ref 209), (1, .ref 0), (0, .ref 1003)] dL_law_906 rfl (by decide) rfl ?_
  refine r_aload_n C 909 (j := 5) dL_law_908 rfl rfl ?_
  refine r_lVI (as := []) (S := []) C 912 (ct_X5_thrown υ (fun t ω => t = υ.1 209 0 ∧ ω = υ) (fun _ _ => False) ⟨rfl, rfl⟩) dL_law_909 rfl cl7 kd_209 wq_1314 wq_1313 rfl wq_1312 wq_1315 wd_95 yd_X5_thrown ⟨Nat.le_trans (Nat.le_of_ble_eq_true rfl) hL.1, Nat.le_trans (Nat.le_of_ble_eq_true rfl) hL.2.1⟩ (Nat.le_of_ble_eq_true rfl) ⟨by have := hL.2.2.1; omega, by have := hL.2.2.2; omega⟩ (fun t ω h => ?_)
  obtain ⟨rfl, rfl⟩ := h
  refine r_iload C 914 (j := 1) dL_law_912 rfl rfl ?_
  refine r_icmp_eq C 919 917 dL_law_914 (by decide) rfl (fun _ => ?_) (fun z => absurd hk z)
  refine r_iload C 921 (j := 1) dL_law_919 rfl rfl ?_
  refine r_if_ne C 936 924 dL_law_921 (by decide) rfl (fun _ => r_goto C 2348 dL_law_936 (by decide) (Ws_sub (L' := LL i) (fun q hq => List.mem_cons_of_mem _ (List.mem_cons_of_mem _ (hq))) (hc _ _ (by omega) hU.1))) (fun z => ?_)
  have hk0 : k = 0 := z
  refine r_aload_n C 925 (j := 4) dL_law_924 rfl rfl ?_
  refine r_iconst C 926 (v := 0) dL_law_925 rfl (by decide) ?_
  refine r_lald C 927 dL_law_926 rfl kd_233 (by unfold vp_in; decide) ?_
  refine r_iload C 929 (j := 0) dL_law_927 rfl rfl ?_
  refine r_i2l C 930 dL_law_929 rfl ?_
  exact r_lcmp_eq C 931 936 934 dL_law_930 rfl dL_law_931 (by decide) rfl (fun _ => r_goto C 2348 dL_law_936 (by decide) (Ws_sub (L' := LL i) (fun q hq => List.mem_cons_of_mem _ (List.mem_cons_of_mem _ (hq))) (hc _ _ (by omega) hU.1))) (fun w => absurd (by rw [show (0 : Int32).toNatClampNeg = 0 from rfl, hU.2, hO hk0, hb hk0]) w)
theorem st_11 {x : Ctx} {n : Nat} {i : Int32} {σ : Mem} {Len : Nat} {xs : Nat → Int32} (C : Cx x RL cL_law 10) (Sc : Scr x Len xs) (hL : Lw x n) (hin : ∀ c : Nat, c ≤ 4 → vp_in (i + Int32.ofNat c) Len) (hR : Rel σ) (hc : ∀ υ n', n' ≤ n + 4 → Rel υ → Ws x n' 2348 (LL i) [] υ) : Ws x n 939 (LL i) [] σ := by
  show Ws x n 939 [(5, .int i), (4, .ref 234), (3, .ref 233), (2, .ref 209), (1, .ref 0), (0, .ref 1003)] [] σ
  refine r_aload_n C 940 (j := 4) dL_law_939 rfl rfl ?_
  refine r_lVI (as := []) (S := []) C 943 (ct_X4_faultPosition σ (fun r τ => AnI sp_X5_faultPosition 0 r τ) (fun _ _ => False) (q_faultPosition hR (fun r τ hA => hA))) dL_law_940 rfl cl6 kd_0 wq_403 wq_402 rfl wq_401 wq_404 wd_90 yd_X4_faultPosition ⟨Nat.le_trans (Nat.le_of_ble_eq_true rfl) hL.1, Nat.le_trans (Nat.le_of_ble_eq_true rfl) hL.2.1⟩ (Nat.le_of_ble_eq_true rfl) ⟨by have := hL.2.2.1; omega, by have := hL.2.2.2; omega⟩ (fun r τ hA => ?_)
  refine r_aload_n C 944 (j := 3) dL_law_943 rfl rfl ?_
  refine r_lVI (as := []) (S := [.int r]) C 947 (ct_X5_faultPosition τ (fun b υ => b = r ∧ Rel υ) (fun _ _ => False) (hA τ (FO.rfl' _) _ _ (fun b υ e1 e2 e3 => ⟨e2 rfl, e3.1⟩))) dL_law_944 rfl cl7 kd_209 wq_1573 wq_1572 rfl wq_1571 wq_1574 wd_95 yd_X5_faultPosition ⟨Nat.le_trans (Nat.le_of_ble_eq_true rfl) hL.1, Nat.le_trans (Nat.le_of_ble_eq_true rfl) hL.2.1⟩ (Nat.le_of_ble_eq_true rfl) ⟨by have := hL.2.2.1; omega, by have := hL.2.2.2; omega⟩ (fun b υ h => ?_)
  obtain ⟨rfl, hRe⟩ := h
  exact r_icmp_eq C 2348 950 dL_law_947 (by decide) rfl (fun _ => hc _ _ (by omega) hRe) (fun z => absurd rfl z)
theorem st_12 {x : Ctx} {n : Nat} {i : Int32} {σ : Mem} {Len : Nat} {xs : Nat → Int32} (C : Cx x RL cL_law 10) (Sc : Scr x Len xs) (hL : Lw x n) (hin : ∀ c : Nat, c ≤ 4 → vp_in (i + Int32.ofNat c) Len) (hR : Rel σ) (hc : ∀ υ n', n' ≤ n + 4 → Rel υ → Ws x n' 2348 (LL i) [] υ) : Ws x n 952 (LL i) [] σ := by
  show Ws x n 952 [(5, .int i), (4, .ref 234), (3, .ref 233), (2, .ref 209), (1, .ref 0), (0, .ref 1003)] [] σ
  refine r_aload_n C 953 (j := 4) dL_law_952 rfl rfl ?_
  refine r_aload_n C 954 (j := 2) dL_law_953 rfl rfl ?_
  refine r_lW (b := 0) (as := [.ref 0, .ref 233]) (S := []) C 957 (cw_refusal  σ (KwI sp_X5_refusal) (q_refusal hR (fun r τ hA => KwI.a hA) (fun τ hA => ⟨rfl, KwI.b (by decide) hA⟩))) dL_law_954 rfl wq_997 wq_996 wq_998 wd_89 yd_L_refusal ⟨Nat.le_trans (Nat.le_of_ble_eq_true rfl) hL.1, Nat.le_trans (Nat.le_of_ble_eq_true rfl) hL.2.1⟩ (Nat.le_of_ble_eq_true rfl) ⟨by have := hL.2.2.1; omega, by have := hL.2.2.2; omega⟩ (fun k τ2 h => ?_)
  obtain ⟨r, τ, hF, hA, hO⟩ := h
  refine r_istore C 959 [(6, .int k), (5, .int i), (4, .ref 234), (3, .ref 233), (2, .ref 209), (1, .ref 0), (0, .ref 1003)] dL_law_957 rfl (by decide) rfl ?_
  refine r_aload_n C 960 (j := 4) dL_law_959 rfl rfl ?_
  refine r_lVI (as := []) (S := []) C 963 (ct_X5_refusal  τ2 (fun b υ => υ.1 209 0 = k ∧ (k = 0 → b = r) ∧ RU τ2 υ) (fun _ _ => False) (hA τ2 hF _ _ (fun b υ e1 e2 e3 => ⟨e1, e2, e3⟩))) dL_law_960 rfl cl7 kd_209 wq_1577 wq_1576 rfl wq_1575 wq_1578 wd_95 yd_X5_refusal ⟨Nat.le_trans (Nat.le_of_ble_eq_true rfl) hL.1, Nat.le_trans (Nat.le_of_ble_eq_true rfl) hL.2.1⟩ (Nat.le_of_ble_eq_true rfl) ⟨by have := hL.2.2.1; omega, by have := hL.2.2.2; omega⟩ (fun b υ h => ?_)
  obtain ⟨hk, hb, hU⟩ := h
  refine r_istore C 965 [(7, .int b), (6, .int k), (5, .int i), (4, .ref 234), (3, .ref 233), (2, .ref 209), (1, .ref 0), (0, .ref 1003)] dL_law_963 rfl (by decide) rfl ?_
  refine r_aload_n C 966 (j := 5) dL_law_965 rfl rfl ?_
  refine r_lVI (as := []) (S := []) C 969 (ct_X5_thrown υ (fun t ω => t = υ.1 209 0 ∧ ω = υ) (fun _ _ => False) ⟨rfl, rfl⟩) dL_law_966 rfl cl7 kd_209 wq_1314 wq_1313 rfl wq_1312 wq_1315 wd_95 yd_X5_thrown ⟨Nat.le_trans (Nat.le_of_ble_eq_true rfl) hL.1, Nat.le_trans (Nat.le_of_ble_eq_true rfl) hL.2.1⟩ (Nat.le_of_ble_eq_true rfl) ⟨by have := hL.2.2.1; omega, by have := hL.2.2.2; omega⟩ (fun t ω h => ?_)
  obtain ⟨rfl, rfl⟩ := h
  refine r_iload C 971 (j := 1) dL_law_969 rfl rfl ?_
  refine r_icmp_eq C 976 974 dL_law_971 (by decide) rfl (fun _ => ?_) (fun z => absurd hk z)
  refine r_iload C 978 (j := 1) dL_law_976 rfl rfl ?_
  refine r_if_ne C 993 981 dL_law_978 (by decide) rfl (fun _ => r_goto C 2348 dL_law_993 (by decide) (Ws_sub (L' := LL i) (fun q hq => List.mem_cons_of_mem _ (List.mem_cons_of_mem _ (hq))) (hc _ _ (by omega) hU.1))) (fun z => ?_)
  have hk0 : k = 0 := z
  refine r_aload_n C 982 (j := 4) dL_law_981 rfl rfl ?_
  refine r_iconst C 983 (v := 0) dL_law_982 rfl (by decide) ?_
  refine r_lald C 984 dL_law_983 rfl kd_233 (by unfold vp_in; decide) ?_
  refine r_iload C 986 (j := 0) dL_law_984 rfl rfl ?_
  refine r_i2l C 987 dL_law_986 rfl ?_
  exact r_lcmp_eq C 988 993 991 dL_law_987 rfl dL_law_988 (by decide) rfl (fun _ => r_goto C 2348 dL_law_993 (by decide) (Ws_sub (L' := LL i) (fun q hq => List.mem_cons_of_mem _ (List.mem_cons_of_mem _ (hq))) (hc _ _ (by omega) hU.1))) (fun w => absurd (by rw [show (0 : Int32).toNatClampNeg = 0 from rfl, hU.2, hO hk0, hb hk0]) w)
theorem st_13 {x : Ctx} {n : Nat} {i : Int32} {σ : Mem} {Len : Nat} {xs : Nat → Int32} (C : Cx x RL cL_law 10) (Sc : Scr x Len xs) (hL : Lw x n) (hin : ∀ c : Nat, c ≤ 4 → vp_in (i + Int32.ofNat c) Len) (hR : Rel σ) (hc : ∀ υ n', n' ≤ n + 4 → Rel υ → Ws x n' 2348 (LL i) [] υ) : Ws x n 996 (LL i) [] σ := by
  show Ws x n 996 [(5, .int i), (4, .ref 234), (3, .ref 233), (2, .ref 209), (1, .ref 0), (0, .ref 1003)] [] σ
  refine r_aload_n C 997 (j := 4) dL_law_996 rfl rfl ?_
  refine r_scr (j0 := 5) (j5 := 0) C Sc 1003 1 dL_law_997 dL_law_998 dL_law_1000 dL_law_1001 dL_law_1002 rfl rfl rfl rfl (hin 1 (by decide)) ?_
  refine r_scr (j0 := 5) (j5 := 0) C Sc 1009 2 dL_law_1003 dL_law_1004 dL_law_1006 dL_law_1007 dL_law_1008 rfl rfl rfl rfl (hin 2 (by decide)) ?_
  refine r_aload_n C 1010 (j := 2) dL_law_1009 rfl rfl ?_
  refine r_lW (b := 0) (as := [.ref 0, .int (xs (i + 1).toNatClampNeg), .int (xs (i + 2).toNatClampNeg), .ref 233]) (S := []) C 1013 (cw_pipe _ _ σ (KwI (sp_X5_pipe (xs (i + 1).toNatClampNeg) (xs (i + 2).toNatClampNeg))) (q_pipe hR (fun r τ hA => KwI.a hA) (fun τ hA => .inl ⟨rfl, KwI.b (by decide) hA⟩) (fun τ hA => .inr ⟨rfl, KwI.b (by decide) hA⟩))) dL_law_1010 rfl wq_1005 wq_1004 wq_1006 wd_89 yd_L_pipe ⟨Nat.le_trans (Nat.le_of_ble_eq_true rfl) hL.1, Nat.le_trans (Nat.le_of_ble_eq_true rfl) hL.2.1⟩ (Nat.le_of_ble_eq_true rfl) ⟨by have := hL.2.2.1; omega, by have := hL.2.2.2; omega⟩ (fun k τ2 h => ?_)
  obtain ⟨r, τ, hF, hA, hO⟩ := h
  refine r_istore C 1015 [(6, .int k), (5, .int i), (4, .ref 234), (3, .ref 233), (2, .ref 209), (1, .ref 0), (0, .ref 1003)] dL_law_1013 rfl (by decide) rfl ?_
  refine r_aload_n C 1016 (j := 4) dL_law_1015 rfl rfl ?_
  refine r_scr (j0 := 6) (j5 := 1) C Sc 1022 1 dL_law_1016 dL_law_1017 dL_law_1019 dL_law_1020 dL_law_1021 rfl rfl rfl rfl (hin 1 (by decide)) ?_
  refine r_scr (j0 := 6) (j5 := 1) C Sc 1028 2 dL_law_1022 dL_law_1023 dL_law_1025 dL_law_1026 dL_law_1027 rfl rfl rfl rfl (hin 2 (by decide)) ?_
  refine r_lVI (as := [.int (xs (i + 1).toNatClampNeg), .int (xs (i + 2).toNatClampNeg)]) (S := []) C 1031 (ct_X5_pipe _ _ τ2 (fun b υ => υ.1 209 0 = k ∧ (k = 0 → b = r) ∧ RU τ2 υ) (fun _ _ => False) (hA τ2 hF _ _ (fun b υ e1 e2 e3 => ⟨e1, e2, e3⟩))) dL_law_1028 rfl cl7 kd_209 wq_1581 wq_1580 rfl wq_1579 wq_1582 wd_95 yd_X5_pipe ⟨Nat.le_trans (Nat.le_of_ble_eq_true rfl) hL.1, Nat.le_trans (Nat.le_of_ble_eq_true rfl) hL.2.1⟩ (Nat.le_of_ble_eq_true rfl) ⟨by have := hL.2.2.1; omega, by have := hL.2.2.2; omega⟩ (fun b υ h => ?_)
  obtain ⟨hk, hb, hU⟩ := h
  refine r_istore C 1033 [(7, .int b), (6, .int k), (5, .int i), (4, .ref 234), (3, .ref 233), (2, .ref 209), (1, .ref 0), (0, .ref 1003)] dL_law_1031 rfl (by decide) rfl ?_
  refine r_aload_n C 1034 (j := 5) dL_law_1033 rfl rfl ?_
  refine r_lVI (as := []) (S := []) C 1037 (ct_X5_thrown υ (fun t ω => t = υ.1 209 0 ∧ ω = υ) (fun _ _ => False) ⟨rfl, rfl⟩) dL_law_1034 rfl cl7 kd_209 wq_1314 wq_1313 rfl wq_1312 wq_1315 wd_95 yd_X5_thrown ⟨Nat.le_trans (Nat.le_of_ble_eq_true rfl) hL.1, Nat.le_trans (Nat.le_of_ble_eq_true rfl) hL.2.1⟩ (Nat.le_of_ble_eq_true rfl) ⟨by have := hL.2.2.1; omega, by have := hL.2.2.2; omega⟩ (fun t ω h => ?_)
  obtain ⟨rfl, rfl⟩ := h
  refine r_iload C 1039 (j := 1) dL_law_1037 rfl rfl ?_
  refine r_icmp_eq C 1044 1042 dL_law_1039 (by decide) rfl (fun _ => ?_) (fun z => absurd hk z)
  refine r_iload C 1046 (j := 1) dL_law_1044 rfl rfl ?_
  refine r_if_ne C 1061 1049 dL_law_1046 (by decide) rfl (fun _ => r_goto C 2348 dL_law_1061 (by decide) (Ws_sub (L' := LL i) (fun q hq => List.mem_cons_of_mem _ (List.mem_cons_of_mem _ (hq))) (hc _ _ (by omega) hU.1))) (fun z => ?_)
  have hk0 : k = 0 := z
  refine r_aload_n C 1050 (j := 4) dL_law_1049 rfl rfl ?_
  refine r_iconst C 1051 (v := 0) dL_law_1050 rfl (by decide) ?_
  refine r_lald C 1052 dL_law_1051 rfl kd_233 (by unfold vp_in; decide) ?_
  refine r_iload C 1054 (j := 0) dL_law_1052 rfl rfl ?_
  refine r_i2l C 1055 dL_law_1054 rfl ?_
  exact r_lcmp_eq C 1056 1061 1059 dL_law_1055 rfl dL_law_1056 (by decide) rfl (fun _ => r_goto C 2348 dL_law_1061 (by decide) (Ws_sub (L' := LL i) (fun q hq => List.mem_cons_of_mem _ (List.mem_cons_of_mem _ (hq))) (hc _ _ (by omega) hU.1))) (fun w => absurd (by rw [show (0 : Int32).toNatClampNeg = 0 from rfl, hU.2, hO hk0, hb hk0]) w)
theorem st_14 {x : Ctx} {n : Nat} {i : Int32} {σ : Mem} {Len : Nat} {xs : Nat → Int32} (C : Cx x RL cL_law 10) (Sc : Scr x Len xs) (hL : Lw x n) (hin : ∀ c : Nat, c ≤ 4 → vp_in (i + Int32.ofNat c) Len) (hR : Rel σ) (hc : ∀ υ n', n' ≤ n + 4 → Rel υ → Ws x n' 2348 (LL i) [] υ) : Ws x n 1064 (LL i) [] σ := by
  show Ws x n 1064 [(5, .int i), (4, .ref 234), (3, .ref 233), (2, .ref 209), (1, .ref 0), (0, .ref 1003)] [] σ
  refine r_aload_n C 1065 (j := 4) dL_law_1064 rfl rfl ?_
  refine r_scr (j0 := 5) (j5 := 0) C Sc 1071 1 dL_law_1065 dL_law_1066 dL_law_1068 dL_law_1069 dL_law_1070 rfl rfl rfl rfl (hin 1 (by decide)) ?_
  refine r_scr (j0 := 5) (j5 := 0) C Sc 1077 2 dL_law_1071 dL_law_1072 dL_law_1074 dL_law_1075 dL_law_1076 rfl rfl rfl rfl (hin 2 (by decide)) ?_
  refine r_aload_n C 1078 (j := 2) dL_law_1077 rfl rfl ?_
  refine r_lW (b := 0) (as := [.ref 0, .int (xs (i + 1).toNatClampNeg), .int (xs (i + 2).toNatClampNeg), .ref 233]) (S := []) C 1081 (cw_station _ _ σ (KwI (sp_X5_station (xs (i + 1).toNatClampNeg) (xs (i + 2).toNatClampNeg))) (q_station hR (fun r τ hA => KwI.a hA) (fun τ hA => .inl ⟨rfl, KwI.b (by decide) hA⟩) (fun τ hA => .inr ⟨rfl, KwI.b (by decide) hA⟩))) dL_law_1078 rfl wq_1012 wq_1011 wq_1013 wd_89 yd_L_station ⟨Nat.le_trans (Nat.le_of_ble_eq_true rfl) hL.1, Nat.le_trans (Nat.le_of_ble_eq_true rfl) hL.2.1⟩ (Nat.le_of_ble_eq_true rfl) ⟨by have := hL.2.2.1; omega, by have := hL.2.2.2; omega⟩ (fun k τ2 h => ?_)
  obtain ⟨r, τ, hF, hA, hO⟩ := h
  refine r_istore C 1083 [(6, .int k), (5, .int i), (4, .ref 234), (3, .ref 233), (2, .ref 209), (1, .ref 0), (0, .ref 1003)] dL_law_1081 rfl (by decide) rfl ?_
  refine r_aload_n C 1084 (j := 4) dL_law_1083 rfl rfl ?_
  refine r_scr (j0 := 6) (j5 := 1) C Sc 1090 1 dL_law_1084 dL_law_1085 dL_law_1087 dL_law_1088 dL_law_1089 rfl rfl rfl rfl (hin 1 (by decide)) ?_
  refine r_scr (j0 := 6) (j5 := 1) C Sc 1096 2 dL_law_1090 dL_law_1091 dL_law_1093 dL_law_1094 dL_law_1095 rfl rfl rfl rfl (hin 2 (by decide)) ?_
  refine r_lVI (as := [.int (xs (i + 1).toNatClampNeg), .int (xs (i + 2).toNatClampNeg)]) (S := []) C 1099 (ct_X5_station _ _ τ2 (fun b υ => υ.1 209 0 = k ∧ (k = 0 → b = r) ∧ RU τ2 υ) (fun _ _ => False) (hA τ2 hF _ _ (fun b υ e1 e2 e3 => ⟨e1, e2, e3⟩))) dL_law_1096 rfl cl7 kd_209 wq_1585 wq_1584 rfl wq_1583 wq_1586 wd_95 yd_X5_station ⟨Nat.le_trans (Nat.le_of_ble_eq_true rfl) hL.1, Nat.le_trans (Nat.le_of_ble_eq_true rfl) hL.2.1⟩ (Nat.le_of_ble_eq_true rfl) ⟨by have := hL.2.2.1; omega, by have := hL.2.2.2; omega⟩ (fun b υ h => ?_)
  obtain ⟨hk, hb, hU⟩ := h
  refine r_istore C 1101 [(7, .int b), (6, .int k), (5, .int i), (4, .ref 234), (3, .ref 233), (2, .ref 209), (1, .ref 0), (0, .ref 1003)] dL_law_1099 rfl (by decide) rfl ?_
  refine r_aload_n C 1102 (j := 5) dL_law_1101 rfl rfl ?_
  refine r_lVI (as := []) (S := []) C 1105 (ct_X5_thrown υ (fun t ω => t = υ.1 209 0 ∧ ω = υ) (fun _ _ => False) ⟨rfl, rfl⟩) dL_law_1102 rfl cl7 kd_209 wq_1314 wq_1313 rfl wq_1312 wq_1315 wd_95 yd_X5_thrown ⟨Nat.le_trans (Nat.le_of_ble_eq_true rfl) hL.1, Nat.le_trans (Nat.le_of_ble_eq_true rfl) hL.2.1⟩ (Nat.le_of_ble_eq_true rfl) ⟨by have := hL.2.2.1; omega, by have := hL.2.2.2; omega⟩ (fun t ω h => ?_)
  obtain ⟨rfl, rfl⟩ := h
  refine r_iload C 1107 (j := 1) dL_law_1105 rfl rfl ?_
  refine r_icmp_eq C 1112 1110 dL_law_1107 (by decide) rfl (fun _ => ?_) (fun z => absurd hk z)
  refine r_iload C 1114 (j := 1) dL_law_1112 rfl rfl ?_
  refine r_if_ne C 1129 1117 dL_law_1114 (by decide) rfl (fun _ => r_goto C 2348 dL_law_1129 (by decide) (Ws_sub (L' := LL i) (fun q hq => List.mem_cons_of_mem _ (List.mem_cons_of_mem _ (hq))) (hc _ _ (by omega) hU.1))) (fun z => ?_)
  have hk0 : k = 0 := z
  refine r_aload_n C 1118 (j := 4) dL_law_1117 rfl rfl ?_
  refine r_iconst C 1119 (v := 0) dL_law_1118 rfl (by decide) ?_
  refine r_lald C 1120 dL_law_1119 rfl kd_233 (by unfold vp_in; decide) ?_
  refine r_iload C 1122 (j := 0) dL_law_1120 rfl rfl ?_
  refine r_i2l C 1123 dL_law_1122 rfl ?_
  exact r_lcmp_eq C 1124 1129 1127 dL_law_1123 rfl dL_law_1124 (by decide) rfl (fun _ => r_goto C 2348 dL_law_1129 (by decide) (Ws_sub (L' := LL i) (fun q hq => List.mem_cons_of_mem _ (List.mem_cons_of_mem _ (hq))) (hc _ _ (by omega) hU.1))) (fun w => absurd (by rw [show (0 : Int32).toNatClampNeg = 0 from rfl, hU.2, hO hk0, hb hk0]) w)
theorem st_15 {x : Ctx} {n : Nat} {i : Int32} {σ : Mem} {Len : Nat} {xs : Nat → Int32} (C : Cx x RL cL_law 10) (Sc : Scr x Len xs) (hL : Lw x n) (hin : ∀ c : Nat, c ≤ 4 → vp_in (i + Int32.ofNat c) Len) (hR : Rel σ) (hc : ∀ υ n', n' ≤ n + 4 → Rel υ → Ws x n' 2348 (LL i) [] υ) : Ws x n 1132 (LL i) [] σ := by
  show Ws x n 1132 [(5, .int i), (4, .ref 234), (3, .ref 233), (2, .ref 209), (1, .ref 0), (0, .ref 1003)] [] σ
  refine r_aload_n C 1133 (j := 4) dL_law_1132 rfl rfl ?_
  refine r_scr (j0 := 5) (j5 := 0) C Sc 1139 1 dL_law_1133 dL_law_1134 dL_law_1136 dL_law_1137 dL_law_1138 rfl rfl rfl rfl (hin 1 (by decide)) ?_
  refine r_scr (j0 := 5) (j5 := 0) C Sc 1145 2 dL_law_1139 dL_law_1140 dL_law_1142 dL_law_1143 dL_law_1144 rfl rfl rfl rfl (hin 2 (by decide)) ?_
  refine r_aload_n C 1146 (j := 2) dL_law_1145 rfl rfl ?_
  refine r_lW (b := 0) (as := [.ref 0, .int (xs (i + 1).toNatClampNeg), .int (xs (i + 2).toNatClampNeg), .ref 233]) (S := []) C 1149 (cw_meter _ _ σ (KwL (sp_X5_meter (xs (i + 1).toNatClampNeg) (xs (i + 2).toNatClampNeg))) (q_meter hR (fun r τ hA => KwL.a hA) (fun τ hA => .inl ⟨rfl, KwL.b (by decide) hA⟩) (fun τ hA => .inr ⟨rfl, KwL.b (by decide) hA⟩))) dL_law_1146 rfl wq_1021 wq_1020 wq_1022 wd_89 yd_L_meter ⟨Nat.le_trans (Nat.le_of_ble_eq_true rfl) hL.1, Nat.le_trans (Nat.le_of_ble_eq_true rfl) hL.2.1⟩ (Nat.le_of_ble_eq_true rfl) ⟨by have := hL.2.2.1; omega, by have := hL.2.2.2; omega⟩ (fun k τ2 h => ?_)
  obtain ⟨r, τ, hF, hA, hO⟩ := h
  refine r_istore C 1151 [(6, .int k), (5, .int i), (4, .ref 234), (3, .ref 233), (2, .ref 209), (1, .ref 0), (0, .ref 1003)] dL_law_1149 rfl (by decide) rfl ?_
  refine r_aload_n C 1152 (j := 4) dL_law_1151 rfl rfl ?_
  refine r_scr (j0 := 6) (j5 := 1) C Sc 1158 1 dL_law_1152 dL_law_1153 dL_law_1155 dL_law_1156 dL_law_1157 rfl rfl rfl rfl (hin 1 (by decide)) ?_
  refine r_scr (j0 := 6) (j5 := 1) C Sc 1164 2 dL_law_1158 dL_law_1159 dL_law_1161 dL_law_1162 dL_law_1163 rfl rfl rfl rfl (hin 2 (by decide)) ?_
  refine r_lVL (as := [.int (xs (i + 1).toNatClampNeg), .int (xs (i + 2).toNatClampNeg)]) (S := []) C 1167 (ct_X5_meter _ _ τ2 (fun b υ => υ.1 209 0 = k ∧ (k = 0 → b = r) ∧ RU τ2 υ) (fun _ _ => False) (hA τ2 hF _ _ (fun b υ e1 e2 e3 => ⟨e1, e2, e3⟩))) dL_law_1164 rfl cl7 kd_209 wq_1589 wq_1588 rfl wq_1587 wq_1590 wd_95 yd_X5_meter ⟨Nat.le_trans (Nat.le_of_ble_eq_true rfl) hL.1, Nat.le_trans (Nat.le_of_ble_eq_true rfl) hL.2.1⟩ (Nat.le_of_ble_eq_true rfl) ⟨by have := hL.2.2.1; omega, by have := hL.2.2.2; omega⟩ (fun b υ h => ?_)
  obtain ⟨hk, hb, hU⟩ := h
  refine r_lstore C 1169 [(7, .long b), (6, .int k), (5, .int i), (4, .ref 234), (3, .ref 233), (2, .ref 209), (1, .ref 0), (0, .ref 1003)] dL_law_1167 rfl (by decide) rfl ?_
  refine r_aload_n C 1170 (j := 5) dL_law_1169 rfl rfl ?_
  refine r_lVI (as := []) (S := []) C 1173 (ct_X5_thrown υ (fun t ω => t = υ.1 209 0 ∧ ω = υ) (fun _ _ => False) ⟨rfl, rfl⟩) dL_law_1170 rfl cl7 kd_209 wq_1314 wq_1313 rfl wq_1312 wq_1315 wd_95 yd_X5_thrown ⟨Nat.le_trans (Nat.le_of_ble_eq_true rfl) hL.1, Nat.le_trans (Nat.le_of_ble_eq_true rfl) hL.2.1⟩ (Nat.le_of_ble_eq_true rfl) ⟨by have := hL.2.2.1; omega, by have := hL.2.2.2; omega⟩ (fun t ω h => ?_)
  obtain ⟨rfl, rfl⟩ := h
  refine r_iload C 1175 (j := 1) dL_law_1173 rfl rfl ?_
  refine r_icmp_eq C 1180 1178 dL_law_1175 (by decide) rfl (fun _ => ?_) (fun z => absurd hk z)
  refine r_iload C 1182 (j := 1) dL_law_1180 rfl rfl ?_
  refine r_if_ne C 1196 1185 dL_law_1182 (by decide) rfl (fun _ => r_goto C 2348 dL_law_1196 (by decide) (Ws_sub (L' := LL i) (fun q hq => List.mem_cons_of_mem _ (List.mem_cons_of_mem _ (hq))) (hc _ _ (by omega) hU.1))) (fun z => ?_)
  have hk0 : k = 0 := z
  refine r_aload_n C 1186 (j := 4) dL_law_1185 rfl rfl ?_
  refine r_iconst C 1187 (v := 0) dL_law_1186 rfl (by decide) ?_
  refine r_lald C 1188 dL_law_1187 rfl kd_233 (by unfold vp_in; decide) ?_
  refine r_lload C 1190 (j := 0) dL_law_1188 rfl rfl ?_
  exact r_lcmp_eq C 1191 1196 1194 dL_law_1190 rfl dL_law_1191 (by decide) rfl (fun _ => r_goto C 2348 dL_law_1196 (by decide) (Ws_sub (L' := LL i) (fun q hq => List.mem_cons_of_mem _ (List.mem_cons_of_mem _ (hq))) (hc _ _ (by omega) hU.1))) (fun w => absurd (by rw [show (0 : Int32).toNatClampNeg = 0 from rfl, hU.2, hO hk0, hb hk0]) w)
theorem st_16 {x : Ctx} {n : Nat} {i : Int32} {σ : Mem} {Len : Nat} {xs : Nat → Int32} (C : Cx x RL cL_law 10) (Sc : Scr x Len xs) (hL : Lw x n) (hin : ∀ c : Nat, c ≤ 4 → vp_in (i + Int32.ofNat c) Len) (hR : Rel σ) (hc : ∀ υ n', n' ≤ n + 4 → Rel υ → Ws x n' 2348 (LL i) [] υ) : Ws x n 1199 (LL i) [] σ := by
  show Ws x n 1199 [(5, .int i), (4, .ref 234), (3, .ref 233), (2, .ref 209), (1, .ref 0), (0, .ref 1003)] [] σ
  refine r_aload_n C 1200 (j := 4) dL_law_1199 rfl rfl ?_
  refine r_scr (j0 := 5) (j5 := 0) C Sc 1206 1 dL_law_1200 dL_law_1201 dL_law_1203 dL_law_1204 dL_law_1205 rfl rfl rfl rfl (hin 1 (by decide)) ?_
  refine r_aload_n C 1207 (j := 2) dL_law_1206 rfl rfl ?_
  refine r_lW (b := 0) (as := [.ref 0, .int (xs (i + 1).toNatClampNeg), .ref 233]) (S := []) C 1210 (cw_flow _ σ (KwI (sp_X5_flow (xs (i + 1).toNatClampNeg))) (q_flow hR (fun r τ hA => KwI.a hA) (fun τ hA => ⟨rfl, KwI.b (by decide) hA⟩))) dL_law_1207 rfl wq_1028 wq_1027 wq_1029 wd_89 yd_L_flow ⟨Nat.le_trans (Nat.le_of_ble_eq_true rfl) hL.1, Nat.le_trans (Nat.le_of_ble_eq_true rfl) hL.2.1⟩ (Nat.le_of_ble_eq_true rfl) ⟨by have := hL.2.2.1; omega, by have := hL.2.2.2; omega⟩ (fun k τ2 h => ?_)
  obtain ⟨r, τ, hF, hA, hO⟩ := h
  refine r_istore C 1212 [(6, .int k), (5, .int i), (4, .ref 234), (3, .ref 233), (2, .ref 209), (1, .ref 0), (0, .ref 1003)] dL_law_1210 rfl (by decide) rfl ?_
  refine r_aload_n C 1213 (j := 4) dL_law_1212 rfl rfl ?_
  refine r_scr (j0 := 6) (j5 := 1) C Sc 1219 1 dL_law_1213 dL_law_1214 dL_law_1216 dL_law_1217 dL_law_1218 rfl rfl rfl rfl (hin 1 (by decide)) ?_
  refine r_lVI (as := [.int (xs (i + 1).toNatClampNeg)]) (S := []) C 1222 (ct_X5_flow _ τ2 (fun b υ => υ.1 209 0 = k ∧ (k = 0 → b = r) ∧ RU τ2 υ) (fun _ _ => False) (hA τ2 hF _ _ (fun b υ e1 e2 e3 => ⟨e1, e2, e3⟩))) dL_law_1219 rfl cl7 kd_209 wq_1593 wq_1592 rfl wq_1591 wq_1594 wd_95 yd_X5_flow ⟨Nat.le_trans (Nat.le_of_ble_eq_true rfl) hL.1, Nat.le_trans (Nat.le_of_ble_eq_true rfl) hL.2.1⟩ (Nat.le_of_ble_eq_true rfl) ⟨by have := hL.2.2.1; omega, by have := hL.2.2.2; omega⟩ (fun b υ h => ?_)
  obtain ⟨hk, hb, hU⟩ := h
  refine r_istore C 1224 [(7, .int b), (6, .int k), (5, .int i), (4, .ref 234), (3, .ref 233), (2, .ref 209), (1, .ref 0), (0, .ref 1003)] dL_law_1222 rfl (by decide) rfl ?_
  refine r_aload_n C 1225 (j := 5) dL_law_1224 rfl rfl ?_
  refine r_lVI (as := []) (S := []) C 1228 (ct_X5_thrown υ (fun t ω => t = υ.1 209 0 ∧ ω = υ) (fun _ _ => False) ⟨rfl, rfl⟩) dL_law_1225 rfl cl7 kd_209 wq_1314 wq_1313 rfl wq_1312 wq_1315 wd_95 yd_X5_thrown ⟨Nat.le_trans (Nat.le_of_ble_eq_true rfl) hL.1, Nat.le_trans (Nat.le_of_ble_eq_true rfl) hL.2.1⟩ (Nat.le_of_ble_eq_true rfl) ⟨by have := hL.2.2.1; omega, by have := hL.2.2.2; omega⟩ (fun t ω h => ?_)
  obtain ⟨rfl, rfl⟩ := h
  refine r_iload C 1230 (j := 1) dL_law_1228 rfl rfl ?_
  refine r_icmp_eq C 1235 1233 dL_law_1230 (by decide) rfl (fun _ => ?_) (fun z => absurd hk z)
  refine r_iload C 1237 (j := 1) dL_law_1235 rfl rfl ?_
  refine r_if_ne C 1252 1240 dL_law_1237 (by decide) rfl (fun _ => r_goto C 2348 dL_law_1252 (by decide) (Ws_sub (L' := LL i) (fun q hq => List.mem_cons_of_mem _ (List.mem_cons_of_mem _ (hq))) (hc _ _ (by omega) hU.1))) (fun z => ?_)
  have hk0 : k = 0 := z
  refine r_aload_n C 1241 (j := 4) dL_law_1240 rfl rfl ?_
  refine r_iconst C 1242 (v := 0) dL_law_1241 rfl (by decide) ?_
  refine r_lald C 1243 dL_law_1242 rfl kd_233 (by unfold vp_in; decide) ?_
  refine r_iload C 1245 (j := 0) dL_law_1243 rfl rfl ?_
  refine r_i2l C 1246 dL_law_1245 rfl ?_
  exact r_lcmp_eq C 1247 1252 1250 dL_law_1246 rfl dL_law_1247 (by decide) rfl (fun _ => r_goto C 2348 dL_law_1252 (by decide) (Ws_sub (L' := LL i) (fun q hq => List.mem_cons_of_mem _ (List.mem_cons_of_mem _ (hq))) (hc _ _ (by omega) hU.1))) (fun w => absurd (by rw [show (0 : Int32).toNatClampNeg = 0 from rfl, hU.2, hO hk0, hb hk0]) w)
theorem st_17 {x : Ctx} {n : Nat} {i : Int32} {σ : Mem} {Len : Nat} {xs : Nat → Int32} (C : Cx x RL cL_law 10) (Sc : Scr x Len xs) (hL : Lw x n) (hin : ∀ c : Nat, c ≤ 4 → vp_in (i + Int32.ofNat c) Len) (hR : Rel σ) (hc : ∀ υ n', n' ≤ n + 4 → Rel υ → Ws x n' 2348 (LL i) [] υ) : Ws x n 1255 (LL i) [] σ := by
  show Ws x n 1255 [(5, .int i), (4, .ref 234), (3, .ref 233), (2, .ref 209), (1, .ref 0), (0, .ref 1003)] [] σ
  refine r_aload_n C 1256 (j := 4) dL_law_1255 rfl rfl ?_
  refine r_scr (j0 := 5) (j5 := 0) C Sc 1262 1 dL_law_1256 dL_law_1257 dL_law_1259 dL_law_1260 dL_law_1261 rfl rfl rfl rfl (hin 1 (by decide)) ?_
  refine r_aload_n C 1263 (j := 2) dL_law_1262 rfl rfl ?_
  refine r_lW (b := 0) (as := [.ref 0, .int (xs (i + 1).toNatClampNeg), .ref 233]) (S := []) C 1266 (cw_direction _ σ (KwI (sp_X5_direction (xs (i + 1).toNatClampNeg))) (q_direction hR (fun r τ hA => KwI.a hA) (fun τ hA => ⟨rfl, KwI.b (by decide) hA⟩))) dL_law_1263 rfl wq_1035 wq_1034 wq_1036 wd_89 yd_L_direction ⟨Nat.le_trans (Nat.le_of_ble_eq_true rfl) hL.1, Nat.le_trans (Nat.le_of_ble_eq_true rfl) hL.2.1⟩ (Nat.le_of_ble_eq_true rfl) ⟨by have := hL.2.2.1; omega, by have := hL.2.2.2; omega⟩ (fun k τ2 h => ?_)
  obtain ⟨r, τ, hF, hA, hO⟩ := h
  refine r_istore C 1268 [(6, .int k), (5, .int i), (4, .ref 234), (3, .ref 233), (2, .ref 209), (1, .ref 0), (0, .ref 1003)] dL_law_1266 rfl (by decide) rfl ?_
  refine r_aload_n C 1269 (j := 4) dL_law_1268 rfl rfl ?_
  refine r_scr (j0 := 6) (j5 := 1) C Sc 1275 1 dL_law_1269 dL_law_1270 dL_law_1272 dL_law_1273 dL_law_1274 rfl rfl rfl rfl (hin 1 (by decide)) ?_
  refine r_lVI (as := [.int (xs (i + 1).toNatClampNeg)]) (S := []) C 1278 (ct_X5_direction _ τ2 (fun b υ => υ.1 209 0 = k ∧ (k = 0 → b = r) ∧ RU τ2 υ) (fun _ _ => False) (hA τ2 hF _ _ (fun b υ e1 e2 e3 => ⟨e1, e2, e3⟩))) dL_law_1275 rfl cl7 kd_209 wq_1597 wq_1596 rfl wq_1595 wq_1598 wd_95 yd_X5_direction ⟨Nat.le_trans (Nat.le_of_ble_eq_true rfl) hL.1, Nat.le_trans (Nat.le_of_ble_eq_true rfl) hL.2.1⟩ (Nat.le_of_ble_eq_true rfl) ⟨by have := hL.2.2.1; omega, by have := hL.2.2.2; omega⟩ (fun b υ h => ?_)
  obtain ⟨hk, hb, hU⟩ := h
  refine r_istore C 1280 [(7, .int b), (6, .int k), (5, .int i), (4, .ref 234), (3, .ref 233), (2, .ref 209), (1, .ref 0), (0, .ref 1003)] dL_law_1278 rfl (by decide) rfl ?_
  refine r_aload_n C 1281 (j := 5) dL_law_1280 rfl rfl ?_
  refine r_lVI (as := []) (S := []) C 1284 (ct_X5_thrown υ (fun t ω => t = υ.1 209 0 ∧ ω = υ) (fun _ _ => False) ⟨rfl, rfl⟩) dL_law_1281 rfl cl7 kd_209 wq_1314 wq_1313 rfl wq_1312 wq_1315 wd_95 yd_X5_thrown ⟨Nat.le_trans (Nat.le_of_ble_eq_true rfl) hL.1, Nat.le_trans (Nat.le_of_ble_eq_true rfl) hL.2.1⟩ (Nat.le_of_ble_eq_true rfl) ⟨by have := hL.2.2.1; omega, by have := hL.2.2.2; omega⟩ (fun t ω h => ?_)
  obtain ⟨rfl, rfl⟩ := h
  refine r_iload C 1286 (j := 1) dL_law_1284 rfl rfl ?_
  refine r_icmp_eq C 1291 1289 dL_law_1286 (by decide) rfl (fun _ => ?_) (fun z => absurd hk z)
  refine r_iload C 1293 (j := 1) dL_law_1291 rfl rfl ?_
  refine r_if_ne C 1308 1296 dL_law_1293 (by decide) rfl (fun _ => r_goto C 2348 dL_law_1308 (by decide) (Ws_sub (L' := LL i) (fun q hq => List.mem_cons_of_mem _ (List.mem_cons_of_mem _ (hq))) (hc _ _ (by omega) hU.1))) (fun z => ?_)
  have hk0 : k = 0 := z
  refine r_aload_n C 1297 (j := 4) dL_law_1296 rfl rfl ?_
  refine r_iconst C 1298 (v := 0) dL_law_1297 rfl (by decide) ?_
  refine r_lald C 1299 dL_law_1298 rfl kd_233 (by unfold vp_in; decide) ?_
  refine r_iload C 1301 (j := 0) dL_law_1299 rfl rfl ?_
  refine r_i2l C 1302 dL_law_1301 rfl ?_
  exact r_lcmp_eq C 1303 1308 1306 dL_law_1302 rfl dL_law_1303 (by decide) rfl (fun _ => r_goto C 2348 dL_law_1308 (by decide) (Ws_sub (L' := LL i) (fun q hq => List.mem_cons_of_mem _ (List.mem_cons_of_mem _ (hq))) (hc _ _ (by omega) hU.1))) (fun w => absurd (by rw [show (0 : Int32).toNatClampNeg = 0 from rfl, hU.2, hO hk0, hb hk0]) w)
theorem st_18a {x : Ctx} {n : Nat} {i : Int32} {σ : Mem} {Len : Nat} {xs : Nat → Int32} (C : Cx x RL cL_law 10) (Sc : Scr x Len xs) (hL : Lw x n) (hin : ∀ c : Nat, c ≤ 4 → vp_in (i + Int32.ofNat c) Len) (hR : Rel σ) (h0 : xs (i + 2).toNatClampNeg = 0) (hc : ∀ υ n', n' ≤ n + 4 → Rel υ → Ws x n' 2348 (LL i) [] υ) : Ws x n 1311 (LL i) [] σ := by
  show Ws x n 1311 [(5, .int i), (4, .ref 234), (3, .ref 233), (2, .ref 209), (1, .ref 0), (0, .ref 1003)] [] σ
  refine r_aload_n C 1312 (j := 4) dL_law_1311 rfl rfl ?_
  refine r_scr (j0 := 5) (j5 := 0) C Sc 1318 1 dL_law_1312 dL_law_1313 dL_law_1315 dL_law_1316 dL_law_1317 rfl rfl rfl rfl (hin 1 (by decide)) ?_
  refine r_scr (j0 := 5) (j5 := 0) C Sc 1324 2 dL_law_1318 dL_law_1319 dL_law_1321 dL_law_1322 dL_law_1323 rfl rfl rfl rfl (hin 2 (by decide)) ?_
  refine r_if_eq C 1331 1327 dL_law_1324 (by decide) rfl (fun _ => ?_) (fun h => absurd h0 h)
  refine r_iconst C 1332 (v := 0) dL_law_1331 rfl (by decide) ?_
  refine r_aload_n C 1333 (j := 2) dL_law_1332 rfl rfl ?_
  refine r_lW (b := 0) (as := [.ref 0, .int (xs (i + 1).toNatClampNeg), .int 0, .ref 233]) (S := []) C 1336 (cw_temperature _ _ σ (KwI (sp_X5_temperature (xs (i + 1).toNatClampNeg) 0)) (q_temperature hR (fun r τ hA => KwI.a hA) (fun τ hA => ⟨rfl, KwI.b (by decide) hA⟩))) dL_law_1333 rfl wq_1042 wq_1041 wq_1043 wd_89 yd_L_temperature ⟨Nat.le_trans (Nat.le_of_ble_eq_true rfl) hL.1, Nat.le_trans (Nat.le_of_ble_eq_true rfl) hL.2.1⟩ (Nat.le_of_ble_eq_true rfl) ⟨by have := hL.2.2.1; omega, by have := hL.2.2.2; omega⟩ (fun k τ2 h => ?_)
  obtain ⟨r, τ, hF, hA, hO⟩ := h
  refine r_istore C 1338 [(6, .int k), (5, .int i), (4, .ref 234), (3, .ref 233), (2, .ref 209), (1, .ref 0), (0, .ref 1003)] dL_law_1336 rfl (by decide) rfl ?_
  refine r_aload_n C 1339 (j := 4) dL_law_1338 rfl rfl ?_
  refine r_scr (j0 := 6) (j5 := 1) C Sc 1345 1 dL_law_1339 dL_law_1340 dL_law_1342 dL_law_1343 dL_law_1344 rfl rfl rfl rfl (hin 1 (by decide)) ?_
  refine r_scr (j0 := 6) (j5 := 1) C Sc 1351 2 dL_law_1345 dL_law_1346 dL_law_1348 dL_law_1349 dL_law_1350 rfl rfl rfl rfl (hin 2 (by decide)) ?_
  refine r_if_eq C 1358 1354 dL_law_1351 (by decide) rfl (fun _ => ?_) (fun h => absurd h0 h)
  refine r_iconst C 1359 (v := 0) dL_law_1358 rfl (by decide) ?_
  refine r_lVI (as := [.int (xs (i + 1).toNatClampNeg), .int 0]) (S := []) C 1362 (ct_X5_temperature _ _ τ2 (fun b υ => υ.1 209 0 = k ∧ (k = 0 → b = r) ∧ RU τ2 υ) (fun _ _ => False) (hA τ2 hF _ _ (fun b υ e1 e2 e3 => ⟨e1, e2, e3⟩))) dL_law_1359 rfl cl7 kd_209 wq_1601 wq_1600 rfl wq_1599 wq_1602 wd_95 yd_X5_temperature ⟨Nat.le_trans (Nat.le_of_ble_eq_true rfl) hL.1, Nat.le_trans (Nat.le_of_ble_eq_true rfl) hL.2.1⟩ (Nat.le_of_ble_eq_true rfl) ⟨by have := hL.2.2.1; omega, by have := hL.2.2.2; omega⟩ (fun b υ h => ?_)
  obtain ⟨hk, hb, hU⟩ := h
  refine r_istore C 1364 [(7, .int b), (6, .int k), (5, .int i), (4, .ref 234), (3, .ref 233), (2, .ref 209), (1, .ref 0), (0, .ref 1003)] dL_law_1362 rfl (by decide) rfl ?_
  refine r_aload_n C 1365 (j := 5) dL_law_1364 rfl rfl ?_
  refine r_lVI (as := []) (S := []) C 1368 (ct_X5_thrown υ (fun t ω => t = υ.1 209 0 ∧ ω = υ) (fun _ _ => False) ⟨rfl, rfl⟩) dL_law_1365 rfl cl7 kd_209 wq_1314 wq_1313 rfl wq_1312 wq_1315 wd_95 yd_X5_thrown ⟨Nat.le_trans (Nat.le_of_ble_eq_true rfl) hL.1, Nat.le_trans (Nat.le_of_ble_eq_true rfl) hL.2.1⟩ (Nat.le_of_ble_eq_true rfl) ⟨by have := hL.2.2.1; omega, by have := hL.2.2.2; omega⟩ (fun t ω h => ?_)
  obtain ⟨rfl, rfl⟩ := h
  refine r_iload C 1370 (j := 1) dL_law_1368 rfl rfl ?_
  refine r_icmp_eq C 1375 1373 dL_law_1370 (by decide) rfl (fun _ => ?_) (fun z => absurd hk z)
  refine r_iload C 1377 (j := 1) dL_law_1375 rfl rfl ?_
  refine r_if_ne C 1392 1380 dL_law_1377 (by decide) rfl (fun _ => r_goto C 2348 dL_law_1392 (by decide) (Ws_sub (L' := LL i) (fun q hq => List.mem_cons_of_mem _ (List.mem_cons_of_mem _ (hq))) (hc _ _ (by omega) hU.1))) (fun z => ?_)
  have hk0 : k = 0 := z
  refine r_aload_n C 1381 (j := 4) dL_law_1380 rfl rfl ?_
  refine r_iconst C 1382 (v := 0) dL_law_1381 rfl (by decide) ?_
  refine r_lald C 1383 dL_law_1382 rfl kd_233 (by unfold vp_in; decide) ?_
  refine r_iload C 1385 (j := 0) dL_law_1383 rfl rfl ?_
  refine r_i2l C 1386 dL_law_1385 rfl ?_
  exact r_lcmp_eq C 1387 1392 1390 dL_law_1386 rfl dL_law_1387 (by decide) rfl (fun _ => r_goto C 2348 dL_law_1392 (by decide) (Ws_sub (L' := LL i) (fun q hq => List.mem_cons_of_mem _ (List.mem_cons_of_mem _ (hq))) (hc _ _ (by omega) hU.1))) (fun w => absurd (by rw [show (0 : Int32).toNatClampNeg = 0 from rfl, hU.2, hO hk0, hb hk0]) w)
theorem st_18b {x : Ctx} {n : Nat} {i : Int32} {σ : Mem} {Len : Nat} {xs : Nat → Int32} (C : Cx x RL cL_law 10) (Sc : Scr x Len xs) (hL : Lw x n) (hin : ∀ c : Nat, c ≤ 4 → vp_in (i + Int32.ofNat c) Len) (hR : Rel σ) (h0 : ¬ xs (i + 2).toNatClampNeg = 0) (hc : ∀ υ n', n' ≤ n + 4 → Rel υ → Ws x n' 2348 (LL i) [] υ) : Ws x n 1311 (LL i) [] σ := by
  show Ws x n 1311 [(5, .int i), (4, .ref 234), (3, .ref 233), (2, .ref 209), (1, .ref 0), (0, .ref 1003)] [] σ
  refine r_aload_n C 1312 (j := 4) dL_law_1311 rfl rfl ?_
  refine r_scr (j0 := 5) (j5 := 0) C Sc 1318 1 dL_law_1312 dL_law_1313 dL_law_1315 dL_law_1316 dL_law_1317 rfl rfl rfl rfl (hin 1 (by decide)) ?_
  refine r_scr (j0 := 5) (j5 := 0) C Sc 1324 2 dL_law_1318 dL_law_1319 dL_law_1321 dL_law_1322 dL_law_1323 rfl rfl rfl rfl (hin 2 (by decide)) ?_
  refine r_if_eq C 1331 1327 dL_law_1324 (by decide) rfl (fun h => absurd h h0) (fun _ => ?_)
  refine r_iconst C 1328 (v := 1) dL_law_1327 rfl (by decide) ?_
  refine r_goto C 1332 dL_law_1328 (by decide) ?_
  refine r_aload_n C 1333 (j := 2) dL_law_1332 rfl rfl ?_
  refine r_lW (b := 0) (as := [.ref 0, .int (xs (i + 1).toNatClampNeg), .int 1, .ref 233]) (S := []) C 1336 (cw_temperature _ _ σ (KwI (sp_X5_temperature (xs (i + 1).toNatClampNeg) 1)) (q_temperature hR (fun r τ hA => KwI.a hA) (fun τ hA => ⟨rfl, KwI.b (by decide) hA⟩))) dL_law_1333 rfl wq_1042 wq_1041 wq_1043 wd_89 yd_L_temperature ⟨Nat.le_trans (Nat.le_of_ble_eq_true rfl) hL.1, Nat.le_trans (Nat.le_of_ble_eq_true rfl) hL.2.1⟩ (Nat.le_of_ble_eq_true rfl) ⟨by have := hL.2.2.1; omega, by have := hL.2.2.2; omega⟩ (fun k τ2 h => ?_)
  obtain ⟨r, τ, hF, hA, hO⟩ := h
  refine r_istore C 1338 [(6, .int k), (5, .int i), (4, .ref 234), (3, .ref 233), (2, .ref 209), (1, .ref 0), (0, .ref 1003)] dL_law_1336 rfl (by decide) rfl ?_
  refine r_aload_n C 1339 (j := 4) dL_law_1338 rfl rfl ?_
  refine r_scr (j0 := 6) (j5 := 1) C Sc 1345 1 dL_law_1339 dL_law_1340 dL_law_1342 dL_law_1343 dL_law_1344 rfl rfl rfl rfl (hin 1 (by decide)) ?_
  refine r_scr (j0 := 6) (j5 := 1) C Sc 1351 2 dL_law_1345 dL_law_1346 dL_law_1348 dL_law_1349 dL_law_1350 rfl rfl rfl rfl (hin 2 (by decide)) ?_
  refine r_if_eq C 1358 1354 dL_law_1351 (by decide) rfl (fun h => absurd h h0) (fun _ => ?_)
  refine r_iconst C 1355 (v := 1) dL_law_1354 rfl (by decide) ?_
  refine r_goto C 1359 dL_law_1355 (by decide) ?_
  refine r_lVI (as := [.int (xs (i + 1).toNatClampNeg), .int 1]) (S := []) C 1362 (ct_X5_temperature _ _ τ2 (fun b υ => υ.1 209 0 = k ∧ (k = 0 → b = r) ∧ RU τ2 υ) (fun _ _ => False) (hA τ2 hF _ _ (fun b υ e1 e2 e3 => ⟨e1, e2, e3⟩))) dL_law_1359 rfl cl7 kd_209 wq_1601 wq_1600 rfl wq_1599 wq_1602 wd_95 yd_X5_temperature ⟨Nat.le_trans (Nat.le_of_ble_eq_true rfl) hL.1, Nat.le_trans (Nat.le_of_ble_eq_true rfl) hL.2.1⟩ (Nat.le_of_ble_eq_true rfl) ⟨by have := hL.2.2.1; omega, by have := hL.2.2.2; omega⟩ (fun b υ h => ?_)
  obtain ⟨hk, hb, hU⟩ := h
  refine r_istore C 1364 [(7, .int b), (6, .int k), (5, .int i), (4, .ref 234), (3, .ref 233), (2, .ref 209), (1, .ref 0), (0, .ref 1003)] dL_law_1362 rfl (by decide) rfl ?_
  refine r_aload_n C 1365 (j := 5) dL_law_1364 rfl rfl ?_
  refine r_lVI (as := []) (S := []) C 1368 (ct_X5_thrown υ (fun t ω => t = υ.1 209 0 ∧ ω = υ) (fun _ _ => False) ⟨rfl, rfl⟩) dL_law_1365 rfl cl7 kd_209 wq_1314 wq_1313 rfl wq_1312 wq_1315 wd_95 yd_X5_thrown ⟨Nat.le_trans (Nat.le_of_ble_eq_true rfl) hL.1, Nat.le_trans (Nat.le_of_ble_eq_true rfl) hL.2.1⟩ (Nat.le_of_ble_eq_true rfl) ⟨by have := hL.2.2.1; omega, by have := hL.2.2.2; omega⟩ (fun t ω h => ?_)
  obtain ⟨rfl, rfl⟩ := h
  refine r_iload C 1370 (j := 1) dL_law_1368 rfl rfl ?_
  refine r_icmp_eq C 1375 1373 dL_law_1370 (by decide) rfl (fun _ => ?_) (fun z => absurd hk z)
  refine r_iload C 1377 (j := 1) dL_law_1375 rfl rfl ?_
  refine r_if_ne C 1392 1380 dL_law_1377 (by decide) rfl (fun _ => r_goto C 2348 dL_law_1392 (by decide) (Ws_sub (L' := LL i) (fun q hq => List.mem_cons_of_mem _ (List.mem_cons_of_mem _ (hq))) (hc _ _ (by omega) hU.1))) (fun z => ?_)
  have hk0 : k = 0 := z
  refine r_aload_n C 1381 (j := 4) dL_law_1380 rfl rfl ?_
  refine r_iconst C 1382 (v := 0) dL_law_1381 rfl (by decide) ?_
  refine r_lald C 1383 dL_law_1382 rfl kd_233 (by unfold vp_in; decide) ?_
  refine r_iload C 1385 (j := 0) dL_law_1383 rfl rfl ?_
  refine r_i2l C 1386 dL_law_1385 rfl ?_
  exact r_lcmp_eq C 1387 1392 1390 dL_law_1386 rfl dL_law_1387 (by decide) rfl (fun _ => r_goto C 2348 dL_law_1392 (by decide) (Ws_sub (L' := LL i) (fun q hq => List.mem_cons_of_mem _ (List.mem_cons_of_mem _ (hq))) (hc _ _ (by omega) hU.1))) (fun w => absurd (by rw [show (0 : Int32).toNatClampNeg = 0 from rfl, hU.2, hO hk0, hb hk0]) w)
theorem st_18 {x : Ctx} {n : Nat} {i : Int32} {σ : Mem} {Len : Nat} {xs : Nat → Int32} (C : Cx x RL cL_law 10) (Sc : Scr x Len xs) (hL : Lw x n) (hin : ∀ c : Nat, c ≤ 4 → vp_in (i + Int32.ofNat c) Len) (hR : Rel σ) (hc : ∀ υ n', n' ≤ n + 4 → Rel υ → Ws x n' 2348 (LL i) [] υ) : Ws x n 1311 (LL i) [] σ := by
  by_cases h0 : xs (i + 2).toNatClampNeg = 0
  · exact st_18a C Sc hL hin hR h0 hc
  · exact st_18b C Sc hL hin hR h0 hc
theorem st_19 {x : Ctx} {n : Nat} {i : Int32} {σ : Mem} {Len : Nat} {xs : Nat → Int32} (C : Cx x RL cL_law 10) (Sc : Scr x Len xs) (hL : Lw x n) (hin : ∀ c : Nat, c ≤ 4 → vp_in (i + Int32.ofNat c) Len) (hR : Rel σ) (hc : ∀ υ n', n' ≤ n + 4 → Rel υ → Ws x n' 2348 (LL i) [] υ) : Ws x n 1395 (LL i) [] σ := by
  show Ws x n 1395 [(5, .int i), (4, .ref 234), (3, .ref 233), (2, .ref 209), (1, .ref 0), (0, .ref 1003)] [] σ
  refine r_aload_n C 1396 (j := 4) dL_law_1395 rfl rfl ?_
  refine r_scr (j0 := 5) (j5 := 0) C Sc 1402 1 dL_law_1396 dL_law_1397 dL_law_1399 dL_law_1400 dL_law_1401 rfl rfl rfl rfl (hin 1 (by decide)) ?_
  refine r_aload_n C 1403 (j := 2) dL_law_1402 rfl rfl ?_
  refine r_lW (b := 0) (as := [.ref 0, .int (xs (i + 1).toNatClampNeg), .ref 233]) (S := []) C 1406 (cw_loss _ σ (KwL (sp_X5_loss (xs (i + 1).toNatClampNeg))) (q_loss hR (fun r τ hA => KwL.a hA) (fun τ hA => ⟨rfl, KwL.b (by decide) hA⟩))) dL_law_1403 rfl wq_1054 wq_1053 wq_1055 wd_89 yd_L_loss ⟨Nat.le_trans (Nat.le_of_ble_eq_true rfl) hL.1, Nat.le_trans (Nat.le_of_ble_eq_true rfl) hL.2.1⟩ (Nat.le_of_ble_eq_true rfl) ⟨by have := hL.2.2.1; omega, by have := hL.2.2.2; omega⟩ (fun k τ2 h => ?_)
  obtain ⟨r, τ, hF, hA, hO⟩ := h
  refine r_istore C 1408 [(6, .int k), (5, .int i), (4, .ref 234), (3, .ref 233), (2, .ref 209), (1, .ref 0), (0, .ref 1003)] dL_law_1406 rfl (by decide) rfl ?_
  refine r_aload_n C 1409 (j := 4) dL_law_1408 rfl rfl ?_
  refine r_scr (j0 := 6) (j5 := 1) C Sc 1415 1 dL_law_1409 dL_law_1410 dL_law_1412 dL_law_1413 dL_law_1414 rfl rfl rfl rfl (hin 1 (by decide)) ?_
  refine r_lVL (as := [.int (xs (i + 1).toNatClampNeg)]) (S := []) C 1418 (ct_X5_loss _ τ2 (fun b υ => υ.1 209 0 = k ∧ (k = 0 → b = r) ∧ RU τ2 υ) (fun _ _ => False) (hA τ2 hF _ _ (fun b υ e1 e2 e3 => ⟨e1, e2, e3⟩))) dL_law_1415 rfl cl7 kd_209 wq_1605 wq_1604 rfl wq_1603 wq_1606 wd_95 yd_X5_loss ⟨Nat.le_trans (Nat.le_of_ble_eq_true rfl) hL.1, Nat.le_trans (Nat.le_of_ble_eq_true rfl) hL.2.1⟩ (Nat.le_of_ble_eq_true rfl) ⟨by have := hL.2.2.1; omega, by have := hL.2.2.2; omega⟩ (fun b υ h => ?_)
  obtain ⟨hk, hb, hU⟩ := h
  refine r_lstore C 1420 [(7, .long b), (6, .int k), (5, .int i), (4, .ref 234), (3, .ref 233), (2, .ref 209), (1, .ref 0), (0, .ref 1003)] dL_law_1418 rfl (by decide) rfl ?_
  refine r_aload_n C 1421 (j := 5) dL_law_1420 rfl rfl ?_
  refine r_lVI (as := []) (S := []) C 1424 (ct_X5_thrown υ (fun t ω => t = υ.1 209 0 ∧ ω = υ) (fun _ _ => False) ⟨rfl, rfl⟩) dL_law_1421 rfl cl7 kd_209 wq_1314 wq_1313 rfl wq_1312 wq_1315 wd_95 yd_X5_thrown ⟨Nat.le_trans (Nat.le_of_ble_eq_true rfl) hL.1, Nat.le_trans (Nat.le_of_ble_eq_true rfl) hL.2.1⟩ (Nat.le_of_ble_eq_true rfl) ⟨by have := hL.2.2.1; omega, by have := hL.2.2.2; omega⟩ (fun t ω h => ?_)
  obtain ⟨rfl, rfl⟩ := h
  refine r_iload C 1426 (j := 1) dL_law_1424 rfl rfl ?_
  refine r_icmp_eq C 1431 1429 dL_law_1426 (by decide) rfl (fun _ => ?_) (fun z => absurd hk z)
  refine r_iload C 1433 (j := 1) dL_law_1431 rfl rfl ?_
  refine r_if_ne C 1447 1436 dL_law_1433 (by decide) rfl (fun _ => r_goto C 2348 dL_law_1447 (by decide) (Ws_sub (L' := LL i) (fun q hq => List.mem_cons_of_mem _ (List.mem_cons_of_mem _ (hq))) (hc _ _ (by omega) hU.1))) (fun z => ?_)
  have hk0 : k = 0 := z
  refine r_aload_n C 1437 (j := 4) dL_law_1436 rfl rfl ?_
  refine r_iconst C 1438 (v := 0) dL_law_1437 rfl (by decide) ?_
  refine r_lald C 1439 dL_law_1438 rfl kd_233 (by unfold vp_in; decide) ?_
  refine r_lload C 1441 (j := 0) dL_law_1439 rfl rfl ?_
  exact r_lcmp_eq C 1442 1447 1445 dL_law_1441 rfl dL_law_1442 (by decide) rfl (fun _ => r_goto C 2348 dL_law_1447 (by decide) (Ws_sub (L' := LL i) (fun q hq => List.mem_cons_of_mem _ (List.mem_cons_of_mem _ (hq))) (hc _ _ (by omega) hU.1))) (fun w => absurd (by rw [show (0 : Int32).toNatClampNeg = 0 from rfl, hU.2, hO hk0, hb hk0]) w)
theorem st_20 {x : Ctx} {n : Nat} {i : Int32} {σ : Mem} {Len : Nat} {xs : Nat → Int32} (C : Cx x RL cL_law 10) (Sc : Scr x Len xs) (hL : Lw x n) (hin : ∀ c : Nat, c ≤ 4 → vp_in (i + Int32.ofNat c) Len) (hR : Rel σ) (hc : ∀ υ n', n' ≤ n + 4 → Rel υ → Ws x n' 2348 (LL i) [] υ) : Ws x n 1450 (LL i) [] σ := by
  show Ws x n 1450 [(5, .int i), (4, .ref 234), (3, .ref 233), (2, .ref 209), (1, .ref 0), (0, .ref 1003)] [] σ
  refine r_aload_n C 1451 (j := 4) dL_law_1450 rfl rfl ?_
  refine r_scr (j0 := 5) (j5 := 0) C Sc 1457 1 dL_law_1451 dL_law_1452 dL_law_1454 dL_law_1455 dL_law_1456 rfl rfl rfl rfl (hin 1 (by decide)) ?_
  refine r_aload_n C 1458 (j := 2) dL_law_1457 rfl rfl ?_
  refine r_lW (b := 0) (as := [.ref 0, .int (xs (i + 1).toNatClampNeg), .ref 233]) (S := []) C 1461 (cw_rounding _ σ (KwL (sp_X5_rounding (xs (i + 1).toNatClampNeg))) (q_rounding hR (fun r τ hA => KwL.a hA) (fun τ hA => ⟨rfl, KwL.b (by decide) hA⟩))) dL_law_1458 rfl wq_1061 wq_1060 wq_1062 wd_89 yd_L_rounding ⟨Nat.le_trans (Nat.le_of_ble_eq_true rfl) hL.1, Nat.le_trans (Nat.le_of_ble_eq_true rfl) hL.2.1⟩ (Nat.le_of_ble_eq_true rfl) ⟨by have := hL.2.2.1; omega, by have := hL.2.2.2; omega⟩ (fun k τ2 h => ?_)
  obtain ⟨r, τ, hF, hA, hO⟩ := h
  refine r_istore C 1463 [(6, .int k), (5, .int i), (4, .ref 234), (3, .ref 233), (2, .ref 209), (1, .ref 0), (0, .ref 1003)] dL_law_1461 rfl (by decide) rfl ?_
  refine r_aload_n C 1464 (j := 4) dL_law_1463 rfl rfl ?_
  refine r_scr (j0 := 6) (j5 := 1) C Sc 1470 1 dL_law_1464 dL_law_1465 dL_law_1467 dL_law_1468 dL_law_1469 rfl rfl rfl rfl (hin 1 (by decide)) ?_
  refine r_lVL (as := [.int (xs (i + 1).toNatClampNeg)]) (S := []) C 1473 (ct_X5_rounding _ τ2 (fun b υ => υ.1 209 0 = k ∧ (k = 0 → b = r) ∧ RU τ2 υ) (fun _ _ => False) (hA τ2 hF _ _ (fun b υ e1 e2 e3 => ⟨e1, e2, e3⟩))) dL_law_1470 rfl cl7 kd_209 wq_1613 wq_1612 rfl wq_1611 wq_1614 wd_95 yd_X5_rounding ⟨Nat.le_trans (Nat.le_of_ble_eq_true rfl) hL.1, Nat.le_trans (Nat.le_of_ble_eq_true rfl) hL.2.1⟩ (Nat.le_of_ble_eq_true rfl) ⟨by have := hL.2.2.1; omega, by have := hL.2.2.2; omega⟩ (fun b υ h => ?_)
  obtain ⟨hk, hb, hU⟩ := h
  refine r_lstore C 1475 [(7, .long b), (6, .int k), (5, .int i), (4, .ref 234), (3, .ref 233), (2, .ref 209), (1, .ref 0), (0, .ref 1003)] dL_law_1473 rfl (by decide) rfl ?_
  refine r_aload_n C 1476 (j := 5) dL_law_1475 rfl rfl ?_
  refine r_lVI (as := []) (S := []) C 1479 (ct_X5_thrown υ (fun t ω => t = υ.1 209 0 ∧ ω = υ) (fun _ _ => False) ⟨rfl, rfl⟩) dL_law_1476 rfl cl7 kd_209 wq_1314 wq_1313 rfl wq_1312 wq_1315 wd_95 yd_X5_thrown ⟨Nat.le_trans (Nat.le_of_ble_eq_true rfl) hL.1, Nat.le_trans (Nat.le_of_ble_eq_true rfl) hL.2.1⟩ (Nat.le_of_ble_eq_true rfl) ⟨by have := hL.2.2.1; omega, by have := hL.2.2.2; omega⟩ (fun t ω h => ?_)
  obtain ⟨rfl, rfl⟩ := h
  refine r_iload C 1481 (j := 1) dL_law_1479 rfl rfl ?_
  refine r_icmp_eq C 1486 1484 dL_law_1481 (by decide) rfl (fun _ => ?_) (fun z => absurd hk z)
  refine r_iload C 1488 (j := 1) dL_law_1486 rfl rfl ?_
  refine r_if_ne C 1502 1491 dL_law_1488 (by decide) rfl (fun _ => r_goto C 2348 dL_law_1502 (by decide) (Ws_sub (L' := LL i) (fun q hq => List.mem_cons_of_mem _ (List.mem_cons_of_mem _ (hq))) (hc _ _ (by omega) hU.1))) (fun z => ?_)
  have hk0 : k = 0 := z
  refine r_aload_n C 1492 (j := 4) dL_law_1491 rfl rfl ?_
  refine r_iconst C 1493 (v := 0) dL_law_1492 rfl (by decide) ?_
  refine r_lald C 1494 dL_law_1493 rfl kd_233 (by unfold vp_in; decide) ?_
  refine r_lload C 1496 (j := 0) dL_law_1494 rfl rfl ?_
  exact r_lcmp_eq C 1497 1502 1500 dL_law_1496 rfl dL_law_1497 (by decide) rfl (fun _ => r_goto C 2348 dL_law_1502 (by decide) (Ws_sub (L' := LL i) (fun q hq => List.mem_cons_of_mem _ (List.mem_cons_of_mem _ (hq))) (hc _ _ (by omega) hU.1))) (fun w => absurd (by rw [show (0 : Int32).toNatClampNeg = 0 from rfl, hU.2, hO hk0, hb hk0]) w)
theorem st_21 {x : Ctx} {n : Nat} {i : Int32} {σ : Mem} {Len : Nat} {xs : Nat → Int32} (C : Cx x RL cL_law 10) (Sc : Scr x Len xs) (hL : Lw x n) (hin : ∀ c : Nat, c ≤ 4 → vp_in (i + Int32.ofNat c) Len) (hR : Rel σ) (hc : ∀ υ n', n' ≤ n + 4 → Rel υ → Ws x n' 2348 (LL i) [] υ) : Ws x n 1505 (LL i) [] σ := by
  show Ws x n 1505 [(5, .int i), (4, .ref 234), (3, .ref 233), (2, .ref 209), (1, .ref 0), (0, .ref 1003)] [] σ
  refine r_aload_n C 1506 (j := 4) dL_law_1505 rfl rfl ?_
  refine r_scr (j0 := 5) (j5 := 0) C Sc 1512 1 dL_law_1506 dL_law_1507 dL_law_1509 dL_law_1510 dL_law_1511 rfl rfl rfl rfl (hin 1 (by decide)) ?_
  refine r_aload_n C 1513 (j := 2) dL_law_1512 rfl rfl ?_
  refine r_lW (b := 0) (as := [.ref 0, .int (xs (i + 1).toNatClampNeg), .ref 233]) (S := []) C 1516 (cw_head _ σ (KwL (sp_X5_head (xs (i + 1).toNatClampNeg))) (q_head hR (fun r τ hA => KwL.a hA) (fun τ hA => ⟨rfl, KwL.b (by decide) hA⟩))) dL_law_1513 rfl wq_1068 wq_1067 wq_1069 wd_89 yd_L_head ⟨Nat.le_trans (Nat.le_of_ble_eq_true rfl) hL.1, Nat.le_trans (Nat.le_of_ble_eq_true rfl) hL.2.1⟩ (Nat.le_of_ble_eq_true rfl) ⟨by have := hL.2.2.1; omega, by have := hL.2.2.2; omega⟩ (fun k τ2 h => ?_)
  obtain ⟨r, τ, hF, hA, hO⟩ := h
  refine r_istore C 1518 [(6, .int k), (5, .int i), (4, .ref 234), (3, .ref 233), (2, .ref 209), (1, .ref 0), (0, .ref 1003)] dL_law_1516 rfl (by decide) rfl ?_
  refine r_aload_n C 1519 (j := 4) dL_law_1518 rfl rfl ?_
  refine r_scr (j0 := 6) (j5 := 1) C Sc 1525 1 dL_law_1519 dL_law_1520 dL_law_1522 dL_law_1523 dL_law_1524 rfl rfl rfl rfl (hin 1 (by decide)) ?_
  refine r_lVL (as := [.int (xs (i + 1).toNatClampNeg)]) (S := []) C 1528 (ct_X5_head _ τ2 (fun b υ => υ.1 209 0 = k ∧ (k = 0 → b = r) ∧ RU τ2 υ) (fun _ _ => False) (hA τ2 hF _ _ (fun b υ e1 e2 e3 => ⟨e1, e2, e3⟩))) dL_law_1525 rfl cl7 kd_209 wq_1617 wq_1616 rfl wq_1615 wq_1618 wd_95 yd_X5_head ⟨Nat.le_trans (Nat.le_of_ble_eq_true rfl) hL.1, Nat.le_trans (Nat.le_of_ble_eq_true rfl) hL.2.1⟩ (Nat.le_of_ble_eq_true rfl) ⟨by have := hL.2.2.1; omega, by have := hL.2.2.2; omega⟩ (fun b υ h => ?_)
  obtain ⟨hk, hb, hU⟩ := h
  refine r_lstore C 1530 [(7, .long b), (6, .int k), (5, .int i), (4, .ref 234), (3, .ref 233), (2, .ref 209), (1, .ref 0), (0, .ref 1003)] dL_law_1528 rfl (by decide) rfl ?_
  refine r_aload_n C 1531 (j := 5) dL_law_1530 rfl rfl ?_
  refine r_lVI (as := []) (S := []) C 1534 (ct_X5_thrown υ (fun t ω => t = υ.1 209 0 ∧ ω = υ) (fun _ _ => False) ⟨rfl, rfl⟩) dL_law_1531 rfl cl7 kd_209 wq_1314 wq_1313 rfl wq_1312 wq_1315 wd_95 yd_X5_thrown ⟨Nat.le_trans (Nat.le_of_ble_eq_true rfl) hL.1, Nat.le_trans (Nat.le_of_ble_eq_true rfl) hL.2.1⟩ (Nat.le_of_ble_eq_true rfl) ⟨by have := hL.2.2.1; omega, by have := hL.2.2.2; omega⟩ (fun t ω h => ?_)
  obtain ⟨rfl, rfl⟩ := h
  refine r_iload C 1536 (j := 1) dL_law_1534 rfl rfl ?_
  refine r_icmp_eq C 1541 1539 dL_law_1536 (by decide) rfl (fun _ => ?_) (fun z => absurd hk z)
  refine r_iload C 1543 (j := 1) dL_law_1541 rfl rfl ?_
  refine r_if_ne C 1557 1546 dL_law_1543 (by decide) rfl (fun _ => r_goto C 2348 dL_law_1557 (by decide) (Ws_sub (L' := LL i) (fun q hq => List.mem_cons_of_mem _ (List.mem_cons_of_mem _ (hq))) (hc _ _ (by omega) hU.1))) (fun z => ?_)
  have hk0 : k = 0 := z
  refine r_aload_n C 1547 (j := 4) dL_law_1546 rfl rfl ?_
  refine r_iconst C 1548 (v := 0) dL_law_1547 rfl (by decide) ?_
  refine r_lald C 1549 dL_law_1548 rfl kd_233 (by unfold vp_in; decide) ?_
  refine r_lload C 1551 (j := 0) dL_law_1549 rfl rfl ?_
  exact r_lcmp_eq C 1552 1557 1555 dL_law_1551 rfl dL_law_1552 (by decide) rfl (fun _ => r_goto C 2348 dL_law_1557 (by decide) (Ws_sub (L' := LL i) (fun q hq => List.mem_cons_of_mem _ (List.mem_cons_of_mem _ (hq))) (hc _ _ (by omega) hU.1))) (fun w => absurd (by rw [show (0 : Int32).toNatClampNeg = 0 from rfl, hU.2, hO hk0, hb hk0]) w)
theorem st_22 {x : Ctx} {n : Nat} {i : Int32} {σ : Mem} {Len : Nat} {xs : Nat → Int32} (C : Cx x RL cL_law 10) (Sc : Scr x Len xs) (hL : Lw x n) (hin : ∀ c : Nat, c ≤ 4 → vp_in (i + Int32.ofNat c) Len) (hR : Rel σ) (hc : ∀ υ n', n' ≤ n + 4 → Rel υ → Ws x n' 2348 (LL i) [] υ) : Ws x n 1560 (LL i) [] σ := by
  show Ws x n 1560 [(5, .int i), (4, .ref 234), (3, .ref 233), (2, .ref 209), (1, .ref 0), (0, .ref 1003)] [] σ
  refine r_aload_n C 1561 (j := 4) dL_law_1560 rfl rfl ?_
  refine r_lVL (as := []) (S := []) C 1564 (ct_X4_neededHead σ (fun r τ => AnL sp_X5_neededHead 0 r τ) (fun _ _ => False) (q_neededHead hR (fun r τ hA => hA))) dL_law_1561 rfl cl6 kd_0 wq_407 wq_406 rfl wq_405 wq_408 wd_90 yd_X4_neededHead ⟨Nat.le_trans (Nat.le_of_ble_eq_true rfl) hL.1, Nat.le_trans (Nat.le_of_ble_eq_true rfl) hL.2.1⟩ (Nat.le_of_ble_eq_true rfl) ⟨by have := hL.2.2.1; omega, by have := hL.2.2.2; omega⟩ (fun r τ hA => ?_)
  refine r_aload_n C 1565 (j := 3) dL_law_1564 rfl rfl ?_
  refine r_lVL (as := []) (S := [.long r]) C 1568 (ct_X5_neededHead τ (fun b υ => b = r ∧ Rel υ) (fun _ _ => False) (hA τ (FO.rfl' _) _ _ (fun b υ e1 e2 e3 => ⟨e2 rfl, e3.1⟩))) dL_law_1565 rfl cl7 kd_209 wq_1625 wq_1624 rfl wq_1623 wq_1626 wd_95 yd_X5_neededHead ⟨Nat.le_trans (Nat.le_of_ble_eq_true rfl) hL.1, Nat.le_trans (Nat.le_of_ble_eq_true rfl) hL.2.1⟩ (Nat.le_of_ble_eq_true rfl) ⟨by have := hL.2.2.1; omega, by have := hL.2.2.2; omega⟩ (fun b υ h => ?_)
  obtain ⟨rfl, hRe⟩ := h
  exact r_lcmp_eq C 1569 2348 1572 dL_law_1568 rfl dL_law_1569 (by decide) rfl (fun _ => hc _ _ (by omega) hRe) (fun z => absurd rfl z)
theorem st_23 {x : Ctx} {n : Nat} {i : Int32} {σ : Mem} {Len : Nat} {xs : Nat → Int32} (C : Cx x RL cL_law 10) (Sc : Scr x Len xs) (hL : Lw x n) (hin : ∀ c : Nat, c ≤ 4 → vp_in (i + Int32.ofNat c) Len) (hR : Rel σ) (hc : ∀ υ n', n' ≤ n + 4 → Rel υ → Ws x n' 2348 (LL i) [] υ) : Ws x n 1574 (LL i) [] σ := by
  show Ws x n 1574 [(5, .int i), (4, .ref 234), (3, .ref 233), (2, .ref 209), (1, .ref 0), (0, .ref 1003)] [] σ
  refine r_aload_n C 1575 (j := 4) dL_law_1574 rfl rfl ?_
  refine r_aload_n C 1576 (j := 2) dL_law_1575 rfl rfl ?_
  refine r_lW (b := 0) (as := [.ref 0, .ref 233]) (S := []) C 1579 (cw_imbalance  σ (KwL sp_X5_imbalance) (q_imbalance hR (fun r τ hA => KwL.a hA) (fun τ hA => ⟨rfl, KwL.b (by decide) hA⟩))) dL_law_1576 rfl wq_1080 wq_1079 wq_1081 wd_89 yd_L_imbalance ⟨Nat.le_trans (Nat.le_of_ble_eq_true rfl) hL.1, Nat.le_trans (Nat.le_of_ble_eq_true rfl) hL.2.1⟩ (Nat.le_of_ble_eq_true rfl) ⟨by have := hL.2.2.1; omega, by have := hL.2.2.2; omega⟩ (fun k τ2 h => ?_)
  obtain ⟨r, τ, hF, hA, hO⟩ := h
  refine r_istore C 1581 [(6, .int k), (5, .int i), (4, .ref 234), (3, .ref 233), (2, .ref 209), (1, .ref 0), (0, .ref 1003)] dL_law_1579 rfl (by decide) rfl ?_
  refine r_aload_n C 1582 (j := 4) dL_law_1581 rfl rfl ?_
  refine r_lVL (as := []) (S := []) C 1585 (ct_X5_imbalance  τ2 (fun b υ => υ.1 209 0 = k ∧ (k = 0 → b = r) ∧ RU τ2 υ) (fun _ _ => False) (hA τ2 hF _ _ (fun b υ e1 e2 e3 => ⟨e1, e2, e3⟩))) dL_law_1582 rfl cl7 kd_209 wq_1629 wq_1628 rfl wq_1627 wq_1630 wd_95 yd_X5_imbalance ⟨Nat.le_trans (Nat.le_of_ble_eq_true rfl) hL.1, Nat.le_trans (Nat.le_of_ble_eq_true rfl) hL.2.1⟩ (Nat.le_of_ble_eq_true rfl) ⟨by have := hL.2.2.1; omega, by have := hL.2.2.2; omega⟩ (fun b υ h => ?_)
  obtain ⟨hk, hb, hU⟩ := h
  refine r_lstore C 1587 [(7, .long b), (6, .int k), (5, .int i), (4, .ref 234), (3, .ref 233), (2, .ref 209), (1, .ref 0), (0, .ref 1003)] dL_law_1585 rfl (by decide) rfl ?_
  refine r_aload_n C 1588 (j := 5) dL_law_1587 rfl rfl ?_
  refine r_lVI (as := []) (S := []) C 1591 (ct_X5_thrown υ (fun t ω => t = υ.1 209 0 ∧ ω = υ) (fun _ _ => False) ⟨rfl, rfl⟩) dL_law_1588 rfl cl7 kd_209 wq_1314 wq_1313 rfl wq_1312 wq_1315 wd_95 yd_X5_thrown ⟨Nat.le_trans (Nat.le_of_ble_eq_true rfl) hL.1, Nat.le_trans (Nat.le_of_ble_eq_true rfl) hL.2.1⟩ (Nat.le_of_ble_eq_true rfl) ⟨by have := hL.2.2.1; omega, by have := hL.2.2.2; omega⟩ (fun t ω h => ?_)
  obtain ⟨rfl, rfl⟩ := h
  refine r_iload C 1593 (j := 1) dL_law_1591 rfl rfl ?_
  refine r_icmp_eq C 1598 1596 dL_law_1593 (by decide) rfl (fun _ => ?_) (fun z => absurd hk z)
  refine r_iload C 1600 (j := 1) dL_law_1598 rfl rfl ?_
  refine r_if_ne C 1614 1603 dL_law_1600 (by decide) rfl (fun _ => r_goto C 2348 dL_law_1614 (by decide) (Ws_sub (L' := LL i) (fun q hq => List.mem_cons_of_mem _ (List.mem_cons_of_mem _ (hq))) (hc _ _ (by omega) hU.1))) (fun z => ?_)
  have hk0 : k = 0 := z
  refine r_aload_n C 1604 (j := 4) dL_law_1603 rfl rfl ?_
  refine r_iconst C 1605 (v := 0) dL_law_1604 rfl (by decide) ?_
  refine r_lald C 1606 dL_law_1605 rfl kd_233 (by unfold vp_in; decide) ?_
  refine r_lload C 1608 (j := 0) dL_law_1606 rfl rfl ?_
  exact r_lcmp_eq C 1609 1614 1612 dL_law_1608 rfl dL_law_1609 (by decide) rfl (fun _ => r_goto C 2348 dL_law_1614 (by decide) (Ws_sub (L' := LL i) (fun q hq => List.mem_cons_of_mem _ (List.mem_cons_of_mem _ (hq))) (hc _ _ (by omega) hU.1))) (fun w => absurd (by rw [show (0 : Int32).toNatClampNeg = 0 from rfl, hU.2, hO hk0, hb hk0]) w)
theorem st_24 {x : Ctx} {n : Nat} {i : Int32} {σ : Mem} {Len : Nat} {xs : Nat → Int32} (C : Cx x RL cL_law 10) (Sc : Scr x Len xs) (hL : Lw x n) (hin : ∀ c : Nat, c ≤ 4 → vp_in (i + Int32.ofNat c) Len) (hR : Rel σ) (hc : ∀ υ n', n' ≤ n + 4 → Rel υ → Ws x n' 2348 (LL i) [] υ) : Ws x n 1617 (LL i) [] σ := by
  show Ws x n 1617 [(5, .int i), (4, .ref 234), (3, .ref 233), (2, .ref 209), (1, .ref 0), (0, .ref 1003)] [] σ
  refine r_aload_n C 1618 (j := 4) dL_law_1617 rfl rfl ?_
  refine r_lVI (as := []) (S := []) C 1621 (ct_X4_rounds σ (fun r τ => AnI sp_X5_rounds 0 r τ) (fun _ _ => False) (q_rounds hR (fun r τ hA => hA))) dL_law_1618 rfl cl6 kd_0 wq_576 wq_575 rfl wq_574 wq_577 wd_90 yd_X4_rounds ⟨Nat.le_trans (Nat.le_of_ble_eq_true rfl) hL.1, Nat.le_trans (Nat.le_of_ble_eq_true rfl) hL.2.1⟩ (Nat.le_of_ble_eq_true rfl) ⟨by have := hL.2.2.1; omega, by have := hL.2.2.2; omega⟩ (fun r τ hA => ?_)
  refine r_aload_n C 1622 (j := 3) dL_law_1621 rfl rfl ?_
  refine r_lVI (as := []) (S := [.int r]) C 1625 (ct_X5_rounds τ (fun b υ => b = r ∧ Rel υ) (fun _ _ => False) (hA τ (FO.rfl' _) _ _ (fun b υ e1 e2 e3 => ⟨e2 rfl, e3.1⟩))) dL_law_1622 rfl cl7 kd_209 wq_1633 wq_1632 rfl wq_1631 wq_1634 wd_95 yd_X5_rounds ⟨Nat.le_trans (Nat.le_of_ble_eq_true rfl) hL.1, Nat.le_trans (Nat.le_of_ble_eq_true rfl) hL.2.1⟩ (Nat.le_of_ble_eq_true rfl) ⟨by have := hL.2.2.1; omega, by have := hL.2.2.2; omega⟩ (fun b υ h => ?_)
  obtain ⟨rfl, hRe⟩ := h
  exact r_icmp_eq C 2348 1628 dL_law_1625 (by decide) rfl (fun _ => hc _ _ (by omega) hRe) (fun z => absurd rfl z)
theorem st_25 {x : Ctx} {n : Nat} {i : Int32} {σ : Mem} {Len : Nat} {xs : Nat → Int32} (C : Cx x RL cL_law 10) (Sc : Scr x Len xs) (hL : Lw x n) (hin : ∀ c : Nat, c ≤ 4 → vp_in (i + Int32.ofNat c) Len) (hR : Rel σ) (hc : ∀ υ n', n' ≤ n + 4 → Rel υ → Ws x n' 2348 (LL i) [] υ) : Ws x n 1630 (LL i) [] σ := by
  show Ws x n 1630 [(5, .int i), (4, .ref 234), (3, .ref 233), (2, .ref 209), (1, .ref 0), (0, .ref 1003)] [] σ
  refine r_aload_n C 1631 (j := 4) dL_law_1630 rfl rfl ?_
  refine r_scr (j0 := 5) (j5 := 0) C Sc 1637 1 dL_law_1631 dL_law_1632 dL_law_1634 dL_law_1635 dL_law_1636 rfl rfl rfl rfl (hin 1 (by decide)) ?_
  refine r_aload_n C 1638 (j := 2) dL_law_1637 rfl rfl ?_
  refine r_lW (b := 0) (as := [.ref 0, .int (xs (i + 1).toNatClampNeg), .ref 233]) (S := []) C 1641 (cw_loop _ σ (KwI (sp_X5_loop (xs (i + 1).toNatClampNeg))) (q_loop hR (fun r τ hA => KwI.a hA) (fun τ hA => ⟨rfl, KwI.b (by decide) hA⟩))) dL_law_1638 rfl wq_1088 wq_1087 wq_1089 wd_89 yd_L_loop ⟨Nat.le_trans (Nat.le_of_ble_eq_true rfl) hL.1, Nat.le_trans (Nat.le_of_ble_eq_true rfl) hL.2.1⟩ (Nat.le_of_ble_eq_true rfl) ⟨by have := hL.2.2.1; omega, by have := hL.2.2.2; omega⟩ (fun k τ2 h => ?_)
  obtain ⟨r, τ, hF, hA, hO⟩ := h
  refine r_istore C 1643 [(6, .int k), (5, .int i), (4, .ref 234), (3, .ref 233), (2, .ref 209), (1, .ref 0), (0, .ref 1003)] dL_law_1641 rfl (by decide) rfl ?_
  refine r_aload_n C 1644 (j := 4) dL_law_1643 rfl rfl ?_
  refine r_scr (j0 := 6) (j5 := 1) C Sc 1650 1 dL_law_1644 dL_law_1645 dL_law_1647 dL_law_1648 dL_law_1649 rfl rfl rfl rfl (hin 1 (by decide)) ?_
  refine r_lVI (as := [.int (xs (i + 1).toNatClampNeg)]) (S := []) C 1653 (ct_X5_loop _ τ2 (fun b υ => υ.1 209 0 = k ∧ (k = 0 → b = r) ∧ RU τ2 υ) (fun _ _ => False) (hA τ2 hF _ _ (fun b υ e1 e2 e3 => ⟨e1, e2, e3⟩))) dL_law_1650 rfl cl7 kd_209 wq_1637 wq_1636 rfl wq_1635 wq_1638 wd_95 yd_X5_loop ⟨Nat.le_trans (Nat.le_of_ble_eq_true rfl) hL.1, Nat.le_trans (Nat.le_of_ble_eq_true rfl) hL.2.1⟩ (Nat.le_of_ble_eq_true rfl) ⟨by have := hL.2.2.1; omega, by have := hL.2.2.2; omega⟩ (fun b υ h => ?_)
  obtain ⟨hk, hb, hU⟩ := h
  refine r_istore C 1655 [(7, .int b), (6, .int k), (5, .int i), (4, .ref 234), (3, .ref 233), (2, .ref 209), (1, .ref 0), (0, .ref 1003)] dL_law_1653 rfl (by decide) rfl ?_
  refine r_aload_n C 1656 (j := 5) dL_law_1655 rfl rfl ?_
  refine r_lVI (as := []) (S := []) C 1659 (ct_X5_thrown υ (fun t ω => t = υ.1 209 0 ∧ ω = υ) (fun _ _ => False) ⟨rfl, rfl⟩) dL_law_1656 rfl cl7 kd_209 wq_1314 wq_1313 rfl wq_1312 wq_1315 wd_95 yd_X5_thrown ⟨Nat.le_trans (Nat.le_of_ble_eq_true rfl) hL.1, Nat.le_trans (Nat.le_of_ble_eq_true rfl) hL.2.1⟩ (Nat.le_of_ble_eq_true rfl) ⟨by have := hL.2.2.1; omega, by have := hL.2.2.2; omega⟩ (fun t ω h => ?_)
  obtain ⟨rfl, rfl⟩ := h
  refine r_iload C 1661 (j := 1) dL_law_1659 rfl rfl ?_
  refine r_icmp_eq C 1666 1664 dL_law_1661 (by decide) rfl (fun _ => ?_) (fun z => absurd hk z)
  refine r_iload C 1668 (j := 1) dL_law_1666 rfl rfl ?_
  refine r_if_ne C 1683 1671 dL_law_1668 (by decide) rfl (fun _ => r_goto C 2348 dL_law_1683 (by decide) (Ws_sub (L' := LL i) (fun q hq => List.mem_cons_of_mem _ (List.mem_cons_of_mem _ (hq))) (hc _ _ (by omega) hU.1))) (fun z => ?_)
  have hk0 : k = 0 := z
  refine r_aload_n C 1672 (j := 4) dL_law_1671 rfl rfl ?_
  refine r_iconst C 1673 (v := 0) dL_law_1672 rfl (by decide) ?_
  refine r_lald C 1674 dL_law_1673 rfl kd_233 (by unfold vp_in; decide) ?_
  refine r_iload C 1676 (j := 0) dL_law_1674 rfl rfl ?_
  refine r_i2l C 1677 dL_law_1676 rfl ?_
  exact r_lcmp_eq C 1678 1683 1681 dL_law_1677 rfl dL_law_1678 (by decide) rfl (fun _ => r_goto C 2348 dL_law_1683 (by decide) (Ws_sub (L' := LL i) (fun q hq => List.mem_cons_of_mem _ (List.mem_cons_of_mem _ (hq))) (hc _ _ (by omega) hU.1))) (fun w => absurd (by rw [show (0 : Int32).toNatClampNeg = 0 from rfl, hU.2, hO hk0, hb hk0]) w)
theorem st_26 {x : Ctx} {n : Nat} {i : Int32} {σ : Mem} {Len : Nat} {xs : Nat → Int32} (C : Cx x RL cL_law 10) (Sc : Scr x Len xs) (hL : Lw x n) (hin : ∀ c : Nat, c ≤ 4 → vp_in (i + Int32.ofNat c) Len) (hR : Rel σ) (hc : ∀ υ n', n' ≤ n + 4 → Rel υ → Ws x n' 2348 (LL i) [] υ) : Ws x n 1686 (LL i) [] σ := by
  show Ws x n 1686 [(5, .int i), (4, .ref 234), (3, .ref 233), (2, .ref 209), (1, .ref 0), (0, .ref 1003)] [] σ
  refine r_aload_n C 1687 (j := 4) dL_law_1686 rfl rfl ?_
  refine r_scr (j0 := 5) (j5 := 0) C Sc 1693 1 dL_law_1687 dL_law_1688 dL_law_1690 dL_law_1691 dL_law_1692 rfl rfl rfl rfl (hin 1 (by decide)) ?_
  refine r_aload_n C 1694 (j := 2) dL_law_1693 rfl rfl ?_
  refine r_lW (b := 0) (as := [.ref 0, .int (xs (i + 1).toNatClampNeg), .ref 233]) (S := []) C 1697 (cw_distance _ σ (KwI (sp_X5_distance (xs (i + 1).toNatClampNeg))) (q_distance hR (fun r τ hA => KwI.a hA) (fun τ hA => ⟨rfl, KwI.b (by decide) hA⟩))) dL_law_1694 rfl wq_1096 wq_1095 wq_1097 wd_89 yd_L_distance ⟨Nat.le_trans (Nat.le_of_ble_eq_true rfl) hL.1, Nat.le_trans (Nat.le_of_ble_eq_true rfl) hL.2.1⟩ (Nat.le_of_ble_eq_true rfl) ⟨by have := hL.2.2.1; omega, by have := hL.2.2.2; omega⟩ (fun k τ2 h => ?_)
  obtain ⟨r, τ, hF, hA, hO⟩ := h
  refine r_istore C 1699 [(6, .int k), (5, .int i), (4, .ref 234), (3, .ref 233), (2, .ref 209), (1, .ref 0), (0, .ref 1003)] dL_law_1697 rfl (by decide) rfl ?_
  refine r_aload_n C 1700 (j := 4) dL_law_1699 rfl rfl ?_
  refine r_scr (j0 := 6) (j5 := 1) C Sc 1706 1 dL_law_1700 dL_law_1701 dL_law_1703 dL_law_1704 dL_law_1705 rfl rfl rfl rfl (hin 1 (by decide)) ?_
  refine r_lVI (as := [.int (xs (i + 1).toNatClampNeg)]) (S := []) C 1709 (ct_X5_distance _ τ2 (fun b υ => υ.1 209 0 = k ∧ (k = 0 → b = r) ∧ RU τ2 υ) (fun _ _ => False) (hA τ2 hF _ _ (fun b υ e1 e2 e3 => ⟨e1, e2, e3⟩))) dL_law_1706 rfl cl7 kd_209 wq_1641 wq_1640 rfl wq_1639 wq_1642 wd_95 yd_X5_distance ⟨Nat.le_trans (Nat.le_of_ble_eq_true rfl) hL.1, Nat.le_trans (Nat.le_of_ble_eq_true rfl) hL.2.1⟩ (Nat.le_of_ble_eq_true rfl) ⟨by have := hL.2.2.1; omega, by have := hL.2.2.2; omega⟩ (fun b υ h => ?_)
  obtain ⟨hk, hb, hU⟩ := h
  refine r_istore C 1711 [(7, .int b), (6, .int k), (5, .int i), (4, .ref 234), (3, .ref 233), (2, .ref 209), (1, .ref 0), (0, .ref 1003)] dL_law_1709 rfl (by decide) rfl ?_
  refine r_aload_n C 1712 (j := 5) dL_law_1711 rfl rfl ?_
  refine r_lVI (as := []) (S := []) C 1715 (ct_X5_thrown υ (fun t ω => t = υ.1 209 0 ∧ ω = υ) (fun _ _ => False) ⟨rfl, rfl⟩) dL_law_1712 rfl cl7 kd_209 wq_1314 wq_1313 rfl wq_1312 wq_1315 wd_95 yd_X5_thrown ⟨Nat.le_trans (Nat.le_of_ble_eq_true rfl) hL.1, Nat.le_trans (Nat.le_of_ble_eq_true rfl) hL.2.1⟩ (Nat.le_of_ble_eq_true rfl) ⟨by have := hL.2.2.1; omega, by have := hL.2.2.2; omega⟩ (fun t ω h => ?_)
  obtain ⟨rfl, rfl⟩ := h
  refine r_iload C 1717 (j := 1) dL_law_1715 rfl rfl ?_
  refine r_icmp_eq C 1722 1720 dL_law_1717 (by decide) rfl (fun _ => ?_) (fun z => absurd hk z)
  refine r_iload C 1724 (j := 1) dL_law_1722 rfl rfl ?_
  refine r_if_ne C 1739 1727 dL_law_1724 (by decide) rfl (fun _ => r_goto C 2348 dL_law_1739 (by decide) (Ws_sub (L' := LL i) (fun q hq => List.mem_cons_of_mem _ (List.mem_cons_of_mem _ (hq))) (hc _ _ (by omega) hU.1))) (fun z => ?_)
  have hk0 : k = 0 := z
  refine r_aload_n C 1728 (j := 4) dL_law_1727 rfl rfl ?_
  refine r_iconst C 1729 (v := 0) dL_law_1728 rfl (by decide) ?_
  refine r_lald C 1730 dL_law_1729 rfl kd_233 (by unfold vp_in; decide) ?_
  refine r_iload C 1732 (j := 0) dL_law_1730 rfl rfl ?_
  refine r_i2l C 1733 dL_law_1732 rfl ?_
  exact r_lcmp_eq C 1734 1739 1737 dL_law_1733 rfl dL_law_1734 (by decide) rfl (fun _ => r_goto C 2348 dL_law_1739 (by decide) (Ws_sub (L' := LL i) (fun q hq => List.mem_cons_of_mem _ (List.mem_cons_of_mem _ (hq))) (hc _ _ (by omega) hU.1))) (fun w => absurd (by rw [show (0 : Int32).toNatClampNeg = 0 from rfl, hU.2, hO hk0, hb hk0]) w)
theorem st_27 {x : Ctx} {n : Nat} {i : Int32} {σ : Mem} {Len : Nat} {xs : Nat → Int32} (C : Cx x RL cL_law 10) (Sc : Scr x Len xs) (hL : Lw x n) (hin : ∀ c : Nat, c ≤ 4 → vp_in (i + Int32.ofNat c) Len) (hR : Rel σ) (hc : ∀ υ n', n' ≤ n + 4 → Rel υ → Ws x n' 2348 (LL i) [] υ) : Ws x n 1742 (LL i) [] σ := by
  show Ws x n 1742 [(5, .int i), (4, .ref 234), (3, .ref 233), (2, .ref 209), (1, .ref 0), (0, .ref 1003)] [] σ
  refine r_aload_n C 1743 (j := 4) dL_law_1742 rfl rfl ?_
  refine r_scr (j0 := 5) (j5 := 0) C Sc 1749 1 dL_law_1743 dL_law_1744 dL_law_1746 dL_law_1747 dL_law_1748 rfl rfl rfl rfl (hin 1 (by decide)) ?_
  refine r_aload_n C 1750 (j := 2) dL_law_1749 rfl rfl ?_
  refine r_lW (b := 0) (as := [.ref 0, .int (xs (i + 1).toNatClampNeg), .ref 233]) (S := []) C 1753 (cw_part _ σ (KwI (sp_X5_part (xs (i + 1).toNatClampNeg))) (q_part hR (fun r τ hA => KwI.a hA) (fun τ hA => ⟨rfl, KwI.b (by decide) hA⟩))) dL_law_1750 rfl wq_1103 wq_1102 wq_1104 wd_89 yd_L_part ⟨Nat.le_trans (Nat.le_of_ble_eq_true rfl) hL.1, Nat.le_trans (Nat.le_of_ble_eq_true rfl) hL.2.1⟩ (Nat.le_of_ble_eq_true rfl) ⟨by have := hL.2.2.1; omega, by have := hL.2.2.2; omega⟩ (fun k τ2 h => ?_)
  obtain ⟨r, τ, hF, hA, hO⟩ := h
  refine r_istore C 1755 [(6, .int k), (5, .int i), (4, .ref 234), (3, .ref 233), (2, .ref 209), (1, .ref 0), (0, .ref 1003)] dL_law_1753 rfl (by decide) rfl ?_
  refine r_aload_n C 1756 (j := 4) dL_law_1755 rfl rfl ?_
  refine r_scr (j0 := 6) (j5 := 1) C Sc 1762 1 dL_law_1756 dL_law_1757 dL_law_1759 dL_law_1760 dL_law_1761 rfl rfl rfl rfl (hin 1 (by decide)) ?_
  refine r_lVI (as := [.int (xs (i + 1).toNatClampNeg)]) (S := []) C 1765 (ct_X5_part _ τ2 (fun b υ => υ.1 209 0 = k ∧ (k = 0 → b = r) ∧ RU τ2 υ) (fun _ _ => False) (hA τ2 hF _ _ (fun b υ e1 e2 e3 => ⟨e1, e2, e3⟩))) dL_law_1762 rfl cl7 kd_209 wq_1645 wq_1644 rfl wq_1643 wq_1646 wd_95 yd_X5_part ⟨Nat.le_trans (Nat.le_of_ble_eq_true rfl) hL.1, Nat.le_trans (Nat.le_of_ble_eq_true rfl) hL.2.1⟩ (Nat.le_of_ble_eq_true rfl) ⟨by have := hL.2.2.1; omega, by have := hL.2.2.2; omega⟩ (fun b υ h => ?_)
  obtain ⟨hk, hb, hU⟩ := h
  refine r_istore C 1767 [(7, .int b), (6, .int k), (5, .int i), (4, .ref 234), (3, .ref 233), (2, .ref 209), (1, .ref 0), (0, .ref 1003)] dL_law_1765 rfl (by decide) rfl ?_
  refine r_aload_n C 1768 (j := 5) dL_law_1767 rfl rfl ?_
  refine r_lVI (as := []) (S := []) C 1771 (ct_X5_thrown υ (fun t ω => t = υ.1 209 0 ∧ ω = υ) (fun _ _ => False) ⟨rfl, rfl⟩) dL_law_1768 rfl cl7 kd_209 wq_1314 wq_1313 rfl wq_1312 wq_1315 wd_95 yd_X5_thrown ⟨Nat.le_trans (Nat.le_of_ble_eq_true rfl) hL.1, Nat.le_trans (Nat.le_of_ble_eq_true rfl) hL.2.1⟩ (Nat.le_of_ble_eq_true rfl) ⟨by have := hL.2.2.1; omega, by have := hL.2.2.2; omega⟩ (fun t ω h => ?_)
  obtain ⟨rfl, rfl⟩ := h
  refine r_iload C 1773 (j := 1) dL_law_1771 rfl rfl ?_
  refine r_icmp_eq C 1778 1776 dL_law_1773 (by decide) rfl (fun _ => ?_) (fun z => absurd hk z)
  refine r_iload C 1780 (j := 1) dL_law_1778 rfl rfl ?_
  refine r_if_ne C 1795 1783 dL_law_1780 (by decide) rfl (fun _ => r_goto C 2348 dL_law_1795 (by decide) (Ws_sub (L' := LL i) (fun q hq => List.mem_cons_of_mem _ (List.mem_cons_of_mem _ (hq))) (hc _ _ (by omega) hU.1))) (fun z => ?_)
  have hk0 : k = 0 := z
  refine r_aload_n C 1784 (j := 4) dL_law_1783 rfl rfl ?_
  refine r_iconst C 1785 (v := 0) dL_law_1784 rfl (by decide) ?_
  refine r_lald C 1786 dL_law_1785 rfl kd_233 (by unfold vp_in; decide) ?_
  refine r_iload C 1788 (j := 0) dL_law_1786 rfl rfl ?_
  refine r_i2l C 1789 dL_law_1788 rfl ?_
  exact r_lcmp_eq C 1790 1795 1793 dL_law_1789 rfl dL_law_1790 (by decide) rfl (fun _ => r_goto C 2348 dL_law_1795 (by decide) (Ws_sub (L' := LL i) (fun q hq => List.mem_cons_of_mem _ (List.mem_cons_of_mem _ (hq))) (hc _ _ (by omega) hU.1))) (fun w => absurd (by rw [show (0 : Int32).toNatClampNeg = 0 from rfl, hU.2, hO hk0, hb hk0]) w)
theorem st_28 {x : Ctx} {n : Nat} {i : Int32} {σ : Mem} {Len : Nat} {xs : Nat → Int32} (C : Cx x RL cL_law 10) (Sc : Scr x Len xs) (hL : Lw x n) (hin : ∀ c : Nat, c ≤ 4 → vp_in (i + Int32.ofNat c) Len) (hR : Rel σ) (hc : ∀ υ n', n' ≤ n + 4 → Rel υ → Ws x n' 2348 (LL i) [] υ) : Ws x n 1798 (LL i) [] σ := by
  show Ws x n 1798 [(5, .int i), (4, .ref 234), (3, .ref 233), (2, .ref 209), (1, .ref 0), (0, .ref 1003)] [] σ
  refine r_aload_n C 1799 (j := 4) dL_law_1798 rfl rfl ?_
  refine r_scr (j0 := 5) (j5 := 0) C Sc 1805 1 dL_law_1799 dL_law_1800 dL_law_1802 dL_law_1803 dL_law_1804 rfl rfl rfl rfl (hin 1 (by decide)) ?_
  refine r_aload_n C 1806 (j := 2) dL_law_1805 rfl rfl ?_
  refine r_lW (b := 0) (as := [.ref 0, .int (xs (i + 1).toNatClampNeg), .ref 233]) (S := []) C 1809 (cw_isConnected _ σ (KwZ (sp_X5_isConnected (xs (i + 1).toNatClampNeg))) (q_isConnected hR (fun r τ _ hA => KwZ.a hA) (fun τ hA => ⟨rfl, KwZ.b (by decide) hA⟩))) dL_law_1806 rfl wq_1111 wq_1110 wq_1112 wd_89 yd_L_isConnected ⟨Nat.le_trans (Nat.le_of_ble_eq_true rfl) hL.1, Nat.le_trans (Nat.le_of_ble_eq_true rfl) hL.2.1⟩ (Nat.le_of_ble_eq_true rfl) ⟨by have := hL.2.2.1; omega, by have := hL.2.2.2; omega⟩ (fun k τ2 h => ?_)
  obtain ⟨r, τ, hF, hA, hO⟩ := h
  refine r_istore C 1811 [(6, .int k), (5, .int i), (4, .ref 234), (3, .ref 233), (2, .ref 209), (1, .ref 0), (0, .ref 1003)] dL_law_1809 rfl (by decide) rfl ?_
  refine r_aload_n C 1812 (j := 4) dL_law_1811 rfl rfl ?_
  refine r_scr (j0 := 6) (j5 := 1) C Sc 1818 1 dL_law_1812 dL_law_1813 dL_law_1815 dL_law_1816 dL_law_1817 rfl rfl rfl rfl (hin 1 (by decide)) ?_
  refine r_lVI (as := [.int (xs (i + 1).toNatClampNeg)]) (S := []) C 1821 (ct_X5_isConnected _ τ2 (fun b υ => υ.1 209 0 = k ∧ (k = 0 → b = r) ∧ RU τ2 υ) (fun _ _ => False) (hA τ2 hF _ _ (fun b υ e1 e2 e3 => ⟨e1, e2, e3⟩))) dL_law_1818 rfl cl7 kd_209 wq_1649 wq_1648 rfl wq_1647 wq_1650 wd_95 yd_X5_isConnected ⟨Nat.le_trans (Nat.le_of_ble_eq_true rfl) hL.1, Nat.le_trans (Nat.le_of_ble_eq_true rfl) hL.2.1⟩ (Nat.le_of_ble_eq_true rfl) ⟨by have := hL.2.2.1; omega, by have := hL.2.2.2; omega⟩ (fun b υ h => ?_)
  obtain ⟨hk, hb, hU⟩ := h
  refine r_istore C 1823 [(7, .int b), (6, .int k), (5, .int i), (4, .ref 234), (3, .ref 233), (2, .ref 209), (1, .ref 0), (0, .ref 1003)] dL_law_1821 rfl (by decide) rfl ?_
  refine r_aload_n C 1824 (j := 5) dL_law_1823 rfl rfl ?_
  refine r_lVI (as := []) (S := []) C 1827 (ct_X5_thrown υ (fun t ω => t = υ.1 209 0 ∧ ω = υ) (fun _ _ => False) ⟨rfl, rfl⟩) dL_law_1824 rfl cl7 kd_209 wq_1314 wq_1313 rfl wq_1312 wq_1315 wd_95 yd_X5_thrown ⟨Nat.le_trans (Nat.le_of_ble_eq_true rfl) hL.1, Nat.le_trans (Nat.le_of_ble_eq_true rfl) hL.2.1⟩ (Nat.le_of_ble_eq_true rfl) ⟨by have := hL.2.2.1; omega, by have := hL.2.2.2; omega⟩ (fun t ω h => ?_)
  obtain ⟨rfl, rfl⟩ := h
  refine r_iload C 1829 (j := 1) dL_law_1827 rfl rfl ?_
  refine r_icmp_eq C 1834 1832 dL_law_1829 (by decide) rfl (fun _ => ?_) (fun z => absurd hk z)
  refine r_iload C 1836 (j := 1) dL_law_1834 rfl rfl ?_
  refine r_if_ne C 1858 1839 dL_law_1836 (by decide) rfl (fun _ => r_goto C 2348 dL_law_1858 (by decide) (Ws_sub (L' := LL i) (fun q hq => List.mem_cons_of_mem _ (List.mem_cons_of_mem _ (hq))) (hc _ _ (by omega) hU.1))) (fun z => ?_)
  have hk0 : k = 0 := z
  refine r_aload_n C 1840 (j := 4) dL_law_1839 rfl rfl ?_
  refine r_iconst C 1841 (v := 0) dL_law_1840 rfl (by decide) ?_
  refine r_lald C 1842 dL_law_1841 rfl kd_233 (by unfold vp_in; decide) ?_
  refine r_iload C 1844 (j := 0) dL_law_1842 rfl rfl ?_
  refine r_if_eq C 1851 1847 dL_law_1844 (by decide) rfl (fun z0 => ?_) (fun z0 => ?_)
  · refine r_lconst C 1852 (v := 0) dL_law_1851 rfl (by decide) ?_
    exact r_lcmp_eq C 1853 1858 1856 dL_law_1852 rfl dL_law_1853 (by decide) rfl (fun _ => r_goto C 2348 dL_law_1858 (by decide) (Ws_sub (L' := LL i) (fun q hq => List.mem_cons_of_mem _ (List.mem_cons_of_mem _ (hq))) (hc _ _ (by omega) hU.1))) (fun w => absurd (by rw [show (0 : Int32).toNatClampNeg = 0 from rfl, hU.2, hO hk0, if_pos ((hb hk0).symm.trans z0)]) w)
  · refine r_lconst C 1848 (v := 1) dL_law_1847 rfl (by decide) ?_
    refine r_goto C 1852 dL_law_1848 (by decide) ?_
    exact r_lcmp_eq C 1853 1858 1856 dL_law_1852 rfl dL_law_1853 (by decide) rfl (fun _ => r_goto C 2348 dL_law_1858 (by decide) (Ws_sub (L' := LL i) (fun q hq => List.mem_cons_of_mem _ (List.mem_cons_of_mem _ (hq))) (hc _ _ (by omega) hU.1))) (fun w => absurd (by rw [show (0 : Int32).toNatClampNeg = 0 from rfl, hU.2, hO hk0, if_neg (fun zz => z0 ((hb hk0).trans zz))]) w)
theorem st_29 {x : Ctx} {n : Nat} {i : Int32} {σ : Mem} {Len : Nat} {xs : Nat → Int32} (C : Cx x RL cL_law 10) (Sc : Scr x Len xs) (hL : Lw x n) (hin : ∀ c : Nat, c ≤ 4 → vp_in (i + Int32.ofNat c) Len) (hR : Rel σ) (hc : ∀ υ n', n' ≤ n + 4 → Rel υ → Ws x n' 2348 (LL i) [] υ) : Ws x n 1861 (LL i) [] σ := by
  show Ws x n 1861 [(5, .int i), (4, .ref 234), (3, .ref 233), (2, .ref 209), (1, .ref 0), (0, .ref 1003)] [] σ
  refine r_aload_n C 1862 (j := 4) dL_law_1861 rfl rfl ?_
  refine r_aload_n C 1863 (j := 2) dL_law_1862 rfl rfl ?_
  refine r_lW (b := 0) (as := [.ref 0, .ref 233]) (S := []) C 1866 (cw_suspect  σ (KwI sp_X5_suspect) (q_suspect hR (fun r τ hA => KwI.a hA) (fun τ hA => ⟨rfl, KwI.b (by decide) hA⟩))) dL_law_1863 rfl wq_1118 wq_1117 wq_1119 wd_89 yd_L_suspect ⟨Nat.le_trans (Nat.le_of_ble_eq_true rfl) hL.1, Nat.le_trans (Nat.le_of_ble_eq_true rfl) hL.2.1⟩ (Nat.le_of_ble_eq_true rfl) ⟨by have := hL.2.2.1; omega, by have := hL.2.2.2; omega⟩ (fun k τ2 h => ?_)
  obtain ⟨r, τ, hF, hA, hO⟩ := h
  refine r_istore C 1868 [(6, .int k), (5, .int i), (4, .ref 234), (3, .ref 233), (2, .ref 209), (1, .ref 0), (0, .ref 1003)] dL_law_1866 rfl (by decide) rfl ?_
  refine r_aload_n C 1869 (j := 4) dL_law_1868 rfl rfl ?_
  refine r_lVI (as := []) (S := []) C 1872 (ct_X5_suspect  τ2 (fun b υ => υ.1 209 0 = k ∧ (k = 0 → b = r) ∧ RU τ2 υ) (fun _ _ => False) (hA τ2 hF _ _ (fun b υ e1 e2 e3 => ⟨e1, e2, e3⟩))) dL_law_1869 rfl cl7 kd_209 wq_1653 wq_1652 rfl wq_1651 wq_1654 wd_95 yd_X5_suspect ⟨Nat.le_trans (Nat.le_of_ble_eq_true rfl) hL.1, Nat.le_trans (Nat.le_of_ble_eq_true rfl) hL.2.1⟩ (Nat.le_of_ble_eq_true rfl) ⟨by have := hL.2.2.1; omega, by have := hL.2.2.2; omega⟩ (fun b υ h => ?_)
  obtain ⟨hk, hb, hU⟩ := h
  refine r_istore C 1874 [(7, .int b), (6, .int k), (5, .int i), (4, .ref 234), (3, .ref 233), (2, .ref 209), (1, .ref 0), (0, .ref 1003)] dL_law_1872 rfl (by decide) rfl ?_
  refine r_aload_n C 1875 (j := 5) dL_law_1874 rfl rfl ?_
  refine r_lVI (as := []) (S := []) C 1878 (ct_X5_thrown υ (fun t ω => t = υ.1 209 0 ∧ ω = υ) (fun _ _ => False) ⟨rfl, rfl⟩) dL_law_1875 rfl cl7 kd_209 wq_1314 wq_1313 rfl wq_1312 wq_1315 wd_95 yd_X5_thrown ⟨Nat.le_trans (Nat.le_of_ble_eq_true rfl) hL.1, Nat.le_trans (Nat.le_of_ble_eq_true rfl) hL.2.1⟩ (Nat.le_of_ble_eq_true rfl) ⟨by have := hL.2.2.1; omega, by have := hL.2.2.2; omega⟩ (fun t ω h => ?_)
  obtain ⟨rfl, rfl⟩ := h
  refine r_iload C 1880 (j := 1) dL_law_1878 rfl rfl ?_
  refine r_icmp_eq C 1885 1883 dL_law_1880 (by decide) rfl (fun _ => ?_) (fun z => absurd hk z)
  refine r_iload C 1887 (j := 1) dL_law_1885 rfl rfl ?_
  refine r_if_ne C 1902 1890 dL_law_1887 (by decide) rfl (fun _ => r_goto C 2348 dL_law_1902 (by decide) (Ws_sub (L' := LL i) (fun q hq => List.mem_cons_of_mem _ (List.mem_cons_of_mem _ (hq))) (hc _ _ (by omega) hU.1))) (fun z => ?_)
  have hk0 : k = 0 := z
  refine r_aload_n C 1891 (j := 4) dL_law_1890 rfl rfl ?_
  refine r_iconst C 1892 (v := 0) dL_law_1891 rfl (by decide) ?_
  refine r_lald C 1893 dL_law_1892 rfl kd_233 (by unfold vp_in; decide) ?_
  refine r_iload C 1895 (j := 0) dL_law_1893 rfl rfl ?_
  refine r_i2l C 1896 dL_law_1895 rfl ?_
  exact r_lcmp_eq C 1897 1902 1900 dL_law_1896 rfl dL_law_1897 (by decide) rfl (fun _ => r_goto C 2348 dL_law_1902 (by decide) (Ws_sub (L' := LL i) (fun q hq => List.mem_cons_of_mem _ (List.mem_cons_of_mem _ (hq))) (hc _ _ (by omega) hU.1))) (fun w => absurd (by rw [show (0 : Int32).toNatClampNeg = 0 from rfl, hU.2, hO hk0, hb hk0]) w)
theorem st_30 {x : Ctx} {n : Nat} {i : Int32} {σ : Mem} {Len : Nat} {xs : Nat → Int32} (C : Cx x RL cL_law 10) (Sc : Scr x Len xs) (hL : Lw x n) (hin : ∀ c : Nat, c ≤ 4 → vp_in (i + Int32.ofNat c) Len) (hR : Rel σ) (hc : ∀ υ n', n' ≤ n + 4 → Rel υ → Ws x n' 2348 (LL i) [] υ) : Ws x n 1905 (LL i) [] σ := by
  show Ws x n 1905 [(5, .int i), (4, .ref 234), (3, .ref 233), (2, .ref 209), (1, .ref 0), (0, .ref 1003)] [] σ
  refine r_aload_n C 1906 (j := 4) dL_law_1905 rfl rfl ?_
  refine r_scr (j0 := 5) (j5 := 0) C Sc 1912 1 dL_law_1906 dL_law_1907 dL_law_1909 dL_law_1910 dL_law_1911 rfl rfl rfl rfl (hin 1 (by decide)) ?_
  refine r_scr (j0 := 5) (j5 := 0) C Sc 1918 2 dL_law_1912 dL_law_1913 dL_law_1915 dL_law_1916 dL_law_1917 rfl rfl rfl rfl (hin 2 (by decide)) ?_
  refine r_aload_n C 1919 (j := 2) dL_law_1918 rfl rfl ?_
  refine r_lW (b := 0) (as := [.ref 0, .int (xs (i + 1).toNatClampNeg), .int (xs (i + 2).toNatClampNeg), .ref 233]) (S := []) C 1922 (cw_trial _ _ σ (KwL (sp_X5_trial (xs (i + 1).toNatClampNeg) (xs (i + 2).toNatClampNeg))) (q_trial hR (fun r τ hA => KwL.a hA) (fun τ hA => .inl ⟨rfl, KwL.b (by decide) hA⟩) (fun τ hA => .inr ⟨rfl, KwL.b (by decide) hA⟩))) dL_law_1919 rfl wq_1130 wq_1129 wq_1131 wd_89 yd_L_trial ⟨Nat.le_trans (Nat.le_of_ble_eq_true rfl) hL.1, Nat.le_trans (Nat.le_of_ble_eq_true rfl) hL.2.1⟩ (Nat.le_of_ble_eq_true rfl) ⟨by have := hL.2.2.1; omega, by have := hL.2.2.2; omega⟩ (fun k τ2 h => ?_)
  obtain ⟨r, τ, hF, hA, hO⟩ := h
  refine r_istore C 1924 [(6, .int k), (5, .int i), (4, .ref 234), (3, .ref 233), (2, .ref 209), (1, .ref 0), (0, .ref 1003)] dL_law_1922 rfl (by decide) rfl ?_
  refine r_aload_n C 1925 (j := 4) dL_law_1924 rfl rfl ?_
  refine r_scr (j0 := 6) (j5 := 1) C Sc 1931 1 dL_law_1925 dL_law_1926 dL_law_1928 dL_law_1929 dL_law_1930 rfl rfl rfl rfl (hin 1 (by decide)) ?_
  refine r_scr (j0 := 6) (j5 := 1) C Sc 1937 2 dL_law_1931 dL_law_1932 dL_law_1934 dL_law_1935 dL_law_1936 rfl rfl rfl rfl (hin 2 (by decide)) ?_
  refine r_lVL (as := [.int (xs (i + 1).toNatClampNeg), .int (xs (i + 2).toNatClampNeg)]) (S := []) C 1940 (ct_X5_trial _ _ τ2 (fun b υ => υ.1 209 0 = k ∧ (k = 0 → b = r) ∧ RU τ2 υ) (fun _ _ => False) (hA τ2 hF _ _ (fun b υ e1 e2 e3 => ⟨e1, e2, e3⟩))) dL_law_1937 rfl cl7 kd_209 wq_1658 wq_1657 rfl wq_1656 wq_1659 wd_95 yd_X5_trial ⟨Nat.le_trans (Nat.le_of_ble_eq_true rfl) hL.1, Nat.le_trans (Nat.le_of_ble_eq_true rfl) hL.2.1⟩ (Nat.le_of_ble_eq_true rfl) ⟨by have := hL.2.2.1; omega, by have := hL.2.2.2; omega⟩ (fun b υ h => ?_)
  obtain ⟨hk, hb, hU⟩ := h
  refine r_lstore C 1942 [(7, .long b), (6, .int k), (5, .int i), (4, .ref 234), (3, .ref 233), (2, .ref 209), (1, .ref 0), (0, .ref 1003)] dL_law_1940 rfl (by decide) rfl ?_
  refine r_aload_n C 1943 (j := 5) dL_law_1942 rfl rfl ?_
  refine r_lVI (as := []) (S := []) C 1946 (ct_X5_thrown υ (fun t ω => t = υ.1 209 0 ∧ ω = υ) (fun _ _ => False) ⟨rfl, rfl⟩) dL_law_1943 rfl cl7 kd_209 wq_1314 wq_1313 rfl wq_1312 wq_1315 wd_95 yd_X5_thrown ⟨Nat.le_trans (Nat.le_of_ble_eq_true rfl) hL.1, Nat.le_trans (Nat.le_of_ble_eq_true rfl) hL.2.1⟩ (Nat.le_of_ble_eq_true rfl) ⟨by have := hL.2.2.1; omega, by have := hL.2.2.2; omega⟩ (fun t ω h => ?_)
  obtain ⟨rfl, rfl⟩ := h
  refine r_iload C 1948 (j := 1) dL_law_1946 rfl rfl ?_
  refine r_icmp_eq C 1953 1951 dL_law_1948 (by decide) rfl (fun _ => ?_) (fun z => absurd hk z)
  refine r_iload C 1955 (j := 1) dL_law_1953 rfl rfl ?_
  refine r_if_ne C 1969 1958 dL_law_1955 (by decide) rfl (fun _ => r_goto C 2348 dL_law_1969 (by decide) (Ws_sub (L' := LL i) (fun q hq => List.mem_cons_of_mem _ (List.mem_cons_of_mem _ (hq))) (hc _ _ (by omega) hU.1))) (fun z => ?_)
  have hk0 : k = 0 := z
  refine r_aload_n C 1959 (j := 4) dL_law_1958 rfl rfl ?_
  refine r_iconst C 1960 (v := 0) dL_law_1959 rfl (by decide) ?_
  refine r_lald C 1961 dL_law_1960 rfl kd_233 (by unfold vp_in; decide) ?_
  refine r_lload C 1963 (j := 0) dL_law_1961 rfl rfl ?_
  exact r_lcmp_eq C 1964 1969 1967 dL_law_1963 rfl dL_law_1964 (by decide) rfl (fun _ => r_goto C 2348 dL_law_1969 (by decide) (Ws_sub (L' := LL i) (fun q hq => List.mem_cons_of_mem _ (List.mem_cons_of_mem _ (hq))) (hc _ _ (by omega) hU.1))) (fun w => absurd (by rw [show (0 : Int32).toNatClampNeg = 0 from rfl, hU.2, hO hk0, hb hk0]) w)
theorem st_31 {x : Ctx} {n : Nat} {i : Int32} {σ : Mem} {Len : Nat} {xs : Nat → Int32} (C : Cx x RL cL_law 10) (Sc : Scr x Len xs) (hL : Lw x n) (hin : ∀ c : Nat, c ≤ 4 → vp_in (i + Int32.ofNat c) Len) (hR : Rel σ) (hc : ∀ υ n', n' ≤ n + 4 → Rel υ → Ws x n' 2348 (LL i) [] υ) : Ws x n 1972 (LL i) [] σ := by
  show Ws x n 1972 [(5, .int i), (4, .ref 234), (3, .ref 233), (2, .ref 209), (1, .ref 0), (0, .ref 1003)] [] σ
  refine r_aload_n C 1973 (j := 4) dL_law_1972 rfl rfl ?_
  refine r_scr (j0 := 5) (j5 := 0) C Sc 1979 1 dL_law_1973 dL_law_1974 dL_law_1976 dL_law_1977 dL_law_1978 rfl rfl rfl rfl (hin 1 (by decide)) ?_
  refine r_aload_n C 1980 (j := 2) dL_law_1979 rfl rfl ?_
  refine r_lW (b := 0) (as := [.ref 0, .int (xs (i + 1).toNatClampNeg), .ref 233]) (S := []) C 1983 (cw_bestReturn _ σ (KwI (sp_X5_bestReturn (xs (i + 1).toNatClampNeg))) (q_bestReturn hR (fun r τ hA => KwI.a hA) (fun τ hA => ⟨rfl, KwI.b (by decide) hA⟩))) dL_law_1980 rfl wq_1141 wq_1140 wq_1142 wd_89 yd_L_bestReturn ⟨Nat.le_trans (Nat.le_of_ble_eq_true rfl) hL.1, Nat.le_trans (Nat.le_of_ble_eq_true rfl) hL.2.1⟩ (Nat.le_of_ble_eq_true rfl) ⟨by have := hL.2.2.1; omega, by have := hL.2.2.2; omega⟩ (fun k τ2 h => ?_)
  obtain ⟨r, τ, hF, hA, hO⟩ := h
  refine r_istore C 1985 [(6, .int k), (5, .int i), (4, .ref 234), (3, .ref 233), (2, .ref 209), (1, .ref 0), (0, .ref 1003)] dL_law_1983 rfl (by decide) rfl ?_
  refine r_aload_n C 1986 (j := 4) dL_law_1985 rfl rfl ?_
  refine r_scr (j0 := 6) (j5 := 1) C Sc 1992 1 dL_law_1986 dL_law_1987 dL_law_1989 dL_law_1990 dL_law_1991 rfl rfl rfl rfl (hin 1 (by decide)) ?_
  refine r_lVI (as := [.int (xs (i + 1).toNatClampNeg)]) (S := []) C 1995 (ct_X5_bestReturn _ τ2 (fun b υ => υ.1 209 0 = k ∧ (k = 0 → b = r) ∧ RU τ2 υ) (fun _ _ => False) (hA τ2 hF _ _ (fun b υ e1 e2 e3 => ⟨e1, e2, e3⟩))) dL_law_1992 rfl cl7 kd_209 wq_1662 wq_1661 rfl wq_1660 wq_1663 wd_95 yd_X5_bestReturn ⟨Nat.le_trans (Nat.le_of_ble_eq_true rfl) hL.1, Nat.le_trans (Nat.le_of_ble_eq_true rfl) hL.2.1⟩ (Nat.le_of_ble_eq_true rfl) ⟨by have := hL.2.2.1; omega, by have := hL.2.2.2; omega⟩ (fun b υ h => ?_)
  obtain ⟨hk, hb, hU⟩ := h
  refine r_istore C 1997 [(7, .int b), (6, .int k), (5, .int i), (4, .ref 234), (3, .ref 233), (2, .ref 209), (1, .ref 0), (0, .ref 1003)] dL_law_1995 rfl (by decide) rfl ?_
  refine r_aload_n C 1998 (j := 5) dL_law_1997 rfl rfl ?_
  refine r_lVI (as := []) (S := []) C 2001 (ct_X5_thrown υ (fun t ω => t = υ.1 209 0 ∧ ω = υ) (fun _ _ => False) ⟨rfl, rfl⟩) dL_law_1998 rfl cl7 kd_209 wq_1314 wq_1313 rfl wq_1312 wq_1315 wd_95 yd_X5_thrown ⟨Nat.le_trans (Nat.le_of_ble_eq_true rfl) hL.1, Nat.le_trans (Nat.le_of_ble_eq_true rfl) hL.2.1⟩ (Nat.le_of_ble_eq_true rfl) ⟨by have := hL.2.2.1; omega, by have := hL.2.2.2; omega⟩ (fun t ω h => ?_)
  obtain ⟨rfl, rfl⟩ := h
  refine r_iload C 2003 (j := 1) dL_law_2001 rfl rfl ?_
  refine r_icmp_eq C 2008 2006 dL_law_2003 (by decide) rfl (fun _ => ?_) (fun z => absurd hk z)
  refine r_iload C 2010 (j := 1) dL_law_2008 rfl rfl ?_
  refine r_if_ne C 2025 2013 dL_law_2010 (by decide) rfl (fun _ => r_goto C 2348 dL_law_2025 (by decide) (Ws_sub (L' := LL i) (fun q hq => List.mem_cons_of_mem _ (List.mem_cons_of_mem _ (hq))) (hc _ _ (by omega) hU.1))) (fun z => ?_)
  have hk0 : k = 0 := z
  refine r_aload_n C 2014 (j := 4) dL_law_2013 rfl rfl ?_
  refine r_iconst C 2015 (v := 0) dL_law_2014 rfl (by decide) ?_
  refine r_lald C 2016 dL_law_2015 rfl kd_233 (by unfold vp_in; decide) ?_
  refine r_iload C 2018 (j := 0) dL_law_2016 rfl rfl ?_
  refine r_i2l C 2019 dL_law_2018 rfl ?_
  exact r_lcmp_eq C 2020 2025 2023 dL_law_2019 rfl dL_law_2020 (by decide) rfl (fun _ => r_goto C 2348 dL_law_2025 (by decide) (Ws_sub (L' := LL i) (fun q hq => List.mem_cons_of_mem _ (List.mem_cons_of_mem _ (hq))) (hc _ _ (by omega) hU.1))) (fun w => absurd (by rw [show (0 : Int32).toNatClampNeg = 0 from rfl, hU.2, hO hk0, hb hk0]) w)
theorem st_32 {x : Ctx} {n : Nat} {i : Int32} {σ : Mem} {Len : Nat} {xs : Nat → Int32} (C : Cx x RL cL_law 10) (Sc : Scr x Len xs) (hL : Lw x n) (hin : ∀ c : Nat, c ≤ 4 → vp_in (i + Int32.ofNat c) Len) (hR : Rel σ) (hc : ∀ υ n', n' ≤ n + 4 → Rel υ → Ws x n' 2348 (LL i) [] υ) : Ws x n 2028 (LL i) [] σ := by
  show Ws x n 2028 [(5, .int i), (4, .ref 234), (3, .ref 233), (2, .ref 209), (1, .ref 0), (0, .ref 1003)] [] σ
  refine r_aload_n C 2029 (j := 4) dL_law_2028 rfl rfl ?_
  refine r_scr (j0 := 5) (j5 := 0) C Sc 2035 1 dL_law_2029 dL_law_2030 dL_law_2032 dL_law_2033 dL_law_2034 rfl rfl rfl rfl (hin 1 (by decide)) ?_
  refine r_aload_n C 2036 (j := 2) dL_law_2035 rfl rfl ?_
  refine r_lW (b := 0) (as := [.ref 0, .int (xs (i + 1).toNatClampNeg), .ref 233]) (S := []) C 2039 (cw_account _ σ (KwL (sp_X5_account (xs (i + 1).toNatClampNeg))) (q_account hR (fun r τ hA => KwL.a hA) (fun τ hA => ⟨rfl, KwL.b (by decide) hA⟩))) dL_law_2036 rfl wq_1149 wq_1148 wq_1150 wd_89 yd_L_account ⟨Nat.le_trans (Nat.le_of_ble_eq_true rfl) hL.1, Nat.le_trans (Nat.le_of_ble_eq_true rfl) hL.2.1⟩ (Nat.le_of_ble_eq_true rfl) ⟨by have := hL.2.2.1; omega, by have := hL.2.2.2; omega⟩ (fun k τ2 h => ?_)
  obtain ⟨r, τ, hF, hA, hO⟩ := h
  refine r_istore C 2041 [(6, .int k), (5, .int i), (4, .ref 234), (3, .ref 233), (2, .ref 209), (1, .ref 0), (0, .ref 1003)] dL_law_2039 rfl (by decide) rfl ?_
  refine r_aload_n C 2042 (j := 4) dL_law_2041 rfl rfl ?_
  refine r_scr (j0 := 6) (j5 := 1) C Sc 2048 1 dL_law_2042 dL_law_2043 dL_law_2045 dL_law_2046 dL_law_2047 rfl rfl rfl rfl (hin 1 (by decide)) ?_
  refine r_lVL (as := [.int (xs (i + 1).toNatClampNeg)]) (S := []) C 2051 (ct_X5_account _ τ2 (fun b υ => υ.1 209 0 = k ∧ (k = 0 → b = r) ∧ RU τ2 υ) (fun _ _ => False) (hA τ2 hF _ _ (fun b υ e1 e2 e3 => ⟨e1, e2, e3⟩))) dL_law_2048 rfl cl7 kd_209 wq_1666 wq_1665 rfl wq_1664 wq_1667 wd_95 yd_X5_account ⟨Nat.le_trans (Nat.le_of_ble_eq_true rfl) hL.1, Nat.le_trans (Nat.le_of_ble_eq_true rfl) hL.2.1⟩ (Nat.le_of_ble_eq_true rfl) ⟨by have := hL.2.2.1; omega, by have := hL.2.2.2; omega⟩ (fun b υ h => ?_)
  obtain ⟨hk, hb, hU⟩ := h
  refine r_lstore C 2053 [(7, .long b), (6, .int k), (5, .int i), (4, .ref 234), (3, .ref 233), (2, .ref 209), (1, .ref 0), (0, .ref 1003)] dL_law_2051 rfl (by decide) rfl ?_
  refine r_aload_n C 2054 (j := 5) dL_law_2053 rfl rfl ?_
  refine r_lVI (as := []) (S := []) C 2057 (ct_X5_thrown υ (fun t ω => t = υ.1 209 0 ∧ ω = υ) (fun _ _ => False) ⟨rfl, rfl⟩) dL_law_2054 rfl cl7 kd_209 wq_1314 wq_1313 rfl wq_1312 wq_1315 wd_95 yd_X5_thrown ⟨Nat.le_trans (Nat.le_of_ble_eq_true rfl) hL.1, Nat.le_trans (Nat.le_of_ble_eq_true rfl) hL.2.1⟩ (Nat.le_of_ble_eq_true rfl) ⟨by have := hL.2.2.1; omega, by have := hL.2.2.2; omega⟩ (fun t ω h => ?_)
  obtain ⟨rfl, rfl⟩ := h
  refine r_iload C 2059 (j := 1) dL_law_2057 rfl rfl ?_
  refine r_icmp_eq C 2064 2062 dL_law_2059 (by decide) rfl (fun _ => ?_) (fun z => absurd hk z)
  refine r_iload C 2066 (j := 1) dL_law_2064 rfl rfl ?_
  refine r_if_ne C 2080 2069 dL_law_2066 (by decide) rfl (fun _ => r_goto C 2348 dL_law_2080 (by decide) (Ws_sub (L' := LL i) (fun q hq => List.mem_cons_of_mem _ (List.mem_cons_of_mem _ (hq))) (hc _ _ (by omega) hU.1))) (fun z => ?_)
  have hk0 : k = 0 := z
  refine r_aload_n C 2070 (j := 4) dL_law_2069 rfl rfl ?_
  refine r_iconst C 2071 (v := 0) dL_law_2070 rfl (by decide) ?_
  refine r_lald C 2072 dL_law_2071 rfl kd_233 (by unfold vp_in; decide) ?_
  refine r_lload C 2074 (j := 0) dL_law_2072 rfl rfl ?_
  exact r_lcmp_eq C 2075 2080 2078 dL_law_2074 rfl dL_law_2075 (by decide) rfl (fun _ => r_goto C 2348 dL_law_2080 (by decide) (Ws_sub (L' := LL i) (fun q hq => List.mem_cons_of_mem _ (List.mem_cons_of_mem _ (hq))) (hc _ _ (by omega) hU.1))) (fun w => absurd (by rw [show (0 : Int32).toNatClampNeg = 0 from rfl, hU.2, hO hk0, hb hk0]) w)
theorem st_35 {x : Ctx} {n : Nat} {i : Int32} {σ : Mem} {Len : Nat} {xs : Nat → Int32} (C : Cx x RL cL_law 10) (Sc : Scr x Len xs) (hL : Lw x n) (hin : ∀ c : Nat, c ≤ 4 → vp_in (i + Int32.ofNat c) Len) (hR : Rel σ) (hc : ∀ υ n', n' ≤ n + 4 → Rel υ → Ws x n' 2348 (LL i) [] υ) : Ws x n 2191 (LL i) [] σ := by
  show Ws x n 2191 [(5, .int i), (4, .ref 234), (3, .ref 233), (2, .ref 209), (1, .ref 0), (0, .ref 1003)] [] σ
  refine r_aload_n C 2192 (j := 4) dL_law_2191 rfl rfl ?_
  refine r_scr (j0 := 5) (j5 := 0) C Sc 2198 1 dL_law_2192 dL_law_2193 dL_law_2195 dL_law_2196 dL_law_2197 rfl rfl rfl rfl (hin 1 (by decide)) ?_
  refine r_aload_n C 2199 (j := 2) dL_law_2198 rfl rfl ?_
  refine r_lW (b := 0) (as := [.ref 0, .int (xs (i + 1).toNatClampNeg), .ref 233]) (S := []) C 2202 (cw_count _ σ (KwI (sp_X5_count (xs (i + 1).toNatClampNeg))) (q_count hR (fun r τ hA => KwI.a hA) (fun τ hA => ⟨rfl, KwI.b (by decide) hA⟩))) dL_law_2199 rfl wq_1183 wq_1182 wq_1184 wd_89 yd_L_count ⟨Nat.le_trans (Nat.le_of_ble_eq_true rfl) hL.1, Nat.le_trans (Nat.le_of_ble_eq_true rfl) hL.2.1⟩ (Nat.le_of_ble_eq_true rfl) ⟨by have := hL.2.2.1; omega, by have := hL.2.2.2; omega⟩ (fun k τ2 h => ?_)
  obtain ⟨r, τ, hF, hA, hO⟩ := h
  refine r_istore C 2204 [(6, .int k), (5, .int i), (4, .ref 234), (3, .ref 233), (2, .ref 209), (1, .ref 0), (0, .ref 1003)] dL_law_2202 rfl (by decide) rfl ?_
  refine r_aload_n C 2205 (j := 4) dL_law_2204 rfl rfl ?_
  refine r_scr (j0 := 6) (j5 := 1) C Sc 2211 1 dL_law_2205 dL_law_2206 dL_law_2208 dL_law_2209 dL_law_2210 rfl rfl rfl rfl (hin 1 (by decide)) ?_
  refine r_lVI (as := [.int (xs (i + 1).toNatClampNeg)]) (S := []) C 2214 (ct_X5_count _ τ2 (fun b υ => υ.1 209 0 = k ∧ (k = 0 → b = r) ∧ RU τ2 υ) (fun _ _ => False) (hA τ2 hF _ _ (fun b υ e1 e2 e3 => ⟨e1, e2, e3⟩))) dL_law_2211 rfl cl7 kd_209 wq_1679 wq_1678 rfl wq_1677 wq_1680 wd_95 yd_X5_count ⟨Nat.le_trans (Nat.le_of_ble_eq_true rfl) hL.1, Nat.le_trans (Nat.le_of_ble_eq_true rfl) hL.2.1⟩ (Nat.le_of_ble_eq_true rfl) ⟨by have := hL.2.2.1; omega, by have := hL.2.2.2; omega⟩ (fun b υ h => ?_)
  obtain ⟨hk, hb, hU⟩ := h
  refine r_istore C 2216 [(7, .int b), (6, .int k), (5, .int i), (4, .ref 234), (3, .ref 233), (2, .ref 209), (1, .ref 0), (0, .ref 1003)] dL_law_2214 rfl (by decide) rfl ?_
  refine r_aload_n C 2217 (j := 5) dL_law_2216 rfl rfl ?_
  refine r_lVI (as := []) (S := []) C 2220 (ct_X5_thrown υ (fun t ω => t = υ.1 209 0 ∧ ω = υ) (fun _ _ => False) ⟨rfl, rfl⟩) dL_law_2217 rfl cl7 kd_209 wq_1314 wq_1313 rfl wq_1312 wq_1315 wd_95 yd_X5_thrown ⟨Nat.le_trans (Nat.le_of_ble_eq_true rfl) hL.1, Nat.le_trans (Nat.le_of_ble_eq_true rfl) hL.2.1⟩ (Nat.le_of_ble_eq_true rfl) ⟨by have := hL.2.2.1; omega, by have := hL.2.2.2; omega⟩ (fun t ω h => ?_)
  obtain ⟨rfl, rfl⟩ := h
  refine r_iload C 2222 (j := 1) dL_law_2220 rfl rfl ?_
  refine r_icmp_eq C 2227 2225 dL_law_2222 (by decide) rfl (fun _ => ?_) (fun z => absurd hk z)
  refine r_iload C 2229 (j := 1) dL_law_2227 rfl rfl ?_
  refine r_if_ne C 2244 2232 dL_law_2229 (by decide) rfl (fun _ => r_goto C 2348 dL_law_2244 (by decide) (Ws_sub (L' := LL i) (fun q hq => List.mem_cons_of_mem _ (List.mem_cons_of_mem _ (hq))) (hc _ _ (by omega) hU.1))) (fun z => ?_)
  have hk0 : k = 0 := z
  refine r_aload_n C 2233 (j := 4) dL_law_2232 rfl rfl ?_
  refine r_iconst C 2234 (v := 0) dL_law_2233 rfl (by decide) ?_
  refine r_lald C 2235 dL_law_2234 rfl kd_233 (by unfold vp_in; decide) ?_
  refine r_iload C 2237 (j := 0) dL_law_2235 rfl rfl ?_
  refine r_i2l C 2238 dL_law_2237 rfl ?_
  exact r_lcmp_eq C 2239 2244 2242 dL_law_2238 rfl dL_law_2239 (by decide) rfl (fun _ => r_goto C 2348 dL_law_2244 (by decide) (Ws_sub (L' := LL i) (fun q hq => List.mem_cons_of_mem _ (List.mem_cons_of_mem _ (hq))) (hc _ _ (by omega) hU.1))) (fun w => absurd (by rw [show (0 : Int32).toNatClampNeg = 0 from rfl, hU.2, hO hk0, hb hk0]) w)
theorem st_36 {x : Ctx} {n : Nat} {i : Int32} {σ : Mem} {Len : Nat} {xs : Nat → Int32} (C : Cx x RL cL_law 10) (Sc : Scr x Len xs) (hL : Lw x n) (hin : ∀ c : Nat, c ≤ 4 → vp_in (i + Int32.ofNat c) Len) (hR : Rel σ) (hc : ∀ υ n', n' ≤ n + 4 → Rel υ → Ws x n' 2348 (LL i) [] υ) : Ws x n 2247 (LL i) [] σ := by
  show Ws x n 2247 [(5, .int i), (4, .ref 234), (3, .ref 233), (2, .ref 209), (1, .ref 0), (0, .ref 1003)] [] σ
  refine r_aload_n C 2248 (j := 4) dL_law_2247 rfl rfl ?_
  refine r_aload_n C 2249 (j := 2) dL_law_2248 rfl rfl ?_
  refine r_lW (b := 0) (as := [.ref 0, .ref 233]) (S := []) C 2252 (cw_undo  σ (KwI sp_X5_undo) (q_undo hR (fun r τ hA => KwI.a hA) (fun τ hA => ⟨rfl, KwI.b (by decide) hA⟩))) dL_law_2249 rfl wq_1190 wq_1189 wq_1191 wd_89 yd_L_undo ⟨Nat.le_trans (Nat.le_of_ble_eq_true rfl) hL.1, Nat.le_trans (Nat.le_of_ble_eq_true rfl) hL.2.1⟩ (Nat.le_of_ble_eq_true rfl) ⟨by have := hL.2.2.1; omega, by have := hL.2.2.2; omega⟩ (fun k τ2 h => ?_)
  obtain ⟨r, τ, hF, hA, hO⟩ := h
  refine r_istore C 2254 [(6, .int k), (5, .int i), (4, .ref 234), (3, .ref 233), (2, .ref 209), (1, .ref 0), (0, .ref 1003)] dL_law_2252 rfl (by decide) rfl ?_
  refine r_aload_n C 2255 (j := 4) dL_law_2254 rfl rfl ?_
  refine r_lVI (as := []) (S := []) C 2258 (ct_X5_undo  τ2 (fun b υ => υ.1 209 0 = k ∧ (k = 0 → b = r) ∧ RU τ2 υ) (fun _ _ => False) (hA τ2 hF _ _ (fun b υ e1 e2 e3 => ⟨e1, e2, e3⟩))) dL_law_2255 rfl cl7 kd_209 wq_1683 wq_1682 rfl wq_1681 wq_1684 wd_95 yd_X5_undo ⟨Nat.le_trans (Nat.le_of_ble_eq_true rfl) hL.1, Nat.le_trans (Nat.le_of_ble_eq_true rfl) hL.2.1⟩ (Nat.le_of_ble_eq_true rfl) ⟨by have := hL.2.2.1; omega, by have := hL.2.2.2; omega⟩ (fun b υ h => ?_)
  obtain ⟨hk, hb, hU⟩ := h
  refine r_istore C 2260 [(7, .int b), (6, .int k), (5, .int i), (4, .ref 234), (3, .ref 233), (2, .ref 209), (1, .ref 0), (0, .ref 1003)] dL_law_2258 rfl (by decide) rfl ?_
  refine r_aload_n C 2261 (j := 5) dL_law_2260 rfl rfl ?_
  refine r_lVI (as := []) (S := []) C 2264 (ct_X5_thrown υ (fun t ω => t = υ.1 209 0 ∧ ω = υ) (fun _ _ => False) ⟨rfl, rfl⟩) dL_law_2261 rfl cl7 kd_209 wq_1314 wq_1313 rfl wq_1312 wq_1315 wd_95 yd_X5_thrown ⟨Nat.le_trans (Nat.le_of_ble_eq_true rfl) hL.1, Nat.le_trans (Nat.le_of_ble_eq_true rfl) hL.2.1⟩ (Nat.le_of_ble_eq_true rfl) ⟨by have := hL.2.2.1; omega, by have := hL.2.2.2; omega⟩ (fun t ω h => ?_)
  obtain ⟨rfl, rfl⟩ := h
  refine r_iload C 2266 (j := 1) dL_law_2264 rfl rfl ?_
  refine r_icmp_eq C 2271 2269 dL_law_2266 (by decide) rfl (fun _ => ?_) (fun z => absurd hk z)
  refine r_iload C 2273 (j := 1) dL_law_2271 rfl rfl ?_
  refine r_if_ne C 2288 2276 dL_law_2273 (by decide) rfl (fun _ => r_goto C 2348 dL_law_2288 (by decide) (Ws_sub (L' := LL i) (fun q hq => List.mem_cons_of_mem _ (List.mem_cons_of_mem _ (hq))) (hc _ _ (by omega) hU.1))) (fun z => ?_)
  have hk0 : k = 0 := z
  refine r_aload_n C 2277 (j := 4) dL_law_2276 rfl rfl ?_
  refine r_iconst C 2278 (v := 0) dL_law_2277 rfl (by decide) ?_
  refine r_lald C 2279 dL_law_2278 rfl kd_233 (by unfold vp_in; decide) ?_
  refine r_iload C 2281 (j := 0) dL_law_2279 rfl rfl ?_
  refine r_i2l C 2282 dL_law_2281 rfl ?_
  exact r_lcmp_eq C 2283 2288 2286 dL_law_2282 rfl dL_law_2283 (by decide) rfl (fun _ => r_goto C 2348 dL_law_2288 (by decide) (Ws_sub (L' := LL i) (fun q hq => List.mem_cons_of_mem _ (List.mem_cons_of_mem _ (hq))) (hc _ _ (by omega) hU.1))) (fun w => absurd (by rw [show (0 : Int32).toNatClampNeg = 0 from rfl, hU.2, hO hk0, hb hk0]) w)
theorem st_37 {x : Ctx} {n : Nat} {i : Int32} {σ : Mem} {Len : Nat} {xs : Nat → Int32} (C : Cx x RL cL_law 10) (Sc : Scr x Len xs) (hL : Lw x n) (hin : ∀ c : Nat, c ≤ 4 → vp_in (i + Int32.ofNat c) Len) (hR : Rel σ) (hc : ∀ υ n', n' ≤ n + 4 → Rel υ → Ws x n' 2348 (LL i) [] υ) : Ws x n 2291 (LL i) [] σ := by
  show Ws x n 2291 [(5, .int i), (4, .ref 234), (3, .ref 233), (2, .ref 209), (1, .ref 0), (0, .ref 1003)] [] σ
  refine r_aload_n C 2292 (j := 4) dL_law_2291 rfl rfl ?_
  refine r_lVI (as := []) (S := []) C 2295 (ct_X4_save σ (fun r τ => AnI sp_X5_save 0 r τ) (fun _ _ => False) (q_save hR (fun r τ hA => hA))) dL_law_2292 rfl cl6 kd_0 wq_585 wq_584 rfl wq_583 wq_586 wd_90 yd_X4_save ⟨Nat.le_trans (Nat.le_of_ble_eq_true rfl) hL.1, Nat.le_trans (Nat.le_of_ble_eq_true rfl) hL.2.1⟩ (Nat.le_of_ble_eq_true rfl) ⟨by have := hL.2.2.1; omega, by have := hL.2.2.2; omega⟩ (fun r τ hA => ?_)
  refine r_aload_n C 2296 (j := 3) dL_law_2295 rfl rfl ?_
  refine r_lVI (as := []) (S := [.int r]) C 2299 (ct_X5_save τ (fun b υ => b = r ∧ Rel υ) (fun _ _ => False) (hA τ (FO.rfl' _) _ _ (fun b υ e1 e2 e3 => ⟨e2 rfl, e3.1⟩))) dL_law_2296 rfl cl7 kd_209 wq_1687 wq_1686 rfl wq_1685 wq_1688 wd_95 yd_X5_save ⟨Nat.le_trans (Nat.le_of_ble_eq_true rfl) hL.1, Nat.le_trans (Nat.le_of_ble_eq_true rfl) hL.2.1⟩ (Nat.le_of_ble_eq_true rfl) ⟨by have := hL.2.2.1; omega, by have := hL.2.2.2; omega⟩ (fun b υ h => ?_)
  obtain ⟨rfl, hRe⟩ := h
  exact r_icmp_eq C 2348 2302 dL_law_2299 (by decide) rfl (fun _ => hc _ _ (by omega) hRe) (fun z => absurd rfl z)
theorem st_38 {x : Ctx} {n : Nat} {i : Int32} {σ : Mem} {Len : Nat} {xs : Nat → Int32} (C : Cx x RL cL_law 10) (Sc : Scr x Len xs) (hL : Lw x n) (hin : ∀ c : Nat, c ≤ 4 → vp_in (i + Int32.ofNat c) Len) (hR : Rel σ) (hc : ∀ υ n', n' ≤ n + 4 → Rel υ → Ws x n' 2348 (LL i) [] υ) : Ws x n 2304 (LL i) [] σ := by
  show Ws x n 2304 [(5, .int i), (4, .ref 234), (3, .ref 233), (2, .ref 209), (1, .ref 0), (0, .ref 1003)] [] σ
  refine r_aload_n C 2305 (j := 4) dL_law_2304 rfl rfl ?_
  refine r_aload_n C 2306 (j := 2) dL_law_2305 rfl rfl ?_
  refine r_lW (b := 0) (as := [.ref 0, .ref 233]) (S := []) C 2309 (cw_restore  σ (KwI sp_X5_restore) (q_restore hR (fun r τ hA => KwI.a hA) (fun τ hA => ⟨rfl, KwI.b (by decide) hA⟩))) dL_law_2306 rfl wq_1198 wq_1197 wq_1199 wd_89 yd_L_restore ⟨Nat.le_trans (Nat.le_of_ble_eq_true rfl) hL.1, Nat.le_trans (Nat.le_of_ble_eq_true rfl) hL.2.1⟩ (Nat.le_of_ble_eq_true rfl) ⟨by have := hL.2.2.1; omega, by have := hL.2.2.2; omega⟩ (fun k τ2 h => ?_)
  obtain ⟨r, τ, hF, hA, hO⟩ := h
  refine r_istore C 2311 [(6, .int k), (5, .int i), (4, .ref 234), (3, .ref 233), (2, .ref 209), (1, .ref 0), (0, .ref 1003)] dL_law_2309 rfl (by decide) rfl ?_
  refine r_aload_n C 2312 (j := 4) dL_law_2311 rfl rfl ?_
  refine r_lVI (as := []) (S := []) C 2315 (ct_X5_restore  τ2 (fun b υ => υ.1 209 0 = k ∧ (k = 0 → b = r) ∧ RU τ2 υ) (fun _ _ => False) (hA τ2 hF _ _ (fun b υ e1 e2 e3 => ⟨e1, e2, e3⟩))) dL_law_2312 rfl cl7 kd_209 wq_1691 wq_1690 rfl wq_1689 wq_1692 wd_95 yd_X5_restore ⟨Nat.le_trans (Nat.le_of_ble_eq_true rfl) hL.1, Nat.le_trans (Nat.le_of_ble_eq_true rfl) hL.2.1⟩ (Nat.le_of_ble_eq_true rfl) ⟨by have := hL.2.2.1; omega, by have := hL.2.2.2; omega⟩ (fun b υ h => ?_)
  obtain ⟨hk, hb, hU⟩ := h
  refine r_istore C 2317 [(7, .int b), (6, .int k), (5, .int i), (4, .ref 234), (3, .ref 233), (2, .ref 209), (1, .ref 0), (0, .ref 1003)] dL_law_2315 rfl (by decide) rfl ?_
  refine r_aload_n C 2318 (j := 5) dL_law_2317 rfl rfl ?_
  refine r_lVI (as := []) (S := []) C 2321 (ct_X5_thrown υ (fun t ω => t = υ.1 209 0 ∧ ω = υ) (fun _ _ => False) ⟨rfl, rfl⟩) dL_law_2318 rfl cl7 kd_209 wq_1314 wq_1313 rfl wq_1312 wq_1315 wd_95 yd_X5_thrown ⟨Nat.le_trans (Nat.le_of_ble_eq_true rfl) hL.1, Nat.le_trans (Nat.le_of_ble_eq_true rfl) hL.2.1⟩ (Nat.le_of_ble_eq_true rfl) ⟨by have := hL.2.2.1; omega, by have := hL.2.2.2; omega⟩ (fun t ω h => ?_)
  obtain ⟨rfl, rfl⟩ := h
  refine r_iload C 2323 (j := 1) dL_law_2321 rfl rfl ?_
  refine r_icmp_eq C 2328 2326 dL_law_2323 (by decide) rfl (fun _ => ?_) (fun z => absurd hk z)
  refine r_iload C 2330 (j := 1) dL_law_2328 rfl rfl ?_
  refine r_if_ne C 2345 2333 dL_law_2330 (by decide) rfl (fun _ => r_goto C 2348 dL_law_2345 (by decide) (Ws_sub (L' := LL i) (fun q hq => List.mem_cons_of_mem _ (List.mem_cons_of_mem _ (hq))) (hc _ _ (by omega) hU.1))) (fun z => ?_)
  have hk0 : k = 0 := z
  refine r_aload_n C 2334 (j := 4) dL_law_2333 rfl rfl ?_
  refine r_iconst C 2335 (v := 0) dL_law_2334 rfl (by decide) ?_
  refine r_lald C 2336 dL_law_2335 rfl kd_233 (by unfold vp_in; decide) ?_
  refine r_iload C 2338 (j := 0) dL_law_2336 rfl rfl ?_
  refine r_i2l C 2339 dL_law_2338 rfl ?_
  exact r_lcmp_eq C 2340 2345 2343 dL_law_2339 rfl dL_law_2340 (by decide) rfl (fun _ => r_goto C 2348 dL_law_2345 (by decide) (Ws_sub (L' := LL i) (fun q hq => List.mem_cons_of_mem _ (List.mem_cons_of_mem _ (hq))) (hc _ _ (by omega) hU.1))) (fun w => absurd (by rw [show (0 : Int32).toNatClampNeg = 0 from rfl, hU.2, hO hk0, hb hk0]) w)
