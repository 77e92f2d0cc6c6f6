set_option maxHeartbeats 4000000 in
theorem lc_pipe {N : Nat} {xs : rb_Row} {r : Option Int32} {μf μ : rb_Mem} {i : Int32} {v1 : Int32} {o1 : Int32 × rb_Row × rb_Row × rb_Row} {o2 : Int32 × rb_Row × rb_Row × rb_Row} (e1 : rb_rd xs N (i + 1) = some v1) (h1 : XX6_pipe (μ 5) (μ 14) (μ 13) v1 = some o1) (h2 : XX7_pipe (μ 20) (μ 19) (μ 31) v1 = some o2) (he : o1.1 = o2.1) (K : rb_Ev RL cL_law 4 (some .boolean) (some (N, xs)) 60 r μf 1521 [some (.inr 99), some (.inr 0), some (.inr 19), some (.inl i)] [] (rb_ov (rb_ov μ [(5, o1.2.1), (14, o1.2.2.1), (13, o1.2.2.2)]) [(20, o2.2.1), (19, o2.2.2.1), (31, o2.2.2.2)])) : rb_Ev RL cL_law 4 (some .boolean) (some (N, xs)) 60 r μf 220 [some (.inr 99), some (.inr 0), some (.inr 19), some (.inl i)] [] μ := by
  refine ev_aload_n (v := 0) (pc := 220) dL_law_220 rfl ?_
  refine ev_aload_n (v := 99) (pc := 221) dL_law_221 rfl ?_
  refine ev_iload_n (v := i) (pc := 222) dL_law_222 rfl ?_
  refine ev_iconst (v := 1) (pc := 223) dL_law_223 ki_1 ?_
  refine ev_iadd (pc := 224) dL_law_224 ?_
  refine ev_sld (pc := 225) dL_law_225 rfl e1 ?_
  refine ev_cVi1 (pc := 226) dL_law_226 mv_X6_pipe lk_RL_13 rp_0 (ct_X6_pipe _ _ _ _ _ _ rfl rfl rfl h1) (Nat.le_of_ble_eq_true rfl) (Nat.le_of_ble_eq_true rfl) ?_
  refine ev_aload_n (v := 19) (pc := 229) dL_law_229 rfl ?_
  refine ev_aload_n (v := 99) (pc := 230) dL_law_230 rfl ?_
  refine ev_iload_n (v := i) (pc := 231) dL_law_231 rfl ?_
  refine ev_iconst (v := 1) (pc := 232) dL_law_232 ki_1 ?_
  refine ev_iadd (pc := 233) dL_law_233 ?_
  refine ev_sld (pc := 234) dL_law_234 rfl e1 ?_
  refine ev_cVi1 (pc := 235) dL_law_235 mv_X7_pipe lk_RL_17 rp_19 (ct_X7_pipe _ _ _ _ _ _ rfl rfl rfl h2) (Nat.le_of_ble_eq_true rfl) (Nat.le_of_ble_eq_true rfl) ?_
  exact ev_icmp_eq_t (t := 1521) (pc := 238) dL_law_238 (by decide) he K
set_option maxHeartbeats 4000000 in
theorem lc_counter {N : Nat} {xs : rb_Row} {r : Option Int32} {μf μ : rb_Mem} {i : Int32} {v1 v2 : Int32} {b : Int32} {o1 : Int32 × rb_Row × rb_Row × rb_Row} {o2 : Int32 × rb_Row × rb_Row × rb_Row} (e1 : rb_rd xs N (i + 1) = some v1) (e2 : rb_rd xs N (i + 2) = some v2) (hb : b = if v2 = 0 then 0 else 1) (h1 : XX6_counter (μ 5) (μ 14) (μ 13) v1 b = some o1) (h2 : XX7_counter (μ 20) (μ 19) (μ 31) v1 b = some o2) (he : o1.1 = o2.1) (K : rb_Ev RL cL_law 4 (some .boolean) (some (N, xs)) 60 r μf 1521 [some (.inr 99), some (.inr 0), some (.inr 19), some (.inl i)] [] (rb_ov (rb_ov μ [(5, o1.2.1), (14, o1.2.2.1), (13, o1.2.2.2)]) [(20, o2.2.1), (19, o2.2.2.1), (31, o2.2.2.2)])) : rb_Ev RL cL_law 4 (some .boolean) (some (N, xs)) 60 r μf 243 [some (.inr 99), some (.inr 0), some (.inr 19), some (.inl i)] [] μ := by
  refine ev_aload_n (v := 0) (pc := 243) dL_law_243 rfl ?_
  refine ev_aload_n (v := 99) (pc := 244) dL_law_244 rfl ?_
  refine ev_iload_n (v := i) (pc := 245) dL_law_245 rfl ?_
  refine ev_iconst (v := 1) (pc := 246) dL_law_246 ki_1 ?_
  refine ev_iadd (pc := 247) dL_law_247 ?_
  refine ev_sld (pc := 248) dL_law_248 rfl e1 ?_
  refine ev_aload_n (v := 99) (pc := 249) dL_law_249 rfl ?_
  refine ev_iload_n (v := i) (pc := 250) dL_law_250 rfl ?_
  refine ev_iconst (v := 2) (pc := 251) dL_law_251 ki_2 ?_
  refine ev_iadd (pc := 252) dL_law_252 ?_
  refine ev_sld (pc := 253) dL_law_253 rfl e2 ?_
  by_cases hz : v2 = 0
  · rw [if_pos hz] at hb
    subst hb
    refine ev_if_eq_t (t := 261) (pc := 254) dL_law_254 (by decide) hz ?_
    refine ev_iconst (v := 0) (pc := 261) dL_law_261 ki_0 ?_
    refine ev_cVi2 (pc := 262) dL_law_262 mv_X6_counter lk_RL_18 rp_0 (ct_X6_counter _ _ _ _ _ _ _ rfl rfl rfl h1) (Nat.le_of_ble_eq_true rfl) (Nat.le_of_ble_eq_true rfl) ?_
    refine ev_aload_n (v := 19) (pc := 265) dL_law_265 rfl ?_
    refine ev_aload_n (v := 99) (pc := 266) dL_law_266 rfl ?_
    refine ev_iload_n (v := i) (pc := 267) dL_law_267 rfl ?_
    refine ev_iconst (v := 1) (pc := 268) dL_law_268 ki_1 ?_
    refine ev_iadd (pc := 269) dL_law_269 ?_
    refine ev_sld (pc := 270) dL_law_270 rfl e1 ?_
    refine ev_aload_n (v := 99) (pc := 271) dL_law_271 rfl ?_
    refine ev_iload_n (v := i) (pc := 272) dL_law_272 rfl ?_
    refine ev_iconst (v := 2) (pc := 273) dL_law_273 ki_2 ?_
    refine ev_iadd (pc := 274) dL_law_274 ?_
    refine ev_sld (pc := 275) dL_law_275 rfl e2 ?_
    refine ev_if_eq_t (t := 283) (pc := 276) dL_law_276 (by decide) hz ?_
    refine ev_iconst (v := 0) (pc := 283) dL_law_283 ki_0 ?_
    refine ev_cVi2 (pc := 284) dL_law_284 mv_X7_counter lk_RL_22 rp_19 (ct_X7_counter _ _ _ _ _ _ _ rfl rfl rfl h2) (Nat.le_of_ble_eq_true rfl) (Nat.le_of_ble_eq_true rfl) ?_
    exact ev_icmp_eq_t (t := 1521) (pc := 287) dL_law_287 (by decide) he K
  · rw [if_neg hz] at hb
    subst hb
    refine ev_if_eq_f (t := 261) (pc := 254) dL_law_254 (by decide) hz ?_
    refine ev_iconst (v := 1) (pc := 257) dL_law_257 ki_1 ?_
    refine ev_goto (t := 262) (pc := 258) dL_law_258 (by decide) ?_
    refine ev_cVi2 (pc := 262) dL_law_262 mv_X6_counter lk_RL_18 rp_0 (ct_X6_counter _ _ _ _ _ _ _ rfl rfl rfl h1) (Nat.le_of_ble_eq_true rfl) (Nat.le_of_ble_eq_true rfl) ?_
    refine ev_aload_n (v := 19) (pc := 265) dL_law_265 rfl ?_
    refine ev_aload_n (v := 99) (pc := 266) dL_law_266 rfl ?_
    refine ev_iload_n (v := i) (pc := 267) dL_law_267 rfl ?_
    refine ev_iconst (v := 1) (pc := 268) dL_law_268 ki_1 ?_
    refine ev_iadd (pc := 269) dL_law_269 ?_
    refine ev_sld (pc := 270) dL_law_270 rfl e1 ?_
    refine ev_aload_n (v := 99) (pc := 271) dL_law_271 rfl ?_
    refine ev_iload_n (v := i) (pc := 272) dL_law_272 rfl ?_
    refine ev_iconst (v := 2) (pc := 273) dL_law_273 ki_2 ?_
    refine ev_iadd (pc := 274) dL_law_274 ?_
    refine ev_sld (pc := 275) dL_law_275 rfl e2 ?_
    refine ev_if_eq_f (t := 283) (pc := 276) dL_law_276 (by decide) hz ?_
    refine ev_iconst (v := 1) (pc := 279) dL_law_279 ki_1 ?_
    refine ev_goto (t := 284) (pc := 280) dL_law_280 (by decide) ?_
    refine ev_cVi2 (pc := 284) dL_law_284 mv_X7_counter lk_RL_22 rp_19 (ct_X7_counter _ _ _ _ _ _ _ rfl rfl rfl h2) (Nat.le_of_ble_eq_true rfl) (Nat.le_of_ble_eq_true rfl) ?_
    exact ev_icmp_eq_t (t := 1521) (pc := 287) dL_law_287 (by decide) he K
set_option maxHeartbeats 4000000 in
theorem lc_timer {N : Nat} {xs : rb_Row} {r : Option Int32} {μf μ : rb_Mem} {i : Int32} {o1 : Int32 × rb_Row × rb_Row × rb_Row} {o2 : Int32 × rb_Row × rb_Row × rb_Row} (h1 : XX6_timer (μ 5) (μ 14) (μ 13) = some o1) (h2 : XX7_timer (μ 20) (μ 19) (μ 31) = some o2) (he : o1.1 = o2.1) (K : rb_Ev RL cL_law 4 (some .boolean) (some (N, xs)) 60 r μf 1521 [some (.inr 99), some (.inr 0), some (.inr 19), some (.inl i)] [] (rb_ov (rb_ov μ [(5, o1.2.1), (14, o1.2.2.1), (13, o1.2.2.2)]) [(20, o2.2.1), (19, o2.2.2.1), (31, o2.2.2.2)])) : rb_Ev RL cL_law 4 (some .boolean) (some (N, xs)) 60 r μf 292 [some (.inr 99), some (.inr 0), some (.inr 19), some (.inl i)] [] μ := by
  refine ev_aload_n (v := 0) (pc := 292) dL_law_292 rfl ?_
  refine ev_cVi0 (pc := 293) dL_law_293 mv_X6_timer lk_RL_23 rp_0 (ct_X6_timer _ _ _ _ _ rfl rfl rfl h1) (Nat.le_of_ble_eq_true rfl) (Nat.le_of_ble_eq_true rfl) ?_
  refine ev_aload_n (v := 19) (pc := 296) dL_law_296 rfl ?_
  refine ev_cVi0 (pc := 297) dL_law_297 mv_X7_timer lk_RL_27 rp_19 (ct_X7_timer _ _ _ _ _ rfl rfl rfl h2) (Nat.le_of_ble_eq_true rfl) (Nat.le_of_ble_eq_true rfl) ?_
  exact ev_icmp_eq_t (t := 1521) (pc := 300) dL_law_300 (by decide) he K
set_option maxHeartbeats 4000000 in
theorem lc_set {N : Nat} {xs : rb_Row} {r : Option Int32} {μf μ : rb_Mem} {i : Int32} {o1 : Int32 × rb_Row × rb_Row × rb_Row} {o2 : Int32 × rb_Row × rb_Row × rb_Row} (h1 : XX6_set (μ 5) (μ 14) (μ 13) = some o1) (h2 : XX7_set (μ 20) (μ 19) (μ 31) = some o2) (he : o1.1 = o2.1) (K : rb_Ev RL cL_law 4 (some .boolean) (some (N, xs)) 60 r μf 1521 [some (.inr 99), some (.inr 0), some (.inr 19), some (.inl i)] [] (rb_ov (rb_ov μ [(5, o1.2.1), (14, o1.2.2.1), (13, o1.2.2.2)]) [(20, o2.2.1), (19, o2.2.2.1), (31, o2.2.2.2)])) : rb_Ev RL cL_law 4 (some .boolean) (some (N, xs)) 60 r μf 305 [some (.inr 99), some (.inr 0), some (.inr 19), some (.inl i)] [] μ := by
  refine ev_aload_n (v := 0) (pc := 305) dL_law_305 rfl ?_
  refine ev_cVi0 (pc := 306) dL_law_306 mv_X6_set lk_RL_28 rp_0 (ct_X6_set _ _ _ _ _ rfl rfl rfl h1) (Nat.le_of_ble_eq_true rfl) (Nat.le_of_ble_eq_true rfl) ?_
  refine ev_aload_n (v := 19) (pc := 309) dL_law_309 rfl ?_
  refine ev_cVi0 (pc := 310) dL_law_310 mv_X7_set lk_RL_31 rp_19 (ct_X7_set _ _ _ _ _ rfl rfl rfl h2) (Nat.le_of_ble_eq_true rfl) (Nat.le_of_ble_eq_true rfl) ?_
  exact ev_icmp_eq_t (t := 1521) (pc := 313) dL_law_313 (by decide) he K
set_option maxHeartbeats 4000000 in
theorem lc_listener {N : Nat} {xs : rb_Row} {r : Option Int32} {μf μ : rb_Mem} {i : Int32} {v1 v2 : Int32} {o1 : Int32 × rb_Row × rb_Row × rb_Row} {o2 : Int32 × rb_Row × rb_Row × rb_Row} (e1 : rb_rd xs N (i + 1) = some v1) (e2 : rb_rd xs N (i + 2) = some v2) (h1 : XX6_listener (μ 5) (μ 14) (μ 13) v1 v2 = some o1) (h2 : XX7_listener (μ 20) (μ 19) (μ 31) v1 v2 = some o2) (he : o1.1 = o2.1) (K : rb_Ev RL cL_law 4 (some .boolean) (some (N, xs)) 60 r μf 1521 [some (.inr 99), some (.inr 0), some (.inr 19), some (.inl i)] [] (rb_ov (rb_ov μ [(5, o1.2.1), (14, o1.2.2.1), (13, o1.2.2.2)]) [(20, o2.2.1), (19, o2.2.2.1), (31, o2.2.2.2)])) : rb_Ev RL cL_law 4 (some .boolean) (some (N, xs)) 60 r μf 318 [some (.inr 99), some (.inr 0), some (.inr 19), some (.inl i)] [] μ := by
  refine ev_aload_n (v := 0) (pc := 318) dL_law_318 rfl ?_
  refine ev_aload_n (v := 99) (pc := 319) dL_law_319 rfl ?_
  refine ev_iload_n (v := i) (pc := 320) dL_law_320 rfl ?_
  refine ev_iconst (v := 1) (pc := 321) dL_law_321 ki_1 ?_
  refine ev_iadd (pc := 322) dL_law_322 ?_
  refine ev_sld (pc := 323) dL_law_323 rfl e1 ?_
  refine ev_aload_n (v := 99) (pc := 324) dL_law_324 rfl ?_
  refine ev_iload_n (v := i) (pc := 325) dL_law_325 rfl ?_
  refine ev_iconst (v := 2) (pc := 326) dL_law_326 ki_2 ?_
  refine ev_iadd (pc := 327) dL_law_327 ?_
  refine ev_sld (pc := 328) dL_law_328 rfl e2 ?_
  refine ev_cVi2 (pc := 329) dL_law_329 mv_X6_listener lk_RL_32 rp_0 (ct_X6_listener _ _ _ _ _ _ _ rfl rfl rfl h1) (Nat.le_of_ble_eq_true rfl) (Nat.le_of_ble_eq_true rfl) ?_
  refine ev_aload_n (v := 19) (pc := 332) dL_law_332 rfl ?_
  refine ev_aload_n (v := 99) (pc := 333) dL_law_333 rfl ?_
  refine ev_iload_n (v := i) (pc := 334) dL_law_334 rfl ?_
  refine ev_iconst (v := 1) (pc := 335) dL_law_335 ki_1 ?_
  refine ev_iadd (pc := 336) dL_law_336 ?_
  refine ev_sld (pc := 337) dL_law_337 rfl e1 ?_
  refine ev_aload_n (v := 99) (pc := 338) dL_law_338 rfl ?_
  refine ev_iload_n (v := i) (pc := 339) dL_law_339 rfl ?_
  refine ev_iconst (v := 2) (pc := 340) dL_law_340 ki_2 ?_
  refine ev_iadd (pc := 341) dL_law_341 ?_
  refine ev_sld (pc := 342) dL_law_342 rfl e2 ?_
  refine ev_cVi2 (pc := 343) dL_law_343 mv_X7_listener lk_RL_36 rp_19 (ct_X7_listener _ _ _ _ _ _ _ rfl rfl rfl h2) (Nat.le_of_ble_eq_true rfl) (Nat.le_of_ble_eq_true rfl) ?_
  exact ev_icmp_eq_t (t := 1521) (pc := 346) dL_law_346 (by decide) he K
set_option maxHeartbeats 4000000 in
theorem lc_connect {N : Nat} {xs : rb_Row} {r : Option Int32} {μf μ : rb_Mem} {i : Int32} {v1 : Int32} {o1 : Int32 × rb_Row × rb_Row × rb_Row × rb_Row × rb_Row} {o2 : Int32 × rb_Row × rb_Row × rb_Row × rb_Row × rb_Row × rb_Row × rb_Row × rb_Row × rb_Row} (e1 : rb_rd xs N (i + 1) = some v1) (h1 : XX6_connect (μ 5) (μ 6) (μ 1) (μ 14) (μ 13) v1 = some o1) (h2 : XX7_connect (μ 20) (μ 21) (μ 22) (μ 19) (μ 23) (μ 24) (μ 25) (μ 26) (μ 31) v1 = some o2) (he : o1.1 = o2.1) (K : rb_Ev RL cL_law 4 (some .boolean) (some (N, xs)) 60 r μf 1521 [some (.inr 99), some (.inr 0), some (.inr 19), some (.inl i)] [] (rb_ov (rb_ov μ [(5, o1.2.1), (6, o1.2.2.1), (1, o1.2.2.2.1), (14, o1.2.2.2.2.1), (13, o1.2.2.2.2.2)]) [(20, o2.2.1), (21, o2.2.2.1), (22, o2.2.2.2.1), (19, o2.2.2.2.2.1), (23, o2.2.2.2.2.2.1), (24, o2.2.2.2.2.2.2.1), (25, o2.2.2.2.2.2.2.2.1), (26, o2.2.2.2.2.2.2.2.2.1), (31, o2.2.2.2.2.2.2.2.2.2)])) : rb_Ev RL cL_law 4 (some .boolean) (some (N, xs)) 60 r μf 351 [some (.inr 99), some (.inr 0), some (.inr 19), some (.inl i)] [] μ := by
  refine ev_aload_n (v := 0) (pc := 351) dL_law_351 rfl ?_
  refine ev_aload_n (v := 99) (pc := 352) dL_law_352 rfl ?_
  refine ev_iload_n (v := i) (pc := 353) dL_law_353 rfl ?_
  refine ev_iconst (v := 1) (pc := 354) dL_law_354 ki_1 ?_
  refine ev_iadd (pc := 355) dL_law_355 ?_
  refine ev_sld (pc := 356) dL_law_356 rfl e1 ?_
  refine ev_cVi1 (pc := 357) dL_law_357 mv_X6_connect lk_RL_37 rp_0 (ct_X6_connect _ _ _ _ _ _ _ _ rfl rfl rfl rfl rfl h1) (Nat.le_of_ble_eq_true rfl) (Nat.le_of_ble_eq_true rfl) ?_
  refine ev_aload_n (v := 19) (pc := 360) dL_law_360 rfl ?_
  refine ev_aload_n (v := 99) (pc := 361) dL_law_361 rfl ?_
  refine ev_iload_n (v := i) (pc := 362) dL_law_362 rfl ?_
  refine ev_iconst (v := 1) (pc := 363) dL_law_363 ki_1 ?_
  refine ev_iadd (pc := 364) dL_law_364 ?_
  refine ev_sld (pc := 365) dL_law_365 rfl e1 ?_
  refine ev_cVi1 (pc := 366) dL_law_366 mv_X7_connect lk_RL_40 rp_19 (ct_X7_connect _ _ _ _ _ _ _ _ _ _ _ _ rfl rfl rfl rfl rfl rfl rfl rfl rfl h2) (Nat.le_of_ble_eq_true rfl) (Nat.le_of_ble_eq_true rfl) ?_
  exact ev_icmp_eq_t (t := 1521) (pc := 369) dL_law_369 (by decide) he K
set_option maxHeartbeats 4000000 in
theorem lc_accept {N : Nat} {xs : rb_Row} {r : Option Int32} {μf μ : rb_Mem} {i : Int32} {v1 : Int32} {o1 : Int32 × rb_Row × rb_Row × rb_Row} {o2 : Int32 × rb_Row × rb_Row × rb_Row} (e1 : rb_rd xs N (i + 1) = some v1) (h1 : XX6_accept (μ 5) (μ 14) (μ 13) v1 = some o1) (h2 : XX7_accept (μ 20) (μ 19) (μ 31) v1 = some o2) (he : o1.1 = o2.1) (K : rb_Ev RL cL_law 4 (some .boolean) (some (N, xs)) 60 r μf 1521 [some (.inr 99), some (.inr 0), some (.inr 19), some (.inl i)] [] (rb_ov (rb_ov μ [(5, o1.2.1), (14, o1.2.2.1), (13, o1.2.2.2)]) [(20, o2.2.1), (19, o2.2.2.1), (31, o2.2.2.2)])) : rb_Ev RL cL_law 4 (some .boolean) (some (N, xs)) 60 r μf 374 [some (.inr 99), some (.inr 0), some (.inr 19), some (.inl i)] [] μ := by
  refine ev_aload_n (v := 0) (pc := 374) dL_law_374 rfl ?_
  refine ev_aload_n (v := 99) (pc := 375) dL_law_375 rfl ?_
  refine ev_iload_n (v := i) (pc := 376) dL_law_376 rfl ?_
  refine ev_iconst (v := 1) (pc := 377) dL_law_377 ki_1 ?_
  refine ev_iadd (pc := 378) dL_law_378 ?_
  refine ev_sld (pc := 379) dL_law_379 rfl e1 ?_
  refine ev_cVi1 (pc := 380) dL_law_380 mv_X6_accept lk_RL_41 rp_0 (ct_X6_accept _ _ _ _ _ _ rfl rfl rfl h1) (Nat.le_of_ble_eq_true rfl) (Nat.le_of_ble_eq_true rfl) ?_
  refine ev_aload_n (v := 19) (pc := 383) dL_law_383 rfl ?_
  refine ev_aload_n (v := 99) (pc := 384) dL_law_384 rfl ?_
  refine ev_iload_n (v := i) (pc := 385) dL_law_385 rfl ?_
  refine ev_iconst (v := 1) (pc := 386) dL_law_386 ki_1 ?_
  refine ev_iadd (pc := 387) dL_law_387 ?_
  refine ev_sld (pc := 388) dL_law_388 rfl e1 ?_
  refine ev_cVi1 (pc := 389) dL_law_389 mv_X7_accept lk_RL_44 rp_19 (ct_X7_accept _ _ _ _ _ _ rfl rfl rfl h2) (Nat.le_of_ble_eq_true rfl) (Nat.le_of_ble_eq_true rfl) ?_
  exact ev_icmp_eq_t (t := 1521) (pc := 392) dL_law_392 (by decide) he K
set_option maxHeartbeats 4000000 in
theorem lc_twin {N : Nat} {xs : rb_Row} {r : Option Int32} {μf μ : rb_Mem} {i : Int32} {v1 : Int32} {o1 : Int32 × rb_Row × rb_Row × rb_Row} {o2 : Int32 × rb_Row × rb_Row × rb_Row} (e1 : rb_rd xs N (i + 1) = some v1) (h1 : XX6_twin (μ 5) (μ 14) (μ 13) v1 = some o1) (h2 : XX7_twin (μ 20) (μ 19) (μ 31) v1 = some o2) (he : o1.1 = o2.1) (K : rb_Ev RL cL_law 4 (some .boolean) (some (N, xs)) 60 r μf 1521 [some (.inr 99), some (.inr 0), some (.inr 19), some (.inl i)] [] (rb_ov (rb_ov μ [(5, o1.2.1), (14, o1.2.2.1), (13, o1.2.2.2)]) [(20, o2.2.1), (19, o2.2.2.1), (31, o2.2.2.2)])) : rb_Ev RL cL_law 4 (some .boolean) (some (N, xs)) 60 r μf 397 [some (.inr 99), some (.inr 0), some (.inr 19), some (.inl i)] [] μ := by
  refine ev_aload_n (v := 0) (pc := 397) dL_law_397 rfl ?_
  refine ev_aload_n (v := 99) (pc := 398) dL_law_398 rfl ?_
  refine ev_iload_n (v := i) (pc := 399) dL_law_399 rfl ?_
  refine ev_iconst (v := 1) (pc := 400) dL_law_400 ki_1 ?_
  refine ev_iadd (pc := 401) dL_law_401 ?_
  refine ev_sld (pc := 402) dL_law_402 rfl e1 ?_
  refine ev_cVi1 (pc := 403) dL_law_403 mv_X6_twin lk_RL_45 rp_0 (ct_X6_twin _ _ _ _ _ _ rfl rfl rfl h1) (Nat.le_of_ble_eq_true rfl) (Nat.le_of_ble_eq_true rfl) ?_
  refine ev_aload_n (v := 19) (pc := 406) dL_law_406 rfl ?_
  refine ev_aload_n (v := 99) (pc := 407) dL_law_407 rfl ?_
  refine ev_iload_n (v := i) (pc := 408) dL_law_408 rfl ?_
  refine ev_iconst (v := 1) (pc := 409) dL_law_409 ki_1 ?_
  refine ev_iadd (pc := 410) dL_law_410 ?_
  refine ev_sld (pc := 411) dL_law_411 rfl e1 ?_
  refine ev_cVi1 (pc := 412) dL_law_412 mv_X7_twin lk_RL_48 rp_19 (ct_X7_twin _ _ _ _ _ _ rfl rfl rfl h2) (Nat.le_of_ble_eq_true rfl) (Nat.le_of_ble_eq_true rfl) ?_
  exact ev_icmp_eq_t (t := 1521) (pc := 415) dL_law_415 (by decide) he K
set_option maxHeartbeats 4000000 in
theorem lc_close {N : Nat} {xs : rb_Row} {r : Option Int32} {μf μ : rb_Mem} {i : Int32} {v1 : Int32} {o1 : Int32 × rb_Row × rb_Row × rb_Row × rb_Row × rb_Row} {o2 : Int32 × rb_Row × rb_Row × rb_Row × rb_Row × rb_Row × rb_Row × rb_Row × rb_Row × rb_Row} (e1 : rb_rd xs N (i + 1) = some v1) (h1 : XX6_close (μ 5) (μ 6) (μ 1) (μ 14) (μ 13) v1 = some o1) (h2 : XX7_close (μ 20) (μ 21) (μ 22) (μ 19) (μ 23) (μ 24) (μ 25) (μ 26) (μ 31) v1 = some o2) (he : o1.1 = o2.1) (K : rb_Ev RL cL_law 4 (some .boolean) (some (N, xs)) 60 r μf 1521 [some (.inr 99), some (.inr 0), some (.inr 19), some (.inl i)] [] (rb_ov (rb_ov μ [(5, o1.2.1), (6, o1.2.2.1), (1, o1.2.2.2.1), (14, o1.2.2.2.2.1), (13, o1.2.2.2.2.2)]) [(20, o2.2.1), (21, o2.2.2.1), (22, o2.2.2.2.1), (19, o2.2.2.2.2.1), (23, o2.2.2.2.2.2.1), (24, o2.2.2.2.2.2.2.1), (25, o2.2.2.2.2.2.2.2.1), (26, o2.2.2.2.2.2.2.2.2.1), (31, o2.2.2.2.2.2.2.2.2.2)])) : rb_Ev RL cL_law 4 (some .boolean) (some (N, xs)) 60 r μf 420 [some (.inr 99), some (.inr 0), some (.inr 19), some (.inl i)] [] μ := by
  refine ev_aload_n (v := 0) (pc := 420) dL_law_420 rfl ?_
  refine ev_aload_n (v := 99) (pc := 421) dL_law_421 rfl ?_
  refine ev_iload_n (v := i) (pc := 422) dL_law_422 rfl ?_
  refine ev_iconst (v := 1) (pc := 423) dL_law_423 ki_1 ?_
  refine ev_iadd (pc := 424) dL_law_424 ?_
  refine ev_sld (pc := 425) dL_law_425 rfl e1 ?_
  refine ev_cVi1 (pc := 426) dL_law_426 mv_X6_close lk_RL_49 rp_0 (ct_X6_close _ _ _ _ _ _ _ _ rfl rfl rfl rfl rfl h1) (Nat.le_of_ble_eq_true rfl) (Nat.le_of_ble_eq_true rfl) ?_
  refine ev_aload_n (v := 19) (pc := 429) dL_law_429 rfl ?_
  refine ev_aload_n (v := 99) (pc := 430) dL_law_430 rfl ?_
  refine ev_iload_n (v := i) (pc := 431) dL_law_431 rfl ?_
  refine ev_iconst (v := 1) (pc := 432) dL_law_432 ki_1 ?_
  refine ev_iadd (pc := 433) dL_law_433 ?_
  refine ev_sld (pc := 434) dL_law_434 rfl e1 ?_
  refine ev_cVi1 (pc := 435) dL_law_435 mv_X7_close lk_RL_53 rp_19 (ct_X7_close _ _ _ _ _ _ _ _ _ _ _ _ rfl rfl rfl rfl rfl rfl rfl rfl rfl h2) (Nat.le_of_ble_eq_true rfl) (Nat.le_of_ble_eq_true rfl) ?_
  exact ev_icmp_eq_t (t := 1521) (pc := 438) dL_law_438 (by decide) he K
set_option maxHeartbeats 4000000 in
theorem lc_write {N : Nat} {xs : rb_Row} {r : Option Int32} {μf μ : rb_Mem} {i : Int32} {v1 v2 : Int32} {o1 : Int32 × rb_Row × rb_Row × rb_Row × rb_Row × rb_Row} {o2 : Int32 × rb_Row × rb_Row × rb_Row × rb_Row × rb_Row × rb_Row × rb_Row × rb_Row × rb_Row} (e1 : rb_rd xs N (i + 1) = some v1) (e2 : rb_rd xs N (i + 2) = some v2) (h1 : XX6_write (μ 5) (μ 6) (μ 1) (μ 14) (μ 13) v1 v2 = some o1) (h2 : XX7_write (μ 20) (μ 21) (μ 22) (μ 19) (μ 23) (μ 24) (μ 25) (μ 26) (μ 31) v1 v2 = some o2) (he : o1.1 = o2.1) (K : rb_Ev RL cL_law 4 (some .boolean) (some (N, xs)) 60 r μf 1521 [some (.inr 99), some (.inr 0), some (.inr 19), some (.inl i)] [] (rb_ov (rb_ov μ [(5, o1.2.1), (6, o1.2.2.1), (1, o1.2.2.2.1), (14, o1.2.2.2.2.1), (13, o1.2.2.2.2.2)]) [(20, o2.2.1), (21, o2.2.2.1), (22, o2.2.2.2.1), (19, o2.2.2.2.2.1), (23, o2.2.2.2.2.2.1), (24, o2.2.2.2.2.2.2.1), (25, o2.2.2.2.2.2.2.2.1), (26, o2.2.2.2.2.2.2.2.2.1), (31, o2.2.2.2.2.2.2.2.2.2)])) : rb_Ev RL cL_law 4 (some .boolean) (some (N, xs)) 60 r μf 443 [some (.inr 99), some (.inr 0), some (.inr 19), some (.inl i)] [] μ := by
  refine ev_aload_n (v := 0) (pc := 443) dL_law_443 rfl ?_
  refine ev_aload_n (v := 99) (pc := 444) dL_law_444 rfl ?_
  refine ev_iload_n (v := i) (pc := 445) dL_law_445 rfl ?_
  refine ev_iconst (v := 1) (pc := 446) dL_law_446 ki_1 ?_
  refine ev_iadd (pc := 447) dL_law_447 ?_
  refine ev_sld (pc := 448) dL_law_448 rfl e1 ?_
  refine ev_aload_n (v := 99) (pc := 449) dL_law_449 rfl ?_
  refine ev_iload_n (v := i) (pc := 450) dL_law_450 rfl ?_
  refine ev_iconst (v := 2) (pc := 451) dL_law_451 ki_2 ?_
  refine ev_iadd (pc := 452) dL_law_452 ?_
  refine ev_sld (pc := 453) dL_law_453 rfl e2 ?_
  refine ev_cVi2 (pc := 454) dL_law_454 mv_X6_write lk_RL_54 rp_0 (ct_X6_write _ _ _ _ _ _ _ _ _ rfl rfl rfl rfl rfl h1) (Nat.le_of_ble_eq_true rfl) (Nat.le_of_ble_eq_true rfl) ?_
  refine ev_aload_n (v := 19) (pc := 457) dL_law_457 rfl ?_
  refine ev_aload_n (v := 99) (pc := 458) dL_law_458 rfl ?_
  refine ev_iload_n (v := i) (pc := 459) dL_law_459 rfl ?_
  refine ev_iconst (v := 1) (pc := 460) dL_law_460 ki_1 ?_
  refine ev_iadd (pc := 461) dL_law_461 ?_
  refine ev_sld (pc := 462) dL_law_462 rfl e1 ?_
  refine ev_aload_n (v := 99) (pc := 463) dL_law_463 rfl ?_
  refine ev_iload_n (v := i) (pc := 464) dL_law_464 rfl ?_
  refine ev_iconst (v := 2) (pc := 465) dL_law_465 ki_2 ?_
  refine ev_iadd (pc := 466) dL_law_466 ?_
  refine ev_sld (pc := 467) dL_law_467 rfl e2 ?_
  refine ev_cVi2 (pc := 468) dL_law_468 mv_X7_write lk_RL_57 rp_19 (ct_X7_write _ _ _ _ _ _ _ _ _ _ _ _ _ rfl rfl rfl rfl rfl rfl rfl rfl rfl h2) (Nat.le_of_ble_eq_true rfl) (Nat.le_of_ble_eq_true rfl) ?_
  exact ev_icmp_eq_t (t := 1521) (pc := 471) dL_law_471 (by decide) he K
set_option maxHeartbeats 4000000 in
theorem lc_read {N : Nat} {xs : rb_Row} {r : Option Int32} {μf μ : rb_Mem} {i : Int32} {v1 v2 : Int32} {o1 : Int32 × rb_Row × rb_Row × rb_Row × rb_Row × rb_Row} {o2 : Int32 × rb_Row × rb_Row × rb_Row × rb_Row × rb_Row × rb_Row × rb_Row × rb_Row × rb_Row} (e1 : rb_rd xs N (i + 1) = some v1) (e2 : rb_rd xs N (i + 2) = some v2) (h1 : XX6_read (μ 5) (μ 6) (μ 1) (μ 14) (μ 13) v1 v2 = some o1) (h2 : XX7_read (μ 20) (μ 21) (μ 22) (μ 19) (μ 23) (μ 24) (μ 25) (μ 26) (μ 31) v1 v2 = some o2) (he : o1.1 = o2.1) (K : rb_Ev RL cL_law 4 (some .boolean) (some (N, xs)) 60 r μf 1521 [some (.inr 99), some (.inr 0), some (.inr 19), some (.inl i)] [] (rb_ov (rb_ov μ [(5, o1.2.1), (6, o1.2.2.1), (1, o1.2.2.2.1), (14, o1.2.2.2.2.1), (13, o1.2.2.2.2.2)]) [(20, o2.2.1), (21, o2.2.2.1), (22, o2.2.2.2.1), (19, o2.2.2.2.2.1), (23, o2.2.2.2.2.2.1), (24, o2.2.2.2.2.2.2.1), (25, o2.2.2.2.2.2.2.2.1), (26, o2.2.2.2.2.2.2.2.2.1), (31, o2.2.2.2.2.2.2.2.2.2)])) : rb_Ev RL cL_law 4 (some .boolean) (some (N, xs)) 60 r μf 476 [some (.inr 99), some (.inr 0), some (.inr 19), some (.inl i)] [] μ := by
  refine ev_aload_n (v := 0) (pc := 476) dL_law_476 rfl ?_
  refine ev_aload_n (v := 99) (pc := 477) dL_law_477 rfl ?_
  refine ev_iload_n (v := i) (pc := 478) dL_law_478 rfl ?_
  refine ev_iconst (v := 1) (pc := 479) dL_law_479 ki_1 ?_
  refine ev_iadd (pc := 480) dL_law_480 ?_
  refine ev_sld (pc := 481) dL_law_481 rfl e1 ?_
  refine ev_aload_n (v := 99) (pc := 482) dL_law_482 rfl ?_
  refine ev_iload_n (v := i) (pc := 483) dL_law_483 rfl ?_
  refine ev_iconst (v := 2) (pc := 484) dL_law_484 ki_2 ?_
  refine ev_iadd (pc := 485) dL_law_485 ?_
  refine ev_sld (pc := 486) dL_law_486 rfl e2 ?_
  refine ev_cVi2 (pc := 487) dL_law_487 mv_X6_read lk_RL_58 rp_0 (ct_X6_read _ _ _ _ _ _ _ _ _ rfl rfl rfl rfl rfl h1) (Nat.le_of_ble_eq_true rfl) (Nat.le_of_ble_eq_true rfl) ?_
  refine ev_aload_n (v := 19) (pc := 490) dL_law_490 rfl ?_
  refine ev_aload_n (v := 99) (pc := 491) dL_law_491 rfl ?_
  refine ev_iload_n (v := i) (pc := 492) dL_law_492 rfl ?_
  refine ev_iconst (v := 1) (pc := 493) dL_law_493 ki_1 ?_
  refine ev_iadd (pc := 494) dL_law_494 ?_
  refine ev_sld (pc := 495) dL_law_495 rfl e1 ?_
  refine ev_aload_n (v := 99) (pc := 496) dL_law_496 rfl ?_
  refine ev_iload_n (v := i) (pc := 497) dL_law_497 rfl ?_
  refine ev_iconst (v := 2) (pc := 498) dL_law_498 ki_2 ?_
  refine ev_iadd (pc := 499) dL_law_499 ?_
  refine ev_sld (pc := 500) dL_law_500 rfl e2 ?_
  refine ev_cVi2 (pc := 501) dL_law_501 mv_X7_read lk_RL_61 rp_19 (ct_X7_read _ _ _ _ _ _ _ _ _ _ _ _ _ rfl rfl rfl rfl rfl rfl rfl rfl rfl h2) (Nat.le_of_ble_eq_true rfl) (Nat.le_of_ble_eq_true rfl) ?_
  exact ev_icmp_eq_t (t := 1521) (pc := 504) dL_law_504 (by decide) he K
set_option maxHeartbeats 4000000 in
theorem lc_arm {N : Nat} {xs : rb_Row} {r : Option Int32} {μf μ : rb_Mem} {i : Int32} {v1 v2 v3 : Int32} {o1 : Int32 × rb_Row × rb_Row × rb_Row} {o2 : Int32 × rb_Row × rb_Row × rb_Row} (e1 : rb_rd xs N (i + 1) = some v1) (e2 : rb_rd xs N (i + 2) = some v2) (e3 : rb_rd xs N (i + 3) = some v3) (h1 : XX6_arm (μ 5) (μ 14) (μ 13) v1 v2 v3 = some o1) (h2 : XX7_arm (μ 20) (μ 19) (μ 31) v1 v2 v3 = some o2) (he : o1.1 = o2.1) (K : rb_Ev RL cL_law 4 (some .boolean) (some (N, xs)) 60 r μf 1521 [some (.inr 99), some (.inr 0), some (.inr 19), some (.inl i)] [] (rb_ov (rb_ov μ [(5, o1.2.1), (14, o1.2.2.1), (13, o1.2.2.2)]) [(20, o2.2.1), (19, o2.2.2.1), (31, o2.2.2.2)])) : rb_Ev RL cL_law 4 (some .boolean) (some (N, xs)) 60 r μf 509 [some (.inr 99), some (.inr 0), some (.inr 19), some (.inl i)] [] μ := by
  refine ev_aload_n (v := 0) (pc := 509) dL_law_509 rfl ?_
  refine ev_aload_n (v := 99) (pc := 510) dL_law_510 rfl ?_
  refine ev_iload_n (v := i) (pc := 511) dL_law_511 rfl ?_
  refine ev_iconst (v := 1) (pc := 512) dL_law_512 ki_1 ?_
  refine ev_iadd (pc := 513) dL_law_513 ?_
  refine ev_sld (pc := 514) dL_law_514 rfl e1 ?_
  refine ev_aload_n (v := 99) (pc := 515) dL_law_515 rfl ?_
  refine ev_iload_n (v := i) (pc := 516) dL_law_516 rfl ?_
  refine ev_iconst (v := 2) (pc := 517) dL_law_517 ki_2 ?_
  refine ev_iadd (pc := 518) dL_law_518 ?_
  refine ev_sld (pc := 519) dL_law_519 rfl e2 ?_
  refine ev_aload_n (v := 99) (pc := 520) dL_law_520 rfl ?_
  refine ev_iload_n (v := i) (pc := 521) dL_law_521 rfl ?_
  refine ev_iconst (v := 3) (pc := 522) dL_law_522 ki_3 ?_
  refine ev_iadd (pc := 523) dL_law_523 ?_
  refine ev_sld (pc := 524) dL_law_524 rfl e3 ?_
  refine ev_cVi3 (pc := 525) dL_law_525 mv_X6_arm lk_RL_62 rp_0 (ct_X6_arm _ _ _ _ _ _ _ _ rfl rfl rfl h1) (Nat.le_of_ble_eq_true rfl) (Nat.le_of_ble_eq_true rfl) ?_
  refine ev_aload_n (v := 19) (pc := 528) dL_law_528 rfl ?_
  refine ev_aload_n (v := 99) (pc := 529) dL_law_529 rfl ?_
  refine ev_iload_n (v := i) (pc := 530) dL_law_530 rfl ?_
  refine ev_iconst (v := 1) (pc := 531) dL_law_531 ki_1 ?_
  refine ev_iadd (pc := 532) dL_law_532 ?_
  refine ev_sld (pc := 533) dL_law_533 rfl e1 ?_
  refine ev_aload_n (v := 99) (pc := 534) dL_law_534 rfl ?_
  refine ev_iload_n (v := i) (pc := 535) dL_law_535 rfl ?_
  refine ev_iconst (v := 2) (pc := 536) dL_law_536 ki_2 ?_
  refine ev_iadd (pc := 537) dL_law_537 ?_
  refine ev_sld (pc := 538) dL_law_538 rfl e2 ?_
  refine ev_aload_n (v := 99) (pc := 539) dL_law_539 rfl ?_
  refine ev_iload_n (v := i) (pc := 540) dL_law_540 rfl ?_
  refine ev_iconst (v := 3) (pc := 541) dL_law_541 ki_3 ?_
  refine ev_iadd (pc := 542) dL_law_542 ?_
  refine ev_sld (pc := 543) dL_law_543 rfl e3 ?_
  refine ev_cVi3 (pc := 544) dL_law_544 mv_X7_arm lk_RL_66 rp_19 (ct_X7_arm _ _ _ _ _ _ _ _ rfl rfl rfl h2) (Nat.le_of_ble_eq_true rfl) (Nat.le_of_ble_eq_true rfl) ?_
  exact ev_icmp_eq_t (t := 1521) (pc := 547) dL_law_547 (by decide) he K
set_option maxHeartbeats 4000000 in
theorem lc_tick {N : Nat} {xs : rb_Row} {r : Option Int32} {μf μ : rb_Mem} {i : Int32} {v1 : Int32} {o1 : Int32 × rb_Row × rb_Row × rb_Row × rb_Row × rb_Row} {o2 : Int32 × rb_Row × rb_Row × rb_Row × rb_Row × rb_Row × rb_Row × rb_Row × rb_Row × rb_Row} (e1 : rb_rd xs N (i + 1) = some v1) (h1 : XX6_tick (μ 5) (μ 6) (μ 1) (μ 14) (μ 13) v1 = some o1) (h2 : XX7_tick (μ 20) (μ 21) (μ 22) (μ 19) (μ 23) (μ 24) (μ 25) (μ 26) (μ 31) v1 = some o2) (he : o1.1 = o2.1) (K : rb_Ev RL cL_law 4 (some .boolean) (some (N, xs)) 60 r μf 1521 [some (.inr 99), some (.inr 0), some (.inr 19), some (.inl i)] [] (rb_ov (rb_ov μ [(5, o1.2.1), (6, o1.2.2.1), (1, o1.2.2.2.1), (14, o1.2.2.2.2.1), (13, o1.2.2.2.2.2)]) [(20, o2.2.1), (21, o2.2.2.1), (22, o2.2.2.2.1), (19, o2.2.2.2.2.1), (23, o2.2.2.2.2.2.1), (24, o2.2.2.2.2.2.2.1), (25, o2.2.2.2.2.2.2.2.1), (26, o2.2.2.2.2.2.2.2.2.1), (31, o2.2.2.2.2.2.2.2.2.2)])) : rb_Ev RL cL_law 4 (some .boolean) (some (N, xs)) 60 r μf 552 [some (.inr 99), some (.inr 0), some (.inr 19), some (.inl i)] [] μ := by
  refine ev_aload_n (v := 0) (pc := 552) dL_law_552 rfl ?_
  refine ev_aload_n (v := 99) (pc := 553) dL_law_553 rfl ?_
  refine ev_iload_n (v := i) (pc := 554) dL_law_554 rfl ?_
  refine ev_iconst (v := 1) (pc := 555) dL_law_555 ki_1 ?_
  refine ev_iadd (pc := 556) dL_law_556 ?_
  refine ev_sld (pc := 557) dL_law_557 rfl e1 ?_
  refine ev_cVi1 (pc := 558) dL_law_558 mv_X6_tick lk_RL_67 rp_0 (ct_X6_tick _ _ _ _ _ _ _ _ rfl rfl rfl rfl rfl h1) (Nat.le_of_ble_eq_true rfl) (Nat.le_of_ble_eq_true rfl) ?_
  refine ev_aload_n (v := 19) (pc := 561) dL_law_561 rfl ?_
  refine ev_aload_n (v := 99) (pc := 562) dL_law_562 rfl ?_
  refine ev_iload_n (v := i) (pc := 563) dL_law_563 rfl ?_
  refine ev_iconst (v := 1) (pc := 564) dL_law_564 ki_1 ?_
  refine ev_iadd (pc := 565) dL_law_565 ?_
  refine ev_sld (pc := 566) dL_law_566 rfl e1 ?_
  refine ev_cVi1 (pc := 567) dL_law_567 mv_X7_tick lk_RL_70 rp_19 (ct_X7_tick _ _ _ _ _ _ _ _ _ _ _ _ rfl rfl rfl rfl rfl rfl rfl rfl rfl h2) (Nat.le_of_ble_eq_true rfl) (Nat.le_of_ble_eq_true rfl) ?_
  exact ev_icmp_eq_t (t := 1521) (pc := 570) dL_law_570 (by decide) he K
set_option maxHeartbeats 4000000 in
theorem lc_add {N : Nat} {xs : rb_Row} {r : Option Int32} {μf μ : rb_Mem} {i : Int32} {v1 v2 v3 v4 : Int32} {o1 : Int32 × rb_Row × rb_Row × rb_Row × rb_Row × rb_Row} {o2 : Int32 × rb_Row × rb_Row × rb_Row × rb_Row × rb_Row × rb_Row × rb_Row × rb_Row × rb_Row × rb_Row × rb_Row} (e1 : rb_rd xs N (i + 1) = some v1) (e2 : rb_rd xs N (i + 2) = some v2) (e3 : rb_rd xs N (i + 3) = some v3) (e4 : rb_rd xs N (i + 4) = some v4) (h1 : XX6_add (μ 5) (μ 6) (μ 1) (μ 14) (μ 13) v1 v2 v3 v4 = some o1) (h2 : XX7_add (μ 20) (μ 21) (μ 22) (μ 19) (μ 23) (μ 24) (μ 25) (μ 26) (μ 27) (μ 28) (μ 31) v1 v2 v3 v4 = some o2) (he : o1.1 = o2.1) (K : rb_Ev RL cL_law 4 (some .boolean) (some (N, xs)) 60 r μf 1521 [some (.inr 99), some (.inr 0), some (.inr 19), some (.inl i)] [] (rb_ov (rb_ov μ [(5, o1.2.1), (6, o1.2.2.1), (1, o1.2.2.2.1), (14, o1.2.2.2.2.1), (13, o1.2.2.2.2.2)]) [(20, o2.2.1), (21, o2.2.2.1), (22, o2.2.2.2.1), (19, o2.2.2.2.2.1), (23, o2.2.2.2.2.2.1), (24, o2.2.2.2.2.2.2.1), (25, o2.2.2.2.2.2.2.2.1), (26, o2.2.2.2.2.2.2.2.2.1), (27, o2.2.2.2.2.2.2.2.2.2.1), (28, o2.2.2.2.2.2.2.2.2.2.2.1), (31, o2.2.2.2.2.2.2.2.2.2.2.2)])) : rb_Ev RL cL_law 4 (some .boolean) (some (N, xs)) 60 r μf 575 [some (.inr 99), some (.inr 0), some (.inr 19), some (.inl i)] [] μ := by
  refine ev_aload_n (v := 0) (pc := 575) dL_law_575 rfl ?_
  refine ev_aload_n (v := 99) (pc := 576) dL_law_576 rfl ?_
  refine ev_iload_n (v := i) (pc := 577) dL_law_577 rfl ?_
  refine ev_iconst (v := 1) (pc := 578) dL_law_578 ki_1 ?_
  refine ev_iadd (pc := 579) dL_law_579 ?_
  refine ev_sld (pc := 580) dL_law_580 rfl e1 ?_
  refine ev_aload_n (v := 99) (pc := 581) dL_law_581 rfl ?_
  refine ev_iload_n (v := i) (pc := 582) dL_law_582 rfl ?_
  refine ev_iconst (v := 2) (pc := 583) dL_law_583 ki_2 ?_
  refine ev_iadd (pc := 584) dL_law_584 ?_
  refine ev_sld (pc := 585) dL_law_585 rfl e2 ?_
  refine ev_aload_n (v := 99) (pc := 586) dL_law_586 rfl ?_
  refine ev_iload_n (v := i) (pc := 587) dL_law_587 rfl ?_
  refine ev_iconst (v := 3) (pc := 588) dL_law_588 ki_3 ?_
  refine ev_iadd (pc := 589) dL_law_589 ?_
  refine ev_sld (pc := 590) dL_law_590 rfl e3 ?_
  refine ev_aload_n (v := 99) (pc := 591) dL_law_591 rfl ?_
  refine ev_iload_n (v := i) (pc := 592) dL_law_592 rfl ?_
  refine ev_iconst (v := 4) (pc := 593) dL_law_593 ki_4 ?_
  refine ev_iadd (pc := 594) dL_law_594 ?_
  refine ev_sld (pc := 595) dL_law_595 rfl e4 ?_
  refine ev_cVi4 (pc := 596) dL_law_596 mv_X6_add lk_RL_71 rp_0 (ct_X6_add _ _ _ _ _ _ _ _ _ _ _ rfl rfl rfl rfl rfl h1) (Nat.le_of_ble_eq_true rfl) (Nat.le_of_ble_eq_true rfl) ?_
  refine ev_aload_n (v := 19) (pc := 599) dL_law_599 rfl ?_
  refine ev_aload_n (v := 99) (pc := 600) dL_law_600 rfl ?_
  refine ev_iload_n (v := i) (pc := 601) dL_law_601 rfl ?_
  refine ev_iconst (v := 1) (pc := 602) dL_law_602 ki_1 ?_
  refine ev_iadd (pc := 603) dL_law_603 ?_
  refine ev_sld (pc := 604) dL_law_604 rfl e1 ?_
  refine ev_aload_n (v := 99) (pc := 605) dL_law_605 rfl ?_
  refine ev_iload_n (v := i) (pc := 606) dL_law_606 rfl ?_
  refine ev_iconst (v := 2) (pc := 607) dL_law_607 ki_2 ?_
  refine ev_iadd (pc := 608) dL_law_608 ?_
  refine ev_sld (pc := 609) dL_law_609 rfl e2 ?_
  refine ev_aload_n (v := 99) (pc := 610) dL_law_610 rfl ?_
  refine ev_iload_n (v := i) (pc := 611) dL_law_611 rfl ?_
  refine ev_iconst (v := 3) (pc := 612) dL_law_612 ki_3 ?_
  refine ev_iadd (pc := 613) dL_law_613 ?_
  refine ev_sld (pc := 614) dL_law_614 rfl e3 ?_
  refine ev_aload_n (v := 99) (pc := 615) dL_law_615 rfl ?_
  refine ev_iload_n (v := i) (pc := 616) dL_law_616 rfl ?_
  refine ev_iconst (v := 4) (pc := 617) dL_law_617 ki_4 ?_
  refine ev_iadd (pc := 618) dL_law_618 ?_
  refine ev_sld (pc := 619) dL_law_619 rfl e4 ?_
  refine ev_cVi4 (pc := 620) dL_law_620 mv_X7_add lk_RL_75 rp_19 (ct_X7_add _ _ _ _ _ _ _ _ _ _ _ _ _ _ _ _ _ rfl rfl rfl rfl rfl rfl rfl rfl rfl rfl rfl h2) (Nat.le_of_ble_eq_true rfl) (Nat.le_of_ble_eq_true rfl) ?_
  exact ev_icmp_eq_t (t := 1521) (pc := 623) dL_law_623 (by decide) he K
set_option maxHeartbeats 4000000 in
theorem lc_change {N : Nat} {xs : rb_Row} {r : Option Int32} {μf μ : rb_Mem} {i : Int32} {v1 v2 v3 v4 : Int32} {o1 : Int32 × rb_Row × rb_Row × rb_Row × rb_Row × rb_Row} {o2 : Int32 × rb_Row × rb_Row × rb_Row × rb_Row × rb_Row × rb_Row × rb_Row × rb_Row × rb_Row} (e1 : rb_rd xs N (i + 1) = some v1) (e2 : rb_rd xs N (i + 2) = some v2) (e3 : rb_rd xs N (i + 3) = some v3) (e4 : rb_rd xs N (i + 4) = some v4) (h1 : XX6_change (μ 5) (μ 6) (μ 1) (μ 14) (μ 13) v1 v2 v3 v4 = some o1) (h2 : XX7_change (μ 20) (μ 21) (μ 22) (μ 19) (μ 23) (μ 24) (μ 25) (μ 26) (μ 31) v1 v2 v3 v4 = some o2) (he : o1.1 = o2.1) (K : rb_Ev RL cL_law 4 (some .boolean) (some (N, xs)) 60 r μf 1521 [some (.inr 99), some (.inr 0), some (.inr 19), some (.inl i)] [] (rb_ov (rb_ov μ [(5, o1.2.1), (6, o1.2.2.1), (1, o1.2.2.2.1), (14, o1.2.2.2.2.1), (13, o1.2.2.2.2.2)]) [(20, o2.2.1), (21, o2.2.2.1), (22, o2.2.2.2.1), (19, o2.2.2.2.2.1), (23, o2.2.2.2.2.2.1), (24, o2.2.2.2.2.2.2.1), (25, o2.2.2.2.2.2.2.2.1), (26, o2.2.2.2.2.2.2.2.2.1), (31, o2.2.2.2.2.2.2.2.2.2)])) : rb_Ev RL cL_law 4 (some .boolean) (some (N, xs)) 60 r μf 628 [some (.inr 99), some (.inr 0), some (.inr 19), some (.inl i)] [] μ := by
  refine ev_aload_n (v := 0) (pc := 628) dL_law_628 rfl ?_
  refine ev_aload_n (v := 99) (pc := 629) dL_law_629 rfl ?_
  refine ev_iload_n (v := i) (pc := 630) dL_law_630 rfl ?_
  refine ev_iconst (v := 1) (pc := 631) dL_law_631 ki_1 ?_
  refine ev_iadd (pc := 632) dL_law_632 ?_
  refine ev_sld (pc := 633) dL_law_633 rfl e1 ?_
  refine ev_aload_n (v := 99) (pc := 634) dL_law_634 rfl ?_
  refine ev_iload_n (v := i) (pc := 635) dL_law_635 rfl ?_
  refine ev_iconst (v := 2) (pc := 636) dL_law_636 ki_2 ?_
  refine ev_iadd (pc := 637) dL_law_637 ?_
  refine ev_sld (pc := 638) dL_law_638 rfl e2 ?_
  refine ev_aload_n (v := 99) (pc := 639) dL_law_639 rfl ?_
  refine ev_iload_n (v := i) (pc := 640) dL_law_640 rfl ?_
  refine ev_iconst (v := 3) (pc := 641) dL_law_641 ki_3 ?_
  refine ev_iadd (pc := 642) dL_law_642 ?_
  refine ev_sld (pc := 643) dL_law_643 rfl e3 ?_
  refine ev_aload_n (v := 99) (pc := 644) dL_law_644 rfl ?_
  refine ev_iload_n (v := i) (pc := 645) dL_law_645 rfl ?_
  refine ev_iconst (v := 4) (pc := 646) dL_law_646 ki_4 ?_
  refine ev_iadd (pc := 647) dL_law_647 ?_
  refine ev_sld (pc := 648) dL_law_648 rfl e4 ?_
  refine ev_cVi4 (pc := 649) dL_law_649 mv_X6_change lk_RL_76 rp_0 (ct_X6_change _ _ _ _ _ _ _ _ _ _ _ rfl rfl rfl rfl rfl h1) (Nat.le_of_ble_eq_true rfl) (Nat.le_of_ble_eq_true rfl) ?_
  refine ev_aload_n (v := 19) (pc := 652) dL_law_652 rfl ?_
  refine ev_aload_n (v := 99) (pc := 653) dL_law_653 rfl ?_
  refine ev_iload_n (v := i) (pc := 654) dL_law_654 rfl ?_
  refine ev_iconst (v := 1) (pc := 655) dL_law_655 ki_1 ?_
  refine ev_iadd (pc := 656) dL_law_656 ?_
  refine ev_sld (pc := 657) dL_law_657 rfl e1 ?_
  refine ev_aload_n (v := 99) (pc := 658) dL_law_658 rfl ?_
  refine ev_iload_n (v := i) (pc := 659) dL_law_659 rfl ?_
  refine ev_iconst (v := 2) (pc := 660) dL_law_660 ki_2 ?_
  refine ev_iadd (pc := 661) dL_law_661 ?_
  refine ev_sld (pc := 662) dL_law_662 rfl e2 ?_
  refine ev_aload_n (v := 99) (pc := 663) dL_law_663 rfl ?_
  refine ev_iload_n (v := i) (pc := 664) dL_law_664 rfl ?_
  refine ev_iconst (v := 3) (pc := 665) dL_law_665 ki_3 ?_
  refine ev_iadd (pc := 666) dL_law_666 ?_
  refine ev_sld (pc := 667) dL_law_667 rfl e3 ?_
  refine ev_aload_n (v := 99) (pc := 668) dL_law_668 rfl ?_
  refine ev_iload_n (v := i) (pc := 669) dL_law_669 rfl ?_
  refine ev_iconst (v := 4) (pc := 670) dL_law_670 ki_4 ?_
  refine ev_iadd (pc := 671) dL_law_671 ?_
  refine ev_sld (pc := 672) dL_law_672 rfl e4 ?_
  refine ev_cVi4 (pc := 673) dL_law_673 mv_X7_change lk_RL_80 rp_19 (ct_X7_change _ _ _ _ _ _ _ _ _ _ _ _ _ _ _ rfl rfl rfl rfl rfl rfl rfl rfl rfl h2) (Nat.le_of_ble_eq_true rfl) (Nat.le_of_ble_eq_true rfl) ?_
  exact ev_icmp_eq_t (t := 1521) (pc := 676) dL_law_676 (by decide) he K
set_option maxHeartbeats 4000000 in
theorem lc_drop {N : Nat} {xs : rb_Row} {r : Option Int32} {μf μ : rb_Mem} {i : Int32} {v1 v2 : Int32} {o1 : Int32 × rb_Row × rb_Row × rb_Row} {o2 : Int32 × rb_Row × rb_Row × rb_Row} (e1 : rb_rd xs N (i + 1) = some v1) (e2 : rb_rd xs N (i + 2) = some v2) (h1 : XX6_drop (μ 5) (μ 14) (μ 13) v1 v2 = some o1) (h2 : XX7_drop (μ 20) (μ 19) (μ 31) v1 v2 = some o2) (he : o1.1 = o2.1) (K : rb_Ev RL cL_law 4 (some .boolean) (some (N, xs)) 60 r μf 1521 [some (.inr 99), some (.inr 0), some (.inr 19), some (.inl i)] [] (rb_ov (rb_ov μ [(5, o1.2.1), (14, o1.2.2.1), (13, o1.2.2.2)]) [(20, o2.2.1), (19, o2.2.2.1), (31, o2.2.2.2)])) : rb_Ev RL cL_law 4 (some .boolean) (some (N, xs)) 60 r μf 681 [some (.inr 99), some (.inr 0), some (.inr 19), some (.inl i)] [] μ := by
  refine ev_aload_n (v := 0) (pc := 681) dL_law_681 rfl ?_
  refine ev_aload_n (v := 99) (pc := 682) dL_law_682 rfl ?_
  refine ev_iload_n (v := i) (pc := 683) dL_law_683 rfl ?_
  refine ev_iconst (v := 1) (pc := 684) dL_law_684 ki_1 ?_
  refine ev_iadd (pc := 685) dL_law_685 ?_
  refine ev_sld (pc := 686) dL_law_686 rfl e1 ?_
  refine ev_aload_n (v := 99) (pc := 687) dL_law_687 rfl ?_
  refine ev_iload_n (v := i) (pc := 688) dL_law_688 rfl ?_
  refine ev_iconst (v := 2) (pc := 689) dL_law_689 ki_2 ?_
  refine ev_iadd (pc := 690) dL_law_690 ?_
  refine ev_sld (pc := 691) dL_law_691 rfl e2 ?_
  refine ev_cVi2 (pc := 692) dL_law_692 mv_X6_drop lk_RL_81 rp_0 (ct_X6_drop _ _ _ _ _ _ _ rfl rfl rfl h1) (Nat.le_of_ble_eq_true rfl) (Nat.le_of_ble_eq_true rfl) ?_
  refine ev_aload_n (v := 19) (pc := 695) dL_law_695 rfl ?_
  refine ev_aload_n (v := 99) (pc := 696) dL_law_696 rfl ?_
  refine ev_iload_n (v := i) (pc := 697) dL_law_697 rfl ?_
  refine ev_iconst (v := 1) (pc := 698) dL_law_698 ki_1 ?_
  refine ev_iadd (pc := 699) dL_law_699 ?_
  refine ev_sld (pc := 700) dL_law_700 rfl e1 ?_
  refine ev_aload_n (v := 99) (pc := 701) dL_law_701 rfl ?_
  refine ev_iload_n (v := i) (pc := 702) dL_law_702 rfl ?_
  refine ev_iconst (v := 2) (pc := 703) dL_law_703 ki_2 ?_
  refine ev_iadd (pc := 704) dL_law_704 ?_
  refine ev_sld (pc := 705) dL_law_705 rfl e2 ?_
  refine ev_cVi2 (pc := 706) dL_law_706 mv_X7_drop lk_RL_85 rp_19 (ct_X7_drop _ _ _ _ _ _ _ rfl rfl rfl h2) (Nat.le_of_ble_eq_true rfl) (Nat.le_of_ble_eq_true rfl) ?_
  exact ev_icmp_eq_t (t := 1521) (pc := 709) dL_law_709 (by decide) he K
set_option maxHeartbeats 4000000 in
theorem lc_collect {N : Nat} {xs : rb_Row} {r : Option Int32} {μf μ : rb_Mem} {i : Int32} {v1 v2 v3 : Int32} {o1 : Int32 × rb_Row × rb_Row × rb_Row × rb_Row} {o2 : Int32 × rb_Row × rb_Row × rb_Row × rb_Row × rb_Row} (e1 : rb_rd xs N (i + 1) = some v1) (e2 : rb_rd xs N (i + 2) = some v2) (e3 : rb_rd xs N (i + 3) = some v3) (h1 : XX6_collect (μ 5) (μ 6) (μ 14) (μ 13) v1 v2 v3 = some o1) (h2 : XX7_collect (μ 20) (μ 21) (μ 22) (μ 19) (μ 31) v1 v2 v3 = some o2) (he : o1.1 = o2.1) (K : rb_Ev RL cL_law 4 (some .boolean) (some (N, xs)) 60 r μf 1521 [some (.inr 99), some (.inr 0), some (.inr 19), some (.inl i)] [] (rb_ov (rb_ov μ [(5, o1.2.1), (6, o1.2.2.1), (14, o1.2.2.2.1), (13, o1.2.2.2.2)]) [(20, o2.2.1), (21, o2.2.2.1), (22, o2.2.2.2.1), (19, o2.2.2.2.2.1), (31, o2.2.2.2.2.2)])) : rb_Ev RL cL_law 4 (some .boolean) (some (N, xs)) 60 r μf 714 [some (.inr 99), some (.inr 0), some (.inr 19), some (.inl i)] [] μ := by
  refine ev_aload_n (v := 0) (pc := 714) dL_law_714 rfl ?_
  refine ev_aload_n (v := 99) (pc := 715) dL_law_715 rfl ?_
  refine ev_iload_n (v := i) (pc := 716) dL_law_716 rfl ?_
  refine ev_iconst (v := 1) (pc := 717) dL_law_717 ki_1 ?_
  refine ev_iadd (pc := 718) dL_law_718 ?_
  refine ev_sld (pc := 719) dL_law_719 rfl e1 ?_
  refine ev_aload_n (v := 99) (pc := 720) dL_law_720 rfl ?_
  refine ev_iload_n (v := i) (pc := 721) dL_law_721 rfl ?_
  refine ev_iconst (v := 2) (pc := 722) dL_law_722 ki_2 ?_
  refine ev_iadd (pc := 723) dL_law_723 ?_
  refine ev_sld (pc := 724) dL_law_724 rfl e2 ?_
  refine ev_aload_n (v := 99) (pc := 725) dL_law_725 rfl ?_
  refine ev_iload_n (v := i) (pc := 726) dL_law_726 rfl ?_
  refine ev_iconst (v := 3) (pc := 727) dL_law_727 ki_3 ?_
  refine ev_iadd (pc := 728) dL_law_728 ?_
  refine ev_sld (pc := 729) dL_law_729 rfl e3 ?_
  refine ev_cVi3 (pc := 730) dL_law_730 mv_X6_collect lk_RL_86 rp_0 (ct_X6_collect _ _ _ _ _ _ _ _ _ rfl rfl rfl rfl h1) (Nat.le_of_ble_eq_true rfl) (Nat.le_of_ble_eq_true rfl) ?_
  refine ev_aload_n (v := 19) (pc := 733) dL_law_733 rfl ?_
  refine ev_aload_n (v := 99) (pc := 734) dL_law_734 rfl ?_
  refine ev_iload_n (v := i) (pc := 735) dL_law_735 rfl ?_
  refine ev_iconst (v := 1) (pc := 736) dL_law_736 ki_1 ?_
  refine ev_iadd (pc := 737) dL_law_737 ?_
  refine ev_sld (pc := 738) dL_law_738 rfl e1 ?_
  refine ev_aload_n (v := 99) (pc := 739) dL_law_739 rfl ?_
  refine ev_iload_n (v := i) (pc := 740) dL_law_740 rfl ?_
  refine ev_iconst (v := 2) (pc := 741) dL_law_741 ki_2 ?_
  refine ev_iadd (pc := 742) dL_law_742 ?_
  refine ev_sld (pc := 743) dL_law_743 rfl e2 ?_
  refine ev_aload_n (v := 99) (pc := 744) dL_law_744 rfl ?_
  refine ev_iload_n (v := i) (pc := 745) dL_law_745 rfl ?_
  refine ev_iconst (v := 3) (pc := 746) dL_law_746 ki_3 ?_
  refine ev_iadd (pc := 747) dL_law_747 ?_
  refine ev_sld (pc := 748) dL_law_748 rfl e3 ?_
  refine ev_cVi3 (pc := 749) dL_law_749 mv_X7_collect lk_RL_90 rp_19 (ct_X7_collect _ _ _ _ _ _ _ _ _ _ rfl rfl rfl rfl rfl h2) (Nat.le_of_ble_eq_true rfl) (Nat.le_of_ble_eq_true rfl) ?_
  exact ev_icmp_eq_t (t := 1521) (pc := 752) dL_law_752 (by decide) he K
set_option maxHeartbeats 4000000 in
theorem lc_await {N : Nat} {xs : rb_Row} {r : Option Int32} {μf μ : rb_Mem} {i : Int32} {v1 v2 v3 v4 : Int32} {o1 : Int32 × rb_Row × rb_Row × rb_Row × rb_Row} {o2 : Int32 × rb_Row × rb_Row × rb_Row × rb_Row × rb_Row} (e1 : rb_rd xs N (i + 1) = some v1) (e2 : rb_rd xs N (i + 2) = some v2) (e3 : rb_rd xs N (i + 3) = some v3) (e4 : rb_rd xs N (i + 4) = some v4) (h1 : XX6_await (μ 5) (μ 6) (μ 14) (μ 13) v1 v2 v3 v4 = some o1) (h2 : XX7_await (μ 20) (μ 21) (μ 22) (μ 19) (μ 31) v1 v2 v3 v4 = some o2) (he : o1.1 = o2.1) (K : rb_Ev RL cL_law 4 (some .boolean) (some (N, xs)) 60 r μf 1521 [some (.inr 99), some (.inr 0), some (.inr 19), some (.inl i)] [] (rb_ov (rb_ov μ [(5, o1.2.1), (6, o1.2.2.1), (14, o1.2.2.2.1), (13, o1.2.2.2.2)]) [(20, o2.2.1), (21, o2.2.2.1), (22, o2.2.2.2.1), (19, o2.2.2.2.2.1), (31, o2.2.2.2.2.2)])) : rb_Ev RL cL_law 4 (some .boolean) (some (N, xs)) 60 r μf 757 [some (.inr 99), some (.inr 0), some (.inr 19), some (.inl i)] [] μ := by
  refine ev_aload_n (v := 0) (pc := 757) dL_law_757 rfl ?_
  refine ev_aload_n (v := 99) (pc := 758) dL_law_758 rfl ?_
  refine ev_iload_n (v := i) (pc := 759) dL_law_759 rfl ?_
  refine ev_iconst (v := 1) (pc := 760) dL_law_760 ki_1 ?_
  refine ev_iadd (pc := 761) dL_law_761 ?_
  refine ev_sld (pc := 762) dL_law_762 rfl e1 ?_
  refine ev_aload_n (v := 99) (pc := 763) dL_law_763 rfl ?_
  refine ev_iload_n (v := i) (pc := 764) dL_law_764 rfl ?_
  refine ev_iconst (v := 2) (pc := 765) dL_law_765 ki_2 ?_
  refine ev_iadd (pc := 766) dL_law_766 ?_
  refine ev_sld (pc := 767) dL_law_767 rfl e2 ?_
  refine ev_aload_n (v := 99) (pc := 768) dL_law_768 rfl ?_
  refine ev_iload_n (v := i) (pc := 769) dL_law_769 rfl ?_
  refine ev_iconst (v := 3) (pc := 770) dL_law_770 ki_3 ?_
  refine ev_iadd (pc := 771) dL_law_771 ?_
  refine ev_sld (pc := 772) dL_law_772 rfl e3 ?_
  refine ev_aload_n (v := 99) (pc := 773) dL_law_773 rfl ?_
  refine ev_iload_n (v := i) (pc := 774) dL_law_774 rfl ?_
  refine ev_iconst (v := 4) (pc := 775) dL_law_775 ki_4 ?_
  refine ev_iadd (pc := 776) dL_law_776 ?_
  refine ev_sld (pc := 777) dL_law_777 rfl e4 ?_
  refine ev_cVi4 (pc := 778) dL_law_778 mv_X6_await lk_RL_91 rp_0 (ct_X6_await _ _ _ _ _ _ _ _ _ _ rfl rfl rfl rfl h1) (Nat.le_of_ble_eq_true rfl) (Nat.le_of_ble_eq_true rfl) ?_
  refine ev_aload_n (v := 19) (pc := 781) dL_law_781 rfl ?_
  refine ev_aload_n (v := 99) (pc := 782) dL_law_782 rfl ?_
  refine ev_iload_n (v := i) (pc := 783) dL_law_783 rfl ?_
  refine ev_iconst (v := 1) (pc := 784) dL_law_784 ki_1 ?_
  refine ev_iadd (pc := 785) dL_law_785 ?_
  refine ev_sld (pc := 786) dL_law_786 rfl e1 ?_
  refine ev_aload_n (v := 99) (pc := 787) dL_law_787 rfl ?_
  refine ev_iload_n (v := i) (pc := 788) dL_law_788 rfl ?_
  refine ev_iconst (v := 2) (pc := 789) dL_law_789 ki_2 ?_
  refine ev_iadd (pc := 790) dL_law_790 ?_
  refine ev_sld (pc := 791) dL_law_791 rfl e2 ?_
  refine ev_aload_n (v := 99) (pc := 792) dL_law_792 rfl ?_
  refine ev_iload_n (v := i) (pc := 793) dL_law_793 rfl ?_
  refine ev_iconst (v := 3) (pc := 794) dL_law_794 ki_3 ?_
  refine ev_iadd (pc := 795) dL_law_795 ?_
  refine ev_sld (pc := 796) dL_law_796 rfl e3 ?_
  refine ev_aload_n (v := 99) (pc := 797) dL_law_797 rfl ?_
  refine ev_iload_n (v := i) (pc := 798) dL_law_798 rfl ?_
  refine ev_iconst (v := 4) (pc := 799) dL_law_799 ki_4 ?_
  refine ev_iadd (pc := 800) dL_law_800 ?_
  refine ev_sld (pc := 801) dL_law_801 rfl e4 ?_
  refine ev_cVi4 (pc := 802) dL_law_802 mv_X7_await lk_RL_94 rp_19 (ct_X7_await _ _ _ _ _ _ _ _ _ _ _ rfl rfl rfl rfl rfl h2) (Nat.le_of_ble_eq_true rfl) (Nat.le_of_ble_eq_true rfl) ?_
  exact ev_icmp_eq_t (t := 1521) (pc := 805) dL_law_805 (by decide) he K
set_option maxHeartbeats 4000000 in
theorem lc_handle {N : Nat} {xs : rb_Row} {r : Option Int32} {μf μ : rb_Mem} {i : Int32} {v1 v2 : Int32} {o1 : Int32} {o2 : Int32 × rb_Row} (e1 : rb_rd xs N (i + 1) = some v1) (e2 : rb_rd xs N (i + 2) = some v2) (h1 : XX6_handle (μ 5) v1 v2 = some o1) (h2 : XX7_handle (μ 21) (μ 20) v1 v2 = some o2) (he : o1 = o2.1) (K : rb_Ev RL cL_law 4 (some .boolean) (some (N, xs)) 60 r μf 1521 [some (.inr 99), some (.inr 0), some (.inr 19), some (.inl i)] [] (rb_ov μ [(21, o2.2)])) : rb_Ev RL cL_law 4 (some .boolean) (some (N, xs)) 60 r μf 810 [some (.inr 99), some (.inr 0), some (.inr 19), some (.inl i)] [] μ := by
  refine ev_aload_n (v := 0) (pc := 810) dL_law_810 rfl ?_
  refine ev_aload_n (v := 99) (pc := 811) dL_law_811 rfl ?_
  refine ev_iload_n (v := i) (pc := 812) dL_law_812 rfl ?_
  refine ev_iconst (v := 1) (pc := 813) dL_law_813 ki_1 ?_
  refine ev_iadd (pc := 814) dL_law_814 ?_
  refine ev_sld (pc := 815) dL_law_815 rfl e1 ?_
  refine ev_aload_n (v := 99) (pc := 816) dL_law_816 rfl ?_
  refine ev_iload_n (v := i) (pc := 817) dL_law_817 rfl ?_
  refine ev_iconst (v := 2) (pc := 818) dL_law_818 ki_2 ?_
  refine ev_iadd (pc := 819) dL_law_819 ?_
  refine ev_sld (pc := 820) dL_law_820 rfl e2 ?_
  refine ev_cVi2 (pc := 821) dL_law_821 mv_X6_handle lk_RL_95 rp_0 (ct_X6_handle _ _ _ _ _ rfl h1) (Nat.le_of_ble_eq_true rfl) (Nat.le_of_ble_eq_true rfl) ?_
  refine ev_aload_n (v := 19) (pc := 824) dL_law_824 rfl ?_
  refine ev_aload_n (v := 99) (pc := 825) dL_law_825 rfl ?_
  refine ev_iload_n (v := i) (pc := 826) dL_law_826 rfl ?_
  refine ev_iconst (v := 1) (pc := 827) dL_law_827 ki_1 ?_
  refine ev_iadd (pc := 828) dL_law_828 ?_
  refine ev_sld (pc := 829) dL_law_829 rfl e1 ?_
  refine ev_aload_n (v := 99) (pc := 830) dL_law_830 rfl ?_
  refine ev_iload_n (v := i) (pc := 831) dL_law_831 rfl ?_
  refine ev_iconst (v := 2) (pc := 832) dL_law_832 ki_2 ?_
  refine ev_iadd (pc := 833) dL_law_833 ?_
  refine ev_sld (pc := 834) dL_law_834 rfl e2 ?_
  refine ev_cVi2 (pc := 835) dL_law_835 mv_X7_handle lk_RL_98 rp_19 (ct_X7_handle _ _ _ _ _ _ rfl rfl h2) (Nat.le_of_ble_eq_true rfl) (Nat.le_of_ble_eq_true rfl) ?_
  exact ev_icmp_eq_t (t := 1521) (pc := 838) dL_law_838 (by decide) he K
set_option maxHeartbeats 4000000 in
theorem lc_other {N : Nat} {xs : rb_Row} {r : Option Int32} {μf μ : rb_Mem} {i : Int32} {v1 : Int32} {o1 : Int32} {o2 : Int32} (e1 : rb_rd xs N (i + 1) = some v1) (h1 : XX6_other (μ 5) v1 = some o1) (h2 : XX7_other (μ 20) v1 = some o2) (he : o1 = o2) (K : rb_Ev RL cL_law 4 (some .boolean) (some (N, xs)) 60 r μf 1521 [some (.inr 99), some (.inr 0), some (.inr 19), some (.inl i)] [] μ) : rb_Ev RL cL_law 4 (some .boolean) (some (N, xs)) 60 r μf 843 [some (.inr 99), some (.inr 0), some (.inr 19), some (.inl i)] [] μ := by
  refine ev_aload_n (v := 0) (pc := 843) dL_law_843 rfl ?_
  refine ev_aload_n (v := 99) (pc := 844) dL_law_844 rfl ?_
  refine ev_iload_n (v := i) (pc := 845) dL_law_845 rfl ?_
  refine ev_iconst (v := 1) (pc := 846) dL_law_846 ki_1 ?_
  refine ev_iadd (pc := 847) dL_law_847 ?_
  refine ev_sld (pc := 848) dL_law_848 rfl e1 ?_
  refine ev_cVi1 (pc := 849) dL_law_849 mv_X6_other lk_RL_99 rp_0 (ct_X6_other _ _ _ _ rfl h1) (Nat.le_of_ble_eq_true rfl) (Nat.le_of_ble_eq_true rfl) ?_
  refine ev_aload_n (v := 19) (pc := 852) dL_law_852 rfl ?_
  refine ev_aload_n (v := 99) (pc := 853) dL_law_853 rfl ?_
  refine ev_iload_n (v := i) (pc := 854) dL_law_854 rfl ?_
  refine ev_iconst (v := 1) (pc := 855) dL_law_855 ki_1 ?_
  refine ev_iadd (pc := 856) dL_law_856 ?_
  refine ev_sld (pc := 857) dL_law_857 rfl e1 ?_
  refine ev_cVi1 (pc := 858) dL_law_858 mv_X7_other lk_RL_102 rp_19 (ct_X7_other _ _ _ _ rfl h2) (Nat.le_of_ble_eq_true rfl) (Nat.le_of_ble_eq_true rfl) ?_
  exact ev_icmp_eq_t (t := 1521) (pc := 861) dL_law_861 (by decide) he K
set_option maxHeartbeats 4000000 in
theorem lc_interest {N : Nat} {xs : rb_Row} {r : Option Int32} {μf μ : rb_Mem} {i : Int32} {v1 v2 v3 : Int32} {o1 : Int32} {o2 : Int32 × rb_Row} (e1 : rb_rd xs N (i + 1) = some v1) (e2 : rb_rd xs N (i + 2) = some v2) (e3 : rb_rd xs N (i + 3) = some v3) (h1 : XX6_interest (μ 5) v1 v2 v3 = some o1) (h2 : XX7_interest (μ 21) (μ 20) v1 v2 v3 = some o2) (he : o1 = o2.1) (K : rb_Ev RL cL_law 4 (some .boolean) (some (N, xs)) 60 r μf 1521 [some (.inr 99), some (.inr 0), some (.inr 19), some (.inl i)] [] (rb_ov μ [(21, o2.2)])) : rb_Ev RL cL_law 4 (some .boolean) (some (N, xs)) 60 r μf 866 [some (.inr 99), some (.inr 0), some (.inr 19), some (.inl i)] [] μ := by
  refine ev_aload_n (v := 0) (pc := 866) dL_law_866 rfl ?_
  refine ev_aload_n (v := 99) (pc := 867) dL_law_867 rfl ?_
  refine ev_iload_n (v := i) (pc := 868) dL_law_868 rfl ?_
  refine ev_iconst (v := 1) (pc := 869) dL_law_869 ki_1 ?_
  refine ev_iadd (pc := 870) dL_law_870 ?_
  refine ev_sld (pc := 871) dL_law_871 rfl e1 ?_
  refine ev_aload_n (v := 99) (pc := 872) dL_law_872 rfl ?_
  refine ev_iload_n (v := i) (pc := 873) dL_law_873 rfl ?_
  refine ev_iconst (v := 2) (pc := 874) dL_law_874 ki_2 ?_
  refine ev_iadd (pc := 875) dL_law_875 ?_
  refine ev_sld (pc := 876) dL_law_876 rfl e2 ?_
  refine ev_aload_n (v := 99) (pc := 877) dL_law_877 rfl ?_
  refine ev_iload_n (v := i) (pc := 878) dL_law_878 rfl ?_
  refine ev_iconst (v := 3) (pc := 879) dL_law_879 ki_3 ?_
  refine ev_iadd (pc := 880) dL_law_880 ?_
  refine ev_sld (pc := 881) dL_law_881 rfl e3 ?_
  refine ev_cVi3 (pc := 882) dL_law_882 mv_X6_interest lk_RL_103 rp_0 (ct_X6_interest _ _ _ _ _ _ rfl h1) (Nat.le_of_ble_eq_true rfl) (Nat.le_of_ble_eq_true rfl) ?_
  refine ev_aload_n (v := 19) (pc := 885) dL_law_885 rfl ?_
  refine ev_aload_n (v := 99) (pc := 886) dL_law_886 rfl ?_
  refine ev_iload_n (v := i) (pc := 887) dL_law_887 rfl ?_
  refine ev_iconst (v := 1) (pc := 888) dL_law_888 ki_1 ?_
  refine ev_iadd (pc := 889) dL_law_889 ?_
  refine ev_sld (pc := 890) dL_law_890 rfl e1 ?_
  refine ev_aload_n (v := 99) (pc := 891) dL_law_891 rfl ?_
  refine ev_iload_n (v := i) (pc := 892) dL_law_892 rfl ?_
  refine ev_iconst (v := 2) (pc := 893) dL_law_893 ki_2 ?_
  refine ev_iadd (pc := 894) dL_law_894 ?_
  refine ev_sld (pc := 895) dL_law_895 rfl e2 ?_
  refine ev_aload_n (v := 99) (pc := 896) dL_law_896 rfl ?_
  refine ev_iload_n (v := i) (pc := 897) dL_law_897 rfl ?_
  refine ev_iconst (v := 3) (pc := 898) dL_law_898 ki_3 ?_
  refine ev_iadd (pc := 899) dL_law_899 ?_
  refine ev_sld (pc := 900) dL_law_900 rfl e3 ?_
  refine ev_cVi3 (pc := 901) dL_law_901 mv_X7_interest lk_RL_106 rp_19 (ct_X7_interest _ _ _ _ _ _ _ rfl rfl h2) (Nat.le_of_ble_eq_true rfl) (Nat.le_of_ble_eq_true rfl) ?_
  exact ev_icmp_eq_t (t := 1521) (pc := 904) dL_law_904 (by decide) he K
set_option maxHeartbeats 4000000 in
theorem lc_listed {N : Nat} {xs : rb_Row} {r : Option Int32} {μf μ : rb_Mem} {i : Int32} {v1 : Int32} {o1 : Int32} {o2 : Int32} (e1 : rb_rd xs N (i + 1) = some v1) (h1 : XX6_listed (μ 5) v1 = some o1) (h2 : XX7_listed (μ 20) v1 = some o2) (he : o1 = o2) (K : rb_Ev RL cL_law 4 (some .boolean) (some (N, xs)) 60 r μf 1521 [some (.inr 99), some (.inr 0), some (.inr 19), some (.inl i)] [] μ) : rb_Ev RL cL_law 4 (some .boolean) (some (N, xs)) 60 r μf 909 [some (.inr 99), some (.inr 0), some (.inr 19), some (.inl i)] [] μ := by
  refine ev_aload_n (v := 0) (pc := 909) dL_law_909 rfl ?_
  refine ev_aload_n (v := 99) (pc := 910) dL_law_910 rfl ?_
  refine ev_iload_n (v := i) (pc := 911) dL_law_911 rfl ?_
  refine ev_iconst (v := 1) (pc := 912) dL_law_912 ki_1 ?_
  refine ev_iadd (pc := 913) dL_law_913 ?_
  refine ev_sld (pc := 914) dL_law_914 rfl e1 ?_
  refine ev_cVi1 (pc := 915) dL_law_915 mv_X6_listed lk_RL_107 rp_0 (ct_X6_listed _ _ _ _ rfl h1) (Nat.le_of_ble_eq_true rfl) (Nat.le_of_ble_eq_true rfl) ?_
  refine ev_aload_n (v := 19) (pc := 918) dL_law_918 rfl ?_
  refine ev_aload_n (v := 99) (pc := 919) dL_law_919 rfl ?_
  refine ev_iload_n (v := i) (pc := 920) dL_law_920 rfl ?_
  refine ev_iconst (v := 1) (pc := 921) dL_law_921 ki_1 ?_
  refine ev_iadd (pc := 922) dL_law_922 ?_
  refine ev_sld (pc := 923) dL_law_923 rfl e1 ?_
  refine ev_cVi1 (pc := 924) dL_law_924 mv_X7_listed lk_RL_110 rp_19 (ct_X7_listed _ _ _ _ rfl h2) (Nat.le_of_ble_eq_true rfl) (Nat.le_of_ble_eq_true rfl) ?_
  exact ev_icmp_eq_t (t := 1521) (pc := 927) dL_law_927 (by decide) he K
set_option maxHeartbeats 4000000 in
theorem lc_shows {N : Nat} {xs : rb_Row} {r : Option Int32} {μf μ : rb_Mem} {i : Int32} {v1 : Int32} {o1 : Int32} {o2 : Int32 × rb_Row} (e1 : rb_rd xs N (i + 1) = some v1) (h1 : XX6_shows (μ 5) v1 = some o1) (h2 : XX7_shows (μ 21) (μ 20) v1 = some o2) (he : o1 = o2.1) (K : rb_Ev RL cL_law 4 (some .boolean) (some (N, xs)) 60 r μf 1521 [some (.inr 99), some (.inr 0), some (.inr 19), some (.inl i)] [] (rb_ov μ [(21, o2.2)])) : rb_Ev RL cL_law 4 (some .boolean) (some (N, xs)) 60 r μf 932 [some (.inr 99), some (.inr 0), some (.inr 19), some (.inl i)] [] μ := by
  refine ev_aload_n (v := 0) (pc := 932) dL_law_932 rfl ?_
  refine ev_aload_n (v := 99) (pc := 933) dL_law_933 rfl ?_
  refine ev_iload_n (v := i) (pc := 934) dL_law_934 rfl ?_
  refine ev_iconst (v := 1) (pc := 935) dL_law_935 ki_1 ?_
  refine ev_iadd (pc := 936) dL_law_936 ?_
  refine ev_sld (pc := 937) dL_law_937 rfl e1 ?_
  refine ev_cVi1 (pc := 938) dL_law_938 mv_X6_shows lk_RL_111 rp_0 (ct_X6_shows _ _ _ _ rfl h1) (Nat.le_of_ble_eq_true rfl) (Nat.le_of_ble_eq_true rfl) ?_
  refine ev_aload_n (v := 19) (pc := 941) dL_law_941 rfl ?_
  refine ev_aload_n (v := 99) (pc := 942) dL_law_942 rfl ?_
  refine ev_iload_n (v := i) (pc := 943) dL_law_943 rfl ?_
  refine ev_iconst (v := 1) (pc := 944) dL_law_944 ki_1 ?_
  refine ev_iadd (pc := 945) dL_law_945 ?_
  refine ev_sld (pc := 946) dL_law_946 rfl e1 ?_
  refine ev_cVi1 (pc := 947) dL_law_947 mv_X7_shows lk_RL_114 rp_19 (ct_X7_shows _ _ _ _ _ rfl rfl h2) (Nat.le_of_ble_eq_true rfl) (Nat.le_of_ble_eq_true rfl) ?_
  exact ev_icmp_eq_t (t := 1521) (pc := 950) dL_law_950 (by decide) he K
set_option maxHeartbeats 4000000 in
theorem lc_shown {N : Nat} {xs : rb_Row} {r : Option Int32} {μf μ : rb_Mem} {i : Int32} {v1 v2 : Int32} {o1 : Int32} {o2 : Int32 × rb_Row} (e1 : rb_rd xs N (i + 1) = some v1) (e2 : rb_rd xs N (i + 2) = some v2) (h1 : XX6_shown (μ 5) v1 v2 = some o1) (h2 : XX7_shown (μ 21) (μ 20) v1 v2 = some o2) (he : o1 = o2.1) (K : rb_Ev RL cL_law 4 (some .boolean) (some (N, xs)) 60 r μf 1521 [some (.inr 99), some (.inr 0), some (.inr 19), some (.inl i)] [] (rb_ov μ [(21, o2.2)])) : rb_Ev RL cL_law 4 (some .boolean) (some (N, xs)) 60 r μf 955 [some (.inr 99), some (.inr 0), some (.inr 19), some (.inl i)] [] μ := by
  refine ev_aload_n (v := 0) (pc := 955) dL_law_955 rfl ?_
  refine ev_aload_n (v := 99) (pc := 956) dL_law_956 rfl ?_
  refine ev_iload_n (v := i) (pc := 957) dL_law_957 rfl ?_
  refine ev_iconst (v := 1) (pc := 958) dL_law_958 ki_1 ?_
  refine ev_iadd (pc := 959) dL_law_959 ?_
  refine ev_sld (pc := 960) dL_law_960 rfl e1 ?_
  refine ev_aload_n (v := 99) (pc := 961) dL_law_961 rfl ?_
  refine ev_iload_n (v := i) (pc := 962) dL_law_962 rfl ?_
  refine ev_iconst (v := 2) (pc := 963) dL_law_963 ki_2 ?_
  refine ev_iadd (pc := 964) dL_law_964 ?_
  refine ev_sld (pc := 965) dL_law_965 rfl e2 ?_
  refine ev_cVi2 (pc := 966) dL_law_966 mv_X6_shown lk_RL_115 rp_0 (ct_X6_shown _ _ _ _ _ rfl h1) (Nat.le_of_ble_eq_true rfl) (Nat.le_of_ble_eq_true rfl) ?_
  refine ev_aload_n (v := 19) (pc := 969) dL_law_969 rfl ?_
  refine ev_aload_n (v := 99) (pc := 970) dL_law_970 rfl ?_
  refine ev_iload_n (v := i) (pc := 971) dL_law_971 rfl ?_
  refine ev_iconst (v := 1) (pc := 972) dL_law_972 ki_1 ?_
  refine ev_iadd (pc := 973) dL_law_973 ?_
  refine ev_sld (pc := 974) dL_law_974 rfl e1 ?_
  refine ev_aload_n (v := 99) (pc := 975) dL_law_975 rfl ?_
  refine ev_iload_n (v := i) (pc := 976) dL_law_976 rfl ?_
  refine ev_iconst (v := 2) (pc := 977) dL_law_977 ki_2 ?_
  refine ev_iadd (pc := 978) dL_law_978 ?_
  refine ev_sld (pc := 979) dL_law_979 rfl e2 ?_
  refine ev_cVi2 (pc := 980) dL_law_980 mv_X7_shown lk_RL_118 rp_19 (ct_X7_shown _ _ _ _ _ _ rfl rfl h2) (Nat.le_of_ble_eq_true rfl) (Nat.le_of_ble_eq_true rfl) ?_
  exact ev_icmp_eq_t (t := 1521) (pc := 983) dL_law_983 (by decide) he K
set_option maxHeartbeats 4000000 in
theorem lc_depth {N : Nat} {xs : rb_Row} {r : Option Int32} {μf μ : rb_Mem} {i : Int32} {v1 : Int32} {o1 : Int32} {o2 : Int32 × rb_Row × rb_Row} (e1 : rb_rd xs N (i + 1) = some v1) (h1 : XX6_depth (μ 5) v1 = some o1) (h2 : XX7_depth (μ 27) (μ 28) (μ 20) v1 = some o2) (he : o1 = o2.1) (K : rb_Ev RL cL_law 4 (some .boolean) (some (N, xs)) 60 r μf 1521 [some (.inr 99), some (.inr 0), some (.inr 19), some (.inl i)] [] (rb_ov μ [(27, o2.2.1), (28, o2.2.2)])) : rb_Ev RL cL_law 4 (some .boolean) (some (N, xs)) 60 r μf 988 [some (.inr 99), some (.inr 0), some (.inr 19), some (.inl i)] [] μ := by
  refine ev_aload_n (v := 0) (pc := 988) dL_law_988 rfl ?_
  refine ev_aload_n (v := 99) (pc := 989) dL_law_989 rfl ?_
  refine ev_iload_n (v := i) (pc := 990) dL_law_990 rfl ?_
  refine ev_iconst (v := 1) (pc := 991) dL_law_991 ki_1 ?_
  refine ev_iadd (pc := 992) dL_law_992 ?_
  refine ev_sld (pc := 993) dL_law_993 rfl e1 ?_
  refine ev_cVi1 (pc := 994) dL_law_994 mv_X6_depth lk_RL_119 rp_0 (ct_X6_depth _ _ _ _ rfl h1) (Nat.le_of_ble_eq_true rfl) (Nat.le_of_ble_eq_true rfl) ?_
  refine ev_aload_n (v := 19) (pc := 997) dL_law_997 rfl ?_
  refine ev_aload_n (v := 99) (pc := 998) dL_law_998 rfl ?_
  refine ev_iload_n (v := i) (pc := 999) dL_law_999 rfl ?_
  refine ev_iconst (v := 1) (pc := 1000) dL_law_1000 ki_1 ?_
  refine ev_iadd (pc := 1001) dL_law_1001 ?_
  refine ev_sld (pc := 1002) dL_law_1002 rfl e1 ?_
  refine ev_cVi1 (pc := 1003) dL_law_1003 mv_X7_depth lk_RL_122 rp_19 (ct_X7_depth _ _ _ _ _ _ rfl rfl rfl h2) (Nat.le_of_ble_eq_true rfl) (Nat.le_of_ble_eq_true rfl) ?_
  exact ev_icmp_eq_t (t := 1521) (pc := 1006) dL_law_1006 (by decide) he K
set_option maxHeartbeats 4000000 in
theorem lc_sleeper {N : Nat} {xs : rb_Row} {r : Option Int32} {μf μ : rb_Mem} {i : Int32} {v1 v2 : Int32} {o1 : Int32} {o2 : Int32} (e1 : rb_rd xs N (i + 1) = some v1) (e2 : rb_rd xs N (i + 2) = some v2) (h1 : XX6_sleeper (μ 5) v1 v2 = some o1) (h2 : XX7_sleeper (μ 20) v1 v2 = some o2) (he : o1 = o2) (K : rb_Ev RL cL_law 4 (some .boolean) (some (N, xs)) 60 r μf 1521 [some (.inr 99), some (.inr 0), some (.inr 19), some (.inl i)] [] μ) : rb_Ev RL cL_law 4 (some .boolean) (some (N, xs)) 60 r μf 1011 [some (.inr 99), some (.inr 0), some (.inr 19), some (.inl i)] [] μ := by
  refine ev_aload_n (v := 0) (pc := 1011) dL_law_1011 rfl ?_
  refine ev_aload_n (v := 99) (pc := 1012) dL_law_1012 rfl ?_
  refine ev_iload_n (v := i) (pc := 1013) dL_law_1013 rfl ?_
  refine ev_iconst (v := 1) (pc := 1014) dL_law_1014 ki_1 ?_
  refine ev_iadd (pc := 1015) dL_law_1015 ?_
  refine ev_sld (pc := 1016) dL_law_1016 rfl e1 ?_
  refine ev_aload_n (v := 99) (pc := 1017) dL_law_1017 rfl ?_
  refine ev_iload_n (v := i) (pc := 1018) dL_law_1018 rfl ?_
  refine ev_iconst (v := 2) (pc := 1019) dL_law_1019 ki_2 ?_
  refine ev_iadd (pc := 1020) dL_law_1020 ?_
  refine ev_sld (pc := 1021) dL_law_1021 rfl e2 ?_
  refine ev_cVi2 (pc := 1022) dL_law_1022 mv_X6_sleeper lk_RL_123 rp_0 (ct_X6_sleeper _ _ _ _ _ rfl h1) (Nat.le_of_ble_eq_true rfl) (Nat.le_of_ble_eq_true rfl) ?_
  refine ev_aload_n (v := 19) (pc := 1025) dL_law_1025 rfl ?_
  refine ev_aload_n (v := 99) (pc := 1026) dL_law_1026 rfl ?_
  refine ev_iload_n (v := i) (pc := 1027) dL_law_1027 rfl ?_
  refine ev_iconst (v := 1) (pc := 1028) dL_law_1028 ki_1 ?_
  refine ev_iadd (pc := 1029) dL_law_1029 ?_
  refine ev_sld (pc := 1030) dL_law_1030 rfl e1 ?_
  refine ev_aload_n (v := 99) (pc := 1031) dL_law_1031 rfl ?_
  refine ev_iload_n (v := i) (pc := 1032) dL_law_1032 rfl ?_
  refine ev_iconst (v := 2) (pc := 1033) dL_law_1033 ki_2 ?_
  refine ev_iadd (pc := 1034) dL_law_1034 ?_
  refine ev_sld (pc := 1035) dL_law_1035 rfl e2 ?_
  refine ev_cVi2 (pc := 1036) dL_law_1036 mv_X7_sleeper lk_RL_126 rp_19 (ct_X7_sleeper _ _ _ _ _ rfl h2) (Nat.le_of_ble_eq_true rfl) (Nat.le_of_ble_eq_true rfl) ?_
  exact ev_icmp_eq_t (t := 1521) (pc := 1039) dL_law_1039 (by decide) he K
set_option maxHeartbeats 4000000 in
theorem lc_task {N : Nat} {xs : rb_Row} {r : Option Int32} {μf μ : rb_Mem} {i : Int32} {v1 v2 : Int32} {o1 : Int32} {o2 : Int32} (e1 : rb_rd xs N (i + 1) = some v1) (e2 : rb_rd xs N (i + 2) = some v2) (h1 : XX6_task (μ 5) v1 v2 = some o1) (h2 : XX7_task (μ 20) v1 v2 = some o2) (he : o1 = o2) (K : rb_Ev RL cL_law 4 (some .boolean) (some (N, xs)) 60 r μf 1521 [some (.inr 99), some (.inr 0), some (.inr 19), some (.inl i)] [] μ) : rb_Ev RL cL_law 4 (some .boolean) (some (N, xs)) 60 r μf 1044 [some (.inr 99), some (.inr 0), some (.inr 19), some (.inl i)] [] μ := by
  refine ev_aload_n (v := 0) (pc := 1044) dL_law_1044 rfl ?_
  refine ev_aload_n (v := 99) (pc := 1045) dL_law_1045 rfl ?_
  refine ev_iload_n (v := i) (pc := 1046) dL_law_1046 rfl ?_
  refine ev_iconst (v := 1) (pc := 1047) dL_law_1047 ki_1 ?_
  refine ev_iadd (pc := 1048) dL_law_1048 ?_
  refine ev_sld (pc := 1049) dL_law_1049 rfl e1 ?_
  refine ev_aload_n (v := 99) (pc := 1050) dL_law_1050 rfl ?_
  refine ev_iload_n (v := i) (pc := 1051) dL_law_1051 rfl ?_
  refine ev_iconst (v := 2) (pc := 1052) dL_law_1052 ki_2 ?_
  refine ev_iadd (pc := 1053) dL_law_1053 ?_
  refine ev_sld (pc := 1054) dL_law_1054 rfl e2 ?_
  refine ev_cVi2 (pc := 1055) dL_law_1055 mv_X6_task lk_RL_127 rp_0 (ct_X6_task _ _ _ _ _ rfl h1) (Nat.le_of_ble_eq_true rfl) (Nat.le_of_ble_eq_true rfl) ?_
  refine ev_aload_n (v := 19) (pc := 1058) dL_law_1058 rfl ?_
  refine ev_aload_n (v := 99) (pc := 1059) dL_law_1059 rfl ?_
  refine ev_iload_n (v := i) (pc := 1060) dL_law_1060 rfl ?_
  refine ev_iconst (v := 1) (pc := 1061) dL_law_1061 ki_1 ?_
  refine ev_iadd (pc := 1062) dL_law_1062 ?_
  refine ev_sld (pc := 1063) dL_law_1063 rfl e1 ?_
  refine ev_aload_n (v := 99) (pc := 1064) dL_law_1064 rfl ?_
  refine ev_iload_n (v := i) (pc := 1065) dL_law_1065 rfl ?_
  refine ev_iconst (v := 2) (pc := 1066) dL_law_1066 ki_2 ?_
  refine ev_iadd (pc := 1067) dL_law_1067 ?_
  refine ev_sld (pc := 1068) dL_law_1068 rfl e2 ?_
  refine ev_cVi2 (pc := 1069) dL_law_1069 mv_X7_task lk_RL_130 rp_19 (ct_X7_task _ _ _ _ _ rfl h2) (Nat.le_of_ble_eq_true rfl) (Nat.le_of_ble_eq_true rfl) ?_
  exact ev_icmp_eq_t (t := 1521) (pc := 1072) dL_law_1072 (by decide) he K
set_option maxHeartbeats 4000000 in
theorem lc_got {N : Nat} {xs : rb_Row} {r : Option Int32} {μf μ : rb_Mem} {i : Int32} {v1 v2 v3 : Int32} {o1 : Int32} {o2 : Int32} (e1 : rb_rd xs N (i + 1) = some v1) (e2 : rb_rd xs N (i + 2) = some v2) (e3 : rb_rd xs N (i + 3) = some v3) (h1 : XX6_got (μ 5) v1 v2 v3 = some o1) (h2 : XX7_got (μ 20) v1 v2 v3 = some o2) (he : o1 = o2) (K : rb_Ev RL cL_law 4 (some .boolean) (some (N, xs)) 60 r μf 1521 [some (.inr 99), some (.inr 0), some (.inr 19), some (.inl i)] [] μ) : rb_Ev RL cL_law 4 (some .boolean) (some (N, xs)) 60 r μf 1077 [some (.inr 99), some (.inr 0), some (.inr 19), some (.inl i)] [] μ := by
  refine ev_aload_n (v := 0) (pc := 1077) dL_law_1077 rfl ?_
  refine ev_aload_n (v := 99) (pc := 1078) dL_law_1078 rfl ?_
  refine ev_iload_n (v := i) (pc := 1079) dL_law_1079 rfl ?_
  refine ev_iconst (v := 1) (pc := 1080) dL_law_1080 ki_1 ?_
  refine ev_iadd (pc := 1081) dL_law_1081 ?_
  refine ev_sld (pc := 1082) dL_law_1082 rfl e1 ?_
  refine ev_aload_n (v := 99) (pc := 1083) dL_law_1083 rfl ?_
  refine ev_iload_n (v := i) (pc := 1084) dL_law_1084 rfl ?_
  refine ev_iconst (v := 2) (pc := 1085) dL_law_1085 ki_2 ?_
  refine ev_iadd (pc := 1086) dL_law_1086 ?_
  refine ev_sld (pc := 1087) dL_law_1087 rfl e2 ?_
  refine ev_aload_n (v := 99) (pc := 1088) dL_law_1088 rfl ?_
  refine ev_iload_n (v := i) (pc := 1089) dL_law_1089 rfl ?_
  refine ev_iconst (v := 3) (pc := 1090) dL_law_1090 ki_3 ?_
  refine ev_iadd (pc := 1091) dL_law_1091 ?_
  refine ev_sld (pc := 1092) dL_law_1092 rfl e3 ?_
  refine ev_cVi3 (pc := 1093) dL_law_1093 mv_X6_got lk_RL_131 rp_0 (ct_X6_got _ _ _ _ _ _ rfl h1) (Nat.le_of_ble_eq_true rfl) (Nat.le_of_ble_eq_true rfl) ?_
  refine ev_aload_n (v := 19) (pc := 1096) dL_law_1096 rfl ?_
  refine ev_aload_n (v := 99) (pc := 1097) dL_law_1097 rfl ?_
  refine ev_iload_n (v := i) (pc := 1098) dL_law_1098 rfl ?_
  refine ev_iconst (v := 1) (pc := 1099) dL_law_1099 ki_1 ?_
  refine ev_iadd (pc := 1100) dL_law_1100 ?_
  refine ev_sld (pc := 1101) dL_law_1101 rfl e1 ?_
  refine ev_aload_n (v := 99) (pc := 1102) dL_law_1102 rfl ?_
  refine ev_iload_n (v := i) (pc := 1103) dL_law_1103 rfl ?_
  refine ev_iconst (v := 2) (pc := 1104) dL_law_1104 ki_2 ?_
  refine ev_iadd (pc := 1105) dL_law_1105 ?_
  refine ev_sld (pc := 1106) dL_law_1106 rfl e2 ?_
  refine ev_aload_n (v := 99) (pc := 1107) dL_law_1107 rfl ?_
  refine ev_iload_n (v := i) (pc := 1108) dL_law_1108 rfl ?_
  refine ev_iconst (v := 3) (pc := 1109) dL_law_1109 ki_3 ?_
  refine ev_iadd (pc := 1110) dL_law_1110 ?_
  refine ev_sld (pc := 1111) dL_law_1111 rfl e3 ?_
  refine ev_cVi3 (pc := 1112) dL_law_1112 mv_X7_got lk_RL_134 rp_19 (ct_X7_got _ _ _ _ _ _ rfl h2) (Nat.le_of_ble_eq_true rfl) (Nat.le_of_ble_eq_true rfl) ?_
  exact ev_icmp_eq_t (t := 1521) (pc := 1115) dL_law_1115 (by decide) he K
set_option maxHeartbeats 4000000 in
theorem lc_wakes {N : Nat} {xs : rb_Row} {r : Option Int32} {μf μ : rb_Mem} {i : Int32} {v1 : Int32} {o1 : Int32 × rb_Row × rb_Row × rb_Row} {o2 : Int32 × rb_Row × rb_Row × rb_Row × rb_Row × rb_Row × rb_Row × rb_Row × rb_Row × rb_Row × rb_Row} (e1 : rb_rd xs N (i + 1) = some v1) (h1 : XX6_wakes (μ 11) (μ 12) (μ 7) (μ 5) v1 = some o1) (h2 : XX7_wakes (μ 20) (μ 21) (μ 22) (μ 19) (μ 23) (μ 24) (μ 25) (μ 26) (μ 29) (μ 31) v1 = some o2) (he : o1.1 = o2.1) (K : rb_Ev RL cL_law 4 (some .boolean) (some (N, xs)) 60 r μf 1521 [some (.inr 99), some (.inr 0), some (.inr 19), some (.inl i)] [] (rb_ov (rb_ov μ [(11, o1.2.1), (12, o1.2.2.1), (7, o1.2.2.2)]) [(20, o2.2.1), (21, o2.2.2.1), (22, o2.2.2.2.1), (19, o2.2.2.2.2.1), (23, o2.2.2.2.2.2.1), (24, o2.2.2.2.2.2.2.1), (25, o2.2.2.2.2.2.2.2.1), (26, o2.2.2.2.2.2.2.2.2.1), (29, o2.2.2.2.2.2.2.2.2.2.1), (31, o2.2.2.2.2.2.2.2.2.2.2)])) : rb_Ev RL cL_law 4 (some .boolean) (some (N, xs)) 60 r μf 1120 [some (.inr 99), some (.inr 0), some (.inr 19), some (.inl i)] [] μ := by
  refine ev_aload_n (v := 0) (pc := 1120) dL_law_1120 rfl ?_
  refine ev_aload_n (v := 99) (pc := 1121) dL_law_1121 rfl ?_
  refine ev_iload_n (v := i) (pc := 1122) dL_law_1122 rfl ?_
  refine ev_iconst (v := 1) (pc := 1123) dL_law_1123 ki_1 ?_
  refine ev_iadd (pc := 1124) dL_law_1124 ?_
  refine ev_sld (pc := 1125) dL_law_1125 rfl e1 ?_
  refine ev_cVi1 (pc := 1126) dL_law_1126 mv_X6_wakes lk_RL_135 rp_0 (ct_X6_wakes _ _ _ _ _ _ _ rfl rfl rfl rfl h1) (Nat.le_of_ble_eq_true rfl) (Nat.le_of_ble_eq_true rfl) ?_
  refine ev_aload_n (v := 19) (pc := 1129) dL_law_1129 rfl ?_
  refine ev_aload_n (v := 99) (pc := 1130) dL_law_1130 rfl ?_
  refine ev_iload_n (v := i) (pc := 1131) dL_law_1131 rfl ?_
  refine ev_iconst (v := 1) (pc := 1132) dL_law_1132 ki_1 ?_
  refine ev_iadd (pc := 1133) dL_law_1133 ?_
  refine ev_sld (pc := 1134) dL_law_1134 rfl e1 ?_
  refine ev_cVi1 (pc := 1135) dL_law_1135 mv_X7_wakes lk_RL_138 rp_19 (ct_X7_wakes _ _ _ _ _ _ _ _ _ _ _ _ _ rfl rfl rfl rfl rfl rfl rfl rfl rfl rfl h2) (Nat.le_of_ble_eq_true rfl) (Nat.le_of_ble_eq_true rfl) ?_
  exact ev_icmp_eq_t (t := 1521) (pc := 1138) dL_law_1138 (by decide) he K
set_option maxHeartbeats 4000000 in
theorem lc_plan {N : Nat} {xs : rb_Row} {r : Option Int32} {μf μ : rb_Mem} {i : Int32} {v1 v2 v3 v4 : Int32} {o1 : Int32 × rb_Row × rb_Row × rb_Row} {o2 : Int32 × rb_Row × rb_Row × rb_Row} (e1 : rb_rd xs N (i + 1) = some v1) (e2 : rb_rd xs N (i + 2) = some v2) (e3 : rb_rd xs N (i + 3) = some v3) (e4 : rb_rd xs N (i + 4) = some v4) (h1 : XX6_plan (μ 5) (μ 14) (μ 13) v1 v2 v3 v4 = some o1) (h2 : XX7_plan (μ 20) (μ 19) (μ 31) v1 v2 v3 v4 = some o2) (he : o1.1 = o2.1) (K : rb_Ev RL cL_law 4 (some .boolean) (some (N, xs)) 60 r μf 1521 [some (.inr 99), some (.inr 0), some (.inr 19), some (.inl i)] [] (rb_ov (rb_ov μ [(5, o1.2.1), (14, o1.2.2.1), (13, o1.2.2.2)]) [(20, o2.2.1), (19, o2.2.2.1), (31, o2.2.2.2)])) : rb_Ev RL cL_law 4 (some .boolean) (some (N, xs)) 60 r μf 1143 [some (.inr 99), some (.inr 0), some (.inr 19), some (.inl i)] [] μ := by
  refine ev_aload_n (v := 0) (pc := 1143) dL_law_1143 rfl ?_
  refine ev_aload_n (v := 99) (pc := 1144) dL_law_1144 rfl ?_
  refine ev_iload_n (v := i) (pc := 1145) dL_law_1145 rfl ?_
  refine ev_iconst (v := 1) (pc := 1146) dL_law_1146 ki_1 ?_
  refine ev_iadd (pc := 1147) dL_law_1147 ?_
  refine ev_sld (pc := 1148) dL_law_1148 rfl e1 ?_
  refine ev_aload_n (v := 99) (pc := 1149) dL_law_1149 rfl ?_
  refine ev_iload_n (v := i) (pc := 1150) dL_law_1150 rfl ?_
  refine ev_iconst (v := 2) (pc := 1151) dL_law_1151 ki_2 ?_
  refine ev_iadd (pc := 1152) dL_law_1152 ?_
  refine ev_sld (pc := 1153) dL_law_1153 rfl e2 ?_
  refine ev_aload_n (v := 99) (pc := 1154) dL_law_1154 rfl ?_
  refine ev_iload_n (v := i) (pc := 1155) dL_law_1155 rfl ?_
  refine ev_iconst (v := 3) (pc := 1156) dL_law_1156 ki_3 ?_
  refine ev_iadd (pc := 1157) dL_law_1157 ?_
  refine ev_sld (pc := 1158) dL_law_1158 rfl e3 ?_
  refine ev_aload_n (v := 99) (pc := 1159) dL_law_1159 rfl ?_
  refine ev_iload_n (v := i) (pc := 1160) dL_law_1160 rfl ?_
  refine ev_iconst (v := 4) (pc := 1161) dL_law_1161 ki_4 ?_
  refine ev_iadd (pc := 1162) dL_law_1162 ?_
  refine ev_sld (pc := 1163) dL_law_1163 rfl e4 ?_
  refine ev_cVi4 (pc := 1164) dL_law_1164 mv_X6_plan lk_RL_139 rp_0 (ct_X6_plan _ _ _ _ _ _ _ _ _ rfl rfl rfl h1) (Nat.le_of_ble_eq_true rfl) (Nat.le_of_ble_eq_true rfl) ?_
  refine ev_aload_n (v := 19) (pc := 1167) dL_law_1167 rfl ?_
  refine ev_aload_n (v := 99) (pc := 1168) dL_law_1168 rfl ?_
  refine ev_iload_n (v := i) (pc := 1169) dL_law_1169 rfl ?_
  refine ev_iconst (v := 1) (pc := 1170) dL_law_1170 ki_1 ?_
  refine ev_iadd (pc := 1171) dL_law_1171 ?_
  refine ev_sld (pc := 1172) dL_law_1172 rfl e1 ?_
  refine ev_aload_n (v := 99) (pc := 1173) dL_law_1173 rfl ?_
  refine ev_iload_n (v := i) (pc := 1174) dL_law_1174 rfl ?_
  refine ev_iconst (v := 2) (pc := 1175) dL_law_1175 ki_2 ?_
  refine ev_iadd (pc := 1176) dL_law_1176 ?_
  refine ev_sld (pc := 1177) dL_law_1177 rfl e2 ?_
  refine ev_aload_n (v := 99) (pc := 1178) dL_law_1178 rfl ?_
  refine ev_iload_n (v := i) (pc := 1179) dL_law_1179 rfl ?_
  refine ev_iconst (v := 3) (pc := 1180) dL_law_1180 ki_3 ?_
  refine ev_iadd (pc := 1181) dL_law_1181 ?_
  refine ev_sld (pc := 1182) dL_law_1182 rfl e3 ?_
  refine ev_aload_n (v := 99) (pc := 1183) dL_law_1183 rfl ?_
  refine ev_iload_n (v := i) (pc := 1184) dL_law_1184 rfl ?_
  refine ev_iconst (v := 4) (pc := 1185) dL_law_1185 ki_4 ?_
  refine ev_iadd (pc := 1186) dL_law_1186 ?_
  refine ev_sld (pc := 1187) dL_law_1187 rfl e4 ?_
  refine ev_cVi4 (pc := 1188) dL_law_1188 mv_X7_plan lk_RL_142 rp_19 (ct_X7_plan _ _ _ _ _ _ _ _ _ rfl rfl rfl h2) (Nat.le_of_ble_eq_true rfl) (Nat.le_of_ble_eq_true rfl) ?_
  exact ev_icmp_eq_t (t := 1521) (pc := 1191) dL_law_1191 (by decide) he K
set_option maxHeartbeats 4000000 in
theorem lc_round {N : Nat} {xs : rb_Row} {r : Option Int32} {μf μ : rb_Mem} {i : Int32} {v1 v2 : Int32} {b : Int32} {o1 : Int32 × rb_Row × rb_Row × rb_Row} {o2 : Int32 × rb_Row × rb_Row × rb_Row} (e1 : rb_rd xs N (i + 1) = some v1) (e2 : rb_rd xs N (i + 2) = some v2) (hb : b = if v2 = 0 then 0 else 1) (h1 : XX6_round (μ 5) (μ 14) (μ 13) v1 b = some o1) (h2 : XX7_round (μ 20) (μ 19) (μ 31) v1 b = some o2) (he : o1.1 = o2.1) (K : rb_Ev RL cL_law 4 (some .boolean) (some (N, xs)) 60 r μf 1521 [some (.inr 99), some (.inr 0), some (.inr 19), some (.inl i)] [] (rb_ov (rb_ov μ [(5, o1.2.1), (14, o1.2.2.1), (13, o1.2.2.2)]) [(20, o2.2.1), (19, o2.2.2.1), (31, o2.2.2.2)])) : rb_Ev RL cL_law 4 (some .boolean) (some (N, xs)) 60 r μf 1196 [some (.inr 99), some (.inr 0), some (.inr 19), some (.inl i)] [] μ := by
  refine ev_aload_n (v := 0) (pc := 1196) dL_law_1196 rfl ?_
  refine ev_aload_n (v := 99) (pc := 1197) dL_law_1197 rfl ?_
  refine ev_iload_n (v := i) (pc := 1198) dL_law_1198 rfl ?_
  refine ev_iconst (v := 1) (pc := 1199) dL_law_1199 ki_1 ?_
  refine ev_iadd (pc := 1200) dL_law_1200 ?_
  refine ev_sld (pc := 1201) dL_law_1201 rfl e1 ?_
  refine ev_aload_n (v := 99) (pc := 1202) dL_law_1202 rfl ?_
  refine ev_iload_n (v := i) (pc := 1203) dL_law_1203 rfl ?_
  refine ev_iconst (v := 2) (pc := 1204) dL_law_1204 ki_2 ?_
  refine ev_iadd (pc := 1205) dL_law_1205 ?_
  refine ev_sld (pc := 1206) dL_law_1206 rfl e2 ?_
  by_cases hz : v2 = 0
  · rw [if_pos hz] at hb
    subst hb
    refine ev_if_eq_t (t := 1214) (pc := 1207) dL_law_1207 (by decide) hz ?_
    refine ev_iconst (v := 0) (pc := 1214) dL_law_1214 ki_0 ?_
    refine ev_cVi2 (pc := 1215) dL_law_1215 mv_X6_round lk_RL_143 rp_0 (ct_X6_round _ _ _ _ _ _ _ rfl rfl rfl h1) (Nat.le_of_ble_eq_true rfl) (Nat.le_of_ble_eq_true rfl) ?_
    refine ev_aload_n (v := 19) (pc := 1218) dL_law_1218 rfl ?_
    refine ev_aload_n (v := 99) (pc := 1219) dL_law_1219 rfl ?_
    refine ev_iload_n (v := i) (pc := 1220) dL_law_1220 rfl ?_
    refine ev_iconst (v := 1) (pc := 1221) dL_law_1221 ki_1 ?_
    refine ev_iadd (pc := 1222) dL_law_1222 ?_
    refine ev_sld (pc := 1223) dL_law_1223 rfl e1 ?_
    refine ev_aload_n (v := 99) (pc := 1224) dL_law_1224 rfl ?_
    refine ev_iload_n (v := i) (pc := 1225) dL_law_1225 rfl ?_
    refine ev_iconst (v := 2) (pc := 1226) dL_law_1226 ki_2 ?_
    refine ev_iadd (pc := 1227) dL_law_1227 ?_
    refine ev_sld (pc := 1228) dL_law_1228 rfl e2 ?_
    refine ev_if_eq_t (t := 1236) (pc := 1229) dL_law_1229 (by decide) hz ?_
    refine ev_iconst (v := 0) (pc := 1236) dL_law_1236 ki_0 ?_
    refine ev_cVi2 (pc := 1237) dL_law_1237 mv_X7_round lk_RL_147 rp_19 (ct_X7_round _ _ _ _ _ _ _ rfl rfl rfl h2) (Nat.le_of_ble_eq_true rfl) (Nat.le_of_ble_eq_true rfl) ?_
    exact ev_icmp_eq_t (t := 1521) (pc := 1240) dL_law_1240 (by decide) he K
  · rw [if_neg hz] at hb
    subst hb
    refine ev_if_eq_f (t := 1214) (pc := 1207) dL_law_1207 (by decide) hz ?_
    refine ev_iconst (v := 1) (pc := 1210) dL_law_1210 ki_1 ?_
    refine ev_goto (t := 1215) (pc := 1211) dL_law_1211 (by decide) ?_
    refine ev_cVi2 (pc := 1215) dL_law_1215 mv_X6_round lk_RL_143 rp_0 (ct_X6_round _ _ _ _ _ _ _ rfl rfl rfl h1) (Nat.le_of_ble_eq_true rfl) (Nat.le_of_ble_eq_true rfl) ?_
    refine ev_aload_n (v := 19) (pc := 1218) dL_law_1218 rfl ?_
    refine ev_aload_n (v := 99) (pc := 1219) dL_law_1219 rfl ?_
    refine ev_iload_n (v := i) (pc := 1220) dL_law_1220 rfl ?_
    refine ev_iconst (v := 1) (pc := 1221) dL_law_1221 ki_1 ?_
    refine ev_iadd (pc := 1222) dL_law_1222 ?_
    refine ev_sld (pc := 1223) dL_law_1223 rfl e1 ?_
    refine ev_aload_n (v := 99) (pc := 1224) dL_law_1224 rfl ?_
    refine ev_iload_n (v := i) (pc := 1225) dL_law_1225 rfl ?_
    refine ev_iconst (v := 2) (pc := 1226) dL_law_1226 ki_2 ?_
    refine ev_iadd (pc := 1227) dL_law_1227 ?_
    refine ev_sld (pc := 1228) dL_law_1228 rfl e2 ?_
    refine ev_if_eq_f (t := 1236) (pc := 1229) dL_law_1229 (by decide) hz ?_
    refine ev_iconst (v := 1) (pc := 1232) dL_law_1232 ki_1 ?_
    refine ev_goto (t := 1237) (pc := 1233) dL_law_1233 (by decide) ?_
    refine ev_cVi2 (pc := 1237) dL_law_1237 mv_X7_round lk_RL_147 rp_19 (ct_X7_round _ _ _ _ _ _ _ rfl rfl rfl h2) (Nat.le_of_ble_eq_true rfl) (Nat.le_of_ble_eq_true rfl) ?_
    exact ev_icmp_eq_t (t := 1521) (pc := 1240) dL_law_1240 (by decide) he K
set_option maxHeartbeats 4000000 in
theorem lc_rounds {N : Nat} {xs : rb_Row} {r : Option Int32} {μf μ : rb_Mem} {i : Int32} {v1 : Int32} {o1 : Int32 × rb_Row × rb_Row × rb_Row × rb_Row × rb_Row} {o2 : Int32 × rb_Row × rb_Row × rb_Row × rb_Row × rb_Row × rb_Row × rb_Row × rb_Row × rb_Row} (e1 : rb_rd xs N (i + 1) = some v1) (h1 : XX6_rounds (μ 5) (μ 6) (μ 1) (μ 14) (μ 13) v1 = some o1) (h2 : XX7_rounds (μ 20) (μ 21) (μ 22) (μ 19) (μ 23) (μ 24) (μ 25) (μ 26) (μ 31) v1 = some o2) (he : o1.1 = o2.1) (K : rb_Ev RL cL_law 4 (some .boolean) (some (N, xs)) 60 r μf 1521 [some (.inr 99), some (.inr 0), some (.inr 19), some (.inl i)] [] (rb_ov (rb_ov μ [(5, o1.2.1), (6, o1.2.2.1), (1, o1.2.2.2.1), (14, o1.2.2.2.2.1), (13, o1.2.2.2.2.2)]) [(20, o2.2.1), (21, o2.2.2.1), (22, o2.2.2.2.1), (19, o2.2.2.2.2.1), (23, o2.2.2.2.2.2.1), (24, o2.2.2.2.2.2.2.1), (25, o2.2.2.2.2.2.2.2.1), (26, o2.2.2.2.2.2.2.2.2.1), (31, o2.2.2.2.2.2.2.2.2.2)])) : rb_Ev RL cL_law 4 (some .boolean) (some (N, xs)) 60 r μf 1245 [some (.inr 99), some (.inr 0), some (.inr 19), some (.inl i)] [] μ := by
  refine ev_aload_n (v := 0) (pc := 1245) dL_law_1245 rfl ?_
  refine ev_aload_n (v := 99) (pc := 1246) dL_law_1246 rfl ?_
  refine ev_iload_n (v := i) (pc := 1247) dL_law_1247 rfl ?_
  refine ev_iconst (v := 1) (pc := 1248) dL_law_1248 ki_1 ?_
  refine ev_iadd (pc := 1249) dL_law_1249 ?_
  refine ev_sld (pc := 1250) dL_law_1250 rfl e1 ?_
  refine ev_cVi1 (pc := 1251) dL_law_1251 mv_X6_rounds lk_RL_148 rp_0 (ct_X6_rounds _ _ _ _ _ _ _ _ rfl rfl rfl rfl rfl h1) (Nat.le_of_ble_eq_true rfl) (Nat.le_of_ble_eq_true rfl) ?_
  refine ev_aload_n (v := 19) (pc := 1254) dL_law_1254 rfl ?_
  refine ev_aload_n (v := 99) (pc := 1255) dL_law_1255 rfl ?_
  refine ev_iload_n (v := i) (pc := 1256) dL_law_1256 rfl ?_
  refine ev_iconst (v := 1) (pc := 1257) dL_law_1257 ki_1 ?_
  refine ev_iadd (pc := 1258) dL_law_1258 ?_
  refine ev_sld (pc := 1259) dL_law_1259 rfl e1 ?_
  refine ev_cVi1 (pc := 1260) dL_law_1260 mv_X7_rounds lk_RL_151 rp_19 (ct_X7_rounds _ _ _ _ _ _ _ _ _ _ _ _ rfl rfl rfl rfl rfl rfl rfl rfl rfl h2) (Nat.le_of_ble_eq_true rfl) (Nat.le_of_ble_eq_true rfl) ?_
  exact ev_icmp_eq_t (t := 1521) (pc := 1263) dL_law_1263 (by decide) he K
set_option maxHeartbeats 4000000 in
theorem lc_stuck {N : Nat} {xs : rb_Row} {r : Option Int32} {μf μ : rb_Mem} {i : Int32} {o1 : Int32 × rb_Row × rb_Row × rb_Row} {o2 : Int32 × rb_Row × rb_Row × rb_Row × rb_Row × rb_Row × rb_Row × rb_Row × rb_Row × rb_Row × rb_Row} (h1 : XX6_stuck (μ 11) (μ 12) (μ 7) (μ 5) = some o1) (h2 : XX7_stuck (μ 20) (μ 21) (μ 22) (μ 19) (μ 23) (μ 24) (μ 25) (μ 26) (μ 29) (μ 31) = some o2) (he : o1.1 = o2.1) (K : rb_Ev RL cL_law 4 (some .boolean) (some (N, xs)) 60 r μf 1521 [some (.inr 99), some (.inr 0), some (.inr 19), some (.inl i)] [] (rb_ov (rb_ov μ [(11, o1.2.1), (12, o1.2.2.1), (7, o1.2.2.2)]) [(20, o2.2.1), (21, o2.2.2.1), (22, o2.2.2.2.1), (19, o2.2.2.2.2.1), (23, o2.2.2.2.2.2.1), (24, o2.2.2.2.2.2.2.1), (25, o2.2.2.2.2.2.2.2.1), (26, o2.2.2.2.2.2.2.2.2.1), (29, o2.2.2.2.2.2.2.2.2.2.1), (31, o2.2.2.2.2.2.2.2.2.2.2)])) : rb_Ev RL cL_law 4 (some .boolean) (some (N, xs)) 60 r μf 1268 [some (.inr 99), some (.inr 0), some (.inr 19), some (.inl i)] [] μ := by
  refine ev_aload_n (v := 0) (pc := 1268) dL_law_1268 rfl ?_
  refine ev_cVi0 (pc := 1269) dL_law_1269 mv_X6_stuck lk_RL_152 rp_0 (ct_X6_stuck _ _ _ _ _ _ rfl rfl rfl rfl h1) (Nat.le_of_ble_eq_true rfl) (Nat.le_of_ble_eq_true rfl) ?_
  refine ev_aload_n (v := 19) (pc := 1272) dL_law_1272 rfl ?_
  refine ev_cVi0 (pc := 1273) dL_law_1273 mv_X7_stuck lk_RL_155 rp_19 (ct_X7_stuck _ _ _ _ _ _ _ _ _ _ _ _ rfl rfl rfl rfl rfl rfl rfl rfl rfl rfl h2) (Nat.le_of_ble_eq_true rfl) (Nat.le_of_ble_eq_true rfl) ?_
  exact ev_icmp_eq_t (t := 1521) (pc := 1276) dL_law_1276 (by decide) he K
set_option maxHeartbeats 4000000 in
theorem lc_soon {N : Nat} {xs : rb_Row} {r : Option Int32} {μf μ : rb_Mem} {i : Int32} {v1 : Int32} {o1 : Int32 × rb_Row × rb_Row × rb_Row} {o2 : Int32 × rb_Row × rb_Row × rb_Row × rb_Row × rb_Row × rb_Row × rb_Row × rb_Row × rb_Row} (e1 : rb_rd xs N (i + 1) = some v1) (h1 : XX6_soon (μ 11) (μ 12) (μ 7) (μ 5) v1 = some o1) (h2 : XX7_soon (μ 20) (μ 21) (μ 22) (μ 19) (μ 23) (μ 24) (μ 25) (μ 26) (μ 29) v1 = some o2) (he : o1.1 = o2.1) (K : rb_Ev RL cL_law 4 (some .boolean) (some (N, xs)) 60 r μf 1521 [some (.inr 99), some (.inr 0), some (.inr 19), some (.inl i)] [] (rb_ov (rb_ov μ [(11, o1.2.1), (12, o1.2.2.1), (7, o1.2.2.2)]) [(20, o2.2.1), (21, o2.2.2.1), (22, o2.2.2.2.1), (19, o2.2.2.2.2.1), (23, o2.2.2.2.2.2.1), (24, o2.2.2.2.2.2.2.1), (25, o2.2.2.2.2.2.2.2.1), (26, o2.2.2.2.2.2.2.2.2.1), (29, o2.2.2.2.2.2.2.2.2.2)])) : rb_Ev RL cL_law 4 (some .boolean) (some (N, xs)) 60 r μf 1281 [some (.inr 99), some (.inr 0), some (.inr 19), some (.inl i)] [] μ := by
  refine ev_aload_n (v := 0) (pc := 1281) dL_law_1281 rfl ?_
  refine ev_aload_n (v := 99) (pc := 1282) dL_law_1282 rfl ?_
  refine ev_iload_n (v := i) (pc := 1283) dL_law_1283 rfl ?_
  refine ev_iconst (v := 1) (pc := 1284) dL_law_1284 ki_1 ?_
  refine ev_iadd (pc := 1285) dL_law_1285 ?_
  refine ev_sld (pc := 1286) dL_law_1286 rfl e1 ?_
  refine ev_cVi1 (pc := 1287) dL_law_1287 mv_X6_soon lk_RL_156 rp_0 (ct_X6_soon _ _ _ _ _ _ _ rfl rfl rfl rfl h1) (Nat.le_of_ble_eq_true rfl) (Nat.le_of_ble_eq_true rfl) ?_
  refine ev_aload_n (v := 19) (pc := 1290) dL_law_1290 rfl ?_
  refine ev_aload_n (v := 99) (pc := 1291) dL_law_1291 rfl ?_
  refine ev_iload_n (v := i) (pc := 1292) dL_law_1292 rfl ?_
  refine ev_iconst (v := 1) (pc := 1293) dL_law_1293 ki_1 ?_
  refine ev_iadd (pc := 1294) dL_law_1294 ?_
  refine ev_sld (pc := 1295) dL_law_1295 rfl e1 ?_
  refine ev_cVi1 (pc := 1296) dL_law_1296 mv_X7_soon lk_RL_159 rp_19 (ct_X7_soon _ _ _ _ _ _ _ _ _ _ _ _ rfl rfl rfl rfl rfl rfl rfl rfl rfl h2) (Nat.le_of_ble_eq_true rfl) (Nat.le_of_ble_eq_true rfl) ?_
  exact ev_icmp_eq_t (t := 1521) (pc := 1299) dL_law_1299 (by decide) he K
set_option maxHeartbeats 4000000 in
theorem lc_calls {N : Nat} {xs : rb_Row} {r : Option Int32} {μf μ : rb_Mem} {i : Int32} {v1 v2 : Int32} {o1 : Int32 × rb_Row × rb_Row × rb_Row} {o2 : Int32 × rb_Row × rb_Row × rb_Row × rb_Row × rb_Row × rb_Row × rb_Row × rb_Row × rb_Row} (e1 : rb_rd xs N (i + 1) = some v1) (e2 : rb_rd xs N (i + 2) = some v2) (h1 : XX6_calls (μ 11) (μ 12) (μ 7) (μ 5) v1 v2 = some o1) (h2 : XX7_calls (μ 20) (μ 21) (μ 22) (μ 19) (μ 23) (μ 24) (μ 25) (μ 26) (μ 29) v1 v2 = some o2) (he : o1.1 = o2.1) (K : rb_Ev RL cL_law 4 (some .boolean) (some (N, xs)) 60 r μf 1521 [some (.inr 99), some (.inr 0), some (.inr 19), some (.inl i)] [] (rb_ov (rb_ov μ [(11, o1.2.1), (12, o1.2.2.1), (7, o1.2.2.2)]) [(20, o2.2.1), (21, o2.2.2.1), (22, o2.2.2.2.1), (19, o2.2.2.2.2.1), (23, o2.2.2.2.2.2.1), (24, o2.2.2.2.2.2.2.1), (25, o2.2.2.2.2.2.2.2.1), (26, o2.2.2.2.2.2.2.2.2.1), (29, o2.2.2.2.2.2.2.2.2.2)])) : rb_Ev RL cL_law 4 (some .boolean) (some (N, xs)) 60 r μf 1304 [some (.inr 99), some (.inr 0), some (.inr 19), some (.inl i)] [] μ := by
  refine ev_aload_n (v := 0) (pc := 1304) dL_law_1304 rfl ?_
  refine ev_aload_n (v := 99) (pc := 1305) dL_law_1305 rfl ?_
  refine ev_iload_n (v := i) (pc := 1306) dL_law_1306 rfl ?_
  refine ev_iconst (v := 1) (pc := 1307) dL_law_1307 ki_1 ?_
  refine ev_iadd (pc := 1308) dL_law_1308 ?_
  refine ev_sld (pc := 1309) dL_law_1309 rfl e1 ?_
  refine ev_aload_n (v := 99) (pc := 1310) dL_law_1310 rfl ?_
  refine ev_iload_n (v := i) (pc := 1311) dL_law_1311 rfl ?_
  refine ev_iconst (v := 2) (pc := 1312) dL_law_1312 ki_2 ?_
  refine ev_iadd (pc := 1313) dL_law_1313 ?_
  refine ev_sld (pc := 1314) dL_law_1314 rfl e2 ?_
  refine ev_cVi2 (pc := 1315) dL_law_1315 mv_X6_calls lk_RL_160 rp_0 (ct_X6_calls _ _ _ _ _ _ _ _ rfl rfl rfl rfl h1) (Nat.le_of_ble_eq_true rfl) (Nat.le_of_ble_eq_true rfl) ?_
  refine ev_aload_n (v := 19) (pc := 1318) dL_law_1318 rfl ?_
  refine ev_aload_n (v := 99) (pc := 1319) dL_law_1319 rfl ?_
  refine ev_iload_n (v := i) (pc := 1320) dL_law_1320 rfl ?_
  refine ev_iconst (v := 1) (pc := 1321) dL_law_1321 ki_1 ?_
  refine ev_iadd (pc := 1322) dL_law_1322 ?_
  refine ev_sld (pc := 1323) dL_law_1323 rfl e1 ?_
  refine ev_aload_n (v := 99) (pc := 1324) dL_law_1324 rfl ?_
  refine ev_iload_n (v := i) (pc := 1325) dL_law_1325 rfl ?_
  refine ev_iconst (v := 2) (pc := 1326) dL_law_1326 ki_2 ?_
  refine ev_iadd (pc := 1327) dL_law_1327 ?_
  refine ev_sld (pc := 1328) dL_law_1328 rfl e2 ?_
  refine ev_cVi2 (pc := 1329) dL_law_1329 mv_X7_calls lk_RL_163 rp_19 (ct_X7_calls _ _ _ _ _ _ _ _ _ _ _ _ _ rfl rfl rfl rfl rfl rfl rfl rfl rfl h2) (Nat.le_of_ble_eq_true rfl) (Nat.le_of_ble_eq_true rfl) ?_
  exact ev_icmp_eq_t (t := 1521) (pc := 1332) dL_law_1332 (by decide) he K
set_option maxHeartbeats 4000000 in
theorem lc_image {N : Nat} {xs : rb_Row} {r : Option Int32} {μf μ : rb_Mem} {i : Int32} {v1 : Int32} {o1 : Int32 × rb_Row × rb_Row} {o2 : Int32 × rb_Row × rb_Row} (e1 : rb_rd xs N (i + 1) = some v1) (h1 : XX6_image (μ 18) (μ 0) (μ 5) v1 = some o1) (h2 : XX7_image (μ 32) (μ 33) (μ 20) v1 = some o2) (he : o1.1 = o2.1) (K : rb_Ev RL cL_law 4 (some .boolean) (some (N, xs)) 60 r μf 1521 [some (.inr 99), some (.inr 0), some (.inr 19), some (.inl i)] [] (rb_ov (rb_ov μ [(18, o1.2.1), (0, o1.2.2)]) [(32, o2.2.1), (33, o2.2.2)])) : rb_Ev RL cL_law 4 (some .boolean) (some (N, xs)) 60 r μf 1337 [some (.inr 99), some (.inr 0), some (.inr 19), some (.inl i)] [] μ := by
  refine ev_aload_n (v := 0) (pc := 1337) dL_law_1337 rfl ?_
  refine ev_aload_n (v := 99) (pc := 1338) dL_law_1338 rfl ?_
  refine ev_iload_n (v := i) (pc := 1339) dL_law_1339 rfl ?_
  refine ev_iconst (v := 1) (pc := 1340) dL_law_1340 ki_1 ?_
  refine ev_iadd (pc := 1341) dL_law_1341 ?_
  refine ev_sld (pc := 1342) dL_law_1342 rfl e1 ?_
  refine ev_cVi1 (pc := 1343) dL_law_1343 mv_X6_image lk_RL_164 rp_0 (ct_X6_image _ _ _ _ _ _ rfl rfl rfl h1) (Nat.le_of_ble_eq_true rfl) (Nat.le_of_ble_eq_true rfl) ?_
  refine ev_aload_n (v := 19) (pc := 1346) dL_law_1346 rfl ?_
  refine ev_aload_n (v := 99) (pc := 1347) dL_law_1347 rfl ?_
  refine ev_iload_n (v := i) (pc := 1348) dL_law_1348 rfl ?_
  refine ev_iconst (v := 1) (pc := 1349) dL_law_1349 ki_1 ?_
  refine ev_iadd (pc := 1350) dL_law_1350 ?_
  refine ev_sld (pc := 1351) dL_law_1351 rfl e1 ?_
  refine ev_cVi1 (pc := 1352) dL_law_1352 mv_X7_image lk_RL_167 rp_19 (ct_X7_image _ _ _ _ _ _ rfl rfl rfl h2) (Nat.le_of_ble_eq_true rfl) (Nat.le_of_ble_eq_true rfl) ?_
  exact ev_icmp_eq_t (t := 1521) (pc := 1355) dL_law_1355 (by decide) he K
set_option maxHeartbeats 4000000 in
theorem lc_back {N : Nat} {xs : rb_Row} {r : Option Int32} {μf μ : rb_Mem} {i : Int32} {v1 : Int32} {o1 : Int32 × rb_Row × rb_Row × rb_Row} {o2 : Int32 × rb_Row × rb_Row} (e1 : rb_rd xs N (i + 1) = some v1) (h1 : XX6_back (μ 5) (μ 14) (μ 13) (μ 18) (μ 0) v1 = some o1) (h2 : XX7_back (μ 20) (μ 19) (μ 32) (μ 33) v1 = some o2) (he : o1.1 = o2.1) (K : rb_Ev RL cL_law 4 (some .boolean) (some (N, xs)) 60 r μf 1521 [some (.inr 99), some (.inr 0), some (.inr 19), some (.inl i)] [] (rb_ov (rb_ov μ [(5, o1.2.1), (14, o1.2.2.1), (13, o1.2.2.2)]) [(20, o2.2.1), (19, o2.2.2)])) : rb_Ev RL cL_law 4 (some .boolean) (some (N, xs)) 60 r μf 1360 [some (.inr 99), some (.inr 0), some (.inr 19), some (.inl i)] [] μ := by
  refine ev_aload_n (v := 0) (pc := 1360) dL_law_1360 rfl ?_
  refine ev_aload_n (v := 99) (pc := 1361) dL_law_1361 rfl ?_
  refine ev_iload_n (v := i) (pc := 1362) dL_law_1362 rfl ?_
  refine ev_iconst (v := 1) (pc := 1363) dL_law_1363 ki_1 ?_
  refine ev_iadd (pc := 1364) dL_law_1364 ?_
  refine ev_sld (pc := 1365) dL_law_1365 rfl e1 ?_
  refine ev_cVi1 (pc := 1366) dL_law_1366 mv_X6_back lk_RL_168 rp_0 (ct_X6_back _ _ _ _ _ _ _ _ rfl rfl rfl rfl rfl h1) (Nat.le_of_ble_eq_true rfl) (Nat.le_of_ble_eq_true rfl) ?_
  refine ev_aload_n (v := 19) (pc := 1369) dL_law_1369 rfl ?_
  refine ev_aload_n (v := 99) (pc := 1370) dL_law_1370 rfl ?_
  refine ev_iload_n (v := i) (pc := 1371) dL_law_1371 rfl ?_
  refine ev_iconst (v := 1) (pc := 1372) dL_law_1372 ki_1 ?_
  refine ev_iadd (pc := 1373) dL_law_1373 ?_
  refine ev_sld (pc := 1374) dL_law_1374 rfl e1 ?_
  refine ev_cVi1 (pc := 1375) dL_law_1375 mv_X7_back lk_RL_171 rp_19 (ct_X7_back _ _ _ _ _ _ _ rfl rfl rfl rfl h2) (Nat.le_of_ble_eq_true rfl) (Nat.le_of_ble_eq_true rfl) ?_
  exact ev_icmp_eq_t (t := 1521) (pc := 1378) dL_law_1378 (by decide) he K
set_option maxHeartbeats 4000000 in
theorem lc_forget {N : Nat} {xs : rb_Row} {r : Option Int32} {μf μ : rb_Mem} {i : Int32} {v1 : Int32} {o1 : Int32 × rb_Row × rb_Row × rb_Row} {o2 : Int32 × rb_Row × rb_Row × rb_Row} (e1 : rb_rd xs N (i + 1) = some v1) (h1 : XX6_forget (μ 5) (μ 14) (μ 13) v1 = some o1) (h2 : XX7_forget (μ 20) (μ 19) (μ 31) v1 = some o2) (he : o1.1 = o2.1) (K : rb_Ev RL cL_law 4 (some .boolean) (some (N, xs)) 60 r μf 1521 [some (.inr 99), some (.inr 0), some (.inr 19), some (.inl i)] [] (rb_ov (rb_ov μ [(5, o1.2.1), (14, o1.2.2.1), (13, o1.2.2.2)]) [(20, o2.2.1), (19, o2.2.2.1), (31, o2.2.2.2)])) : rb_Ev RL cL_law 4 (some .boolean) (some (N, xs)) 60 r μf 1383 [some (.inr 99), some (.inr 0), some (.inr 19), some (.inl i)] [] μ := by
  refine ev_aload_n (v := 0) (pc := 1383) dL_law_1383 rfl ?_
  refine ev_aload_n (v := 99) (pc := 1384) dL_law_1384 rfl ?_
  refine ev_iload_n (v := i) (pc := 1385) dL_law_1385 rfl ?_
  refine ev_iconst (v := 1) (pc := 1386) dL_law_1386 ki_1 ?_
  refine ev_iadd (pc := 1387) dL_law_1387 ?_
  refine ev_sld (pc := 1388) dL_law_1388 rfl e1 ?_
  refine ev_cVi1 (pc := 1389) dL_law_1389 mv_X6_forget lk_RL_172 rp_0 (ct_X6_forget _ _ _ _ _ _ rfl rfl rfl h1) (Nat.le_of_ble_eq_true rfl) (Nat.le_of_ble_eq_true rfl) ?_
  refine ev_aload_n (v := 19) (pc := 1392) dL_law_1392 rfl ?_
  refine ev_aload_n (v := 99) (pc := 1393) dL_law_1393 rfl ?_
  refine ev_iload_n (v := i) (pc := 1394) dL_law_1394 rfl ?_
  refine ev_iconst (v := 1) (pc := 1395) dL_law_1395 ki_1 ?_
  refine ev_iadd (pc := 1396) dL_law_1396 ?_
  refine ev_sld (pc := 1397) dL_law_1397 rfl e1 ?_
  refine ev_cVi1 (pc := 1398) dL_law_1398 mv_X7_forget lk_RL_175 rp_19 (ct_X7_forget _ _ _ _ _ _ rfl rfl rfl h2) (Nat.le_of_ble_eq_true rfl) (Nat.le_of_ble_eq_true rfl) ?_
  exact ev_icmp_eq_t (t := 1521) (pc := 1401) dL_law_1401 (by decide) he K
set_option maxHeartbeats 4000000 in
theorem lc_step {N : Nat} {xs : rb_Row} {r : Option Int32} {μf μ : rb_Mem} {i : Int32} {v1 : Int32} {o1 : Int32 × rb_Row × rb_Row × rb_Row × rb_Row × rb_Row} {o2 : Int32 × rb_Row × rb_Row × rb_Row × rb_Row × rb_Row × rb_Row × rb_Row × rb_Row × rb_Row} (e1 : rb_rd xs N (i + 1) = some v1) (h1 : XX6_step (μ 5) (μ 6) (μ 1) (μ 14) (μ 13) v1 = some o1) (h2 : XX7_step (μ 20) (μ 21) (μ 22) (μ 19) (μ 23) (μ 24) (μ 25) (μ 26) (μ 31) v1 = some o2) (he : o1.1 = o2.1) (K : rb_Ev RL cL_law 4 (some .boolean) (some (N, xs)) 60 r μf 1521 [some (.inr 99), some (.inr 0), some (.inr 19), some (.inl i)] [] (rb_ov (rb_ov μ [(5, o1.2.1), (6, o1.2.2.1), (1, o1.2.2.2.1), (14, o1.2.2.2.2.1), (13, o1.2.2.2.2.2)]) [(20, o2.2.1), (21, o2.2.2.1), (22, o2.2.2.2.1), (19, o2.2.2.2.2.1), (23, o2.2.2.2.2.2.1), (24, o2.2.2.2.2.2.2.1), (25, o2.2.2.2.2.2.2.2.1), (26, o2.2.2.2.2.2.2.2.2.1), (31, o2.2.2.2.2.2.2.2.2.2)])) : rb_Ev RL cL_law 4 (some .boolean) (some (N, xs)) 60 r μf 1406 [some (.inr 99), some (.inr 0), some (.inr 19), some (.inl i)] [] μ := by
  refine ev_aload_n (v := 0) (pc := 1406) dL_law_1406 rfl ?_
  refine ev_aload_n (v := 99) (pc := 1407) dL_law_1407 rfl ?_
  refine ev_iload_n (v := i) (pc := 1408) dL_law_1408 rfl ?_
  refine ev_iconst (v := 1) (pc := 1409) dL_law_1409 ki_1 ?_
  refine ev_iadd (pc := 1410) dL_law_1410 ?_
  refine ev_sld (pc := 1411) dL_law_1411 rfl e1 ?_
  refine ev_cVi1 (pc := 1412) dL_law_1412 mv_X6_step lk_RL_176 rp_0 (ct_X6_step _ _ _ _ _ _ _ _ rfl rfl rfl rfl rfl h1) (Nat.le_of_ble_eq_true rfl) (Nat.le_of_ble_eq_true rfl) ?_
  refine ev_aload_n (v := 19) (pc := 1415) dL_law_1415 rfl ?_
  refine ev_aload_n (v := 99) (pc := 1416) dL_law_1416 rfl ?_
  refine ev_iload_n (v := i) (pc := 1417) dL_law_1417 rfl ?_
  refine ev_iconst (v := 1) (pc := 1418) dL_law_1418 ki_1 ?_
  refine ev_iadd (pc := 1419) dL_law_1419 ?_
  refine ev_sld (pc := 1420) dL_law_1420 rfl e1 ?_
  refine ev_cVi1 (pc := 1421) dL_law_1421 mv_X7_step lk_RL_179 rp_19 (ct_X7_step _ _ _ _ _ _ _ _ _ _ _ _ rfl rfl rfl rfl rfl rfl rfl rfl rfl h2) (Nat.le_of_ble_eq_true rfl) (Nat.le_of_ble_eq_true rfl) ?_
  exact ev_icmp_eq_t (t := 1521) (pc := 1424) dL_law_1424 (by decide) he K
set_option maxHeartbeats 4000000 in
theorem lc_orders {N : Nat} {xs : rb_Row} {r : Option Int32} {μf μ : rb_Mem} {i : Int32} {v1 v2 v3 : Int32} {o1 : Int32 × rb_Row × rb_Row × rb_Row × rb_Row × rb_Row × rb_Row} {o2 : Int32 × rb_Row × rb_Row × rb_Row × rb_Row × rb_Row × rb_Row × rb_Row × rb_Row × rb_Row × rb_Row × rb_Row} (e1 : rb_rd xs N (i + 1) = some v1) (e2 : rb_rd xs N (i + 2) = some v2) (e3 : rb_rd xs N (i + 3) = some v3) (h1 : XX6_orders (μ 11) (μ 12) (μ 7) (μ 16) (μ 17) (μ 15) (μ 5) v1 v2 v3 = some o1) (h2 : XX7_orders (μ 20) (μ 21) (μ 22) (μ 19) (μ 23) (μ 24) (μ 25) (μ 26) (μ 29) (μ 30) (μ 31) v1 v2 v3 = some o2) (he : o1.1 = o2.1) (K : rb_Ev RL cL_law 4 (some .boolean) (some (N, xs)) 60 r μf 1521 [some (.inr 99), some (.inr 0), some (.inr 19), some (.inl i)] [] (rb_ov (rb_ov μ [(11, o1.2.1), (12, o1.2.2.1), (7, o1.2.2.2.1), (16, o1.2.2.2.2.1), (17, o1.2.2.2.2.2.1), (15, o1.2.2.2.2.2.2)]) [(20, o2.2.1), (21, o2.2.2.1), (22, o2.2.2.2.1), (19, o2.2.2.2.2.1), (23, o2.2.2.2.2.2.1), (24, o2.2.2.2.2.2.2.1), (25, o2.2.2.2.2.2.2.2.1), (26, o2.2.2.2.2.2.2.2.2.1), (29, o2.2.2.2.2.2.2.2.2.2.1), (30, o2.2.2.2.2.2.2.2.2.2.2.1), (31, o2.2.2.2.2.2.2.2.2.2.2.2)])) : rb_Ev RL cL_law 4 (some .boolean) (some (N, xs)) 60 r μf 1429 [some (.inr 99), some (.inr 0), some (.inr 19), some (.inl i)] [] μ := by
  refine ev_aload_n (v := 0) (pc := 1429) dL_law_1429 rfl ?_
  refine ev_aload_n (v := 99) (pc := 1430) dL_law_1430 rfl ?_
  refine ev_iload_n (v := i) (pc := 1431) dL_law_1431 rfl ?_
  refine ev_iconst (v := 1) (pc := 1432) dL_law_1432 ki_1 ?_
  refine ev_iadd (pc := 1433) dL_law_1433 ?_
  refine ev_sld (pc := 1434) dL_law_1434 rfl e1 ?_
  refine ev_aload_n (v := 99) (pc := 1435) dL_law_1435 rfl ?_
  refine ev_iload_n (v := i) (pc := 1436) dL_law_1436 rfl ?_
  refine ev_iconst (v := 2) (pc := 1437) dL_law_1437 ki_2 ?_
  refine ev_iadd (pc := 1438) dL_law_1438 ?_
  refine ev_sld (pc := 1439) dL_law_1439 rfl e2 ?_
  refine ev_aload_n (v := 99) (pc := 1440) dL_law_1440 rfl ?_
  refine ev_iload_n (v := i) (pc := 1441) dL_law_1441 rfl ?_
  refine ev_iconst (v := 3) (pc := 1442) dL_law_1442 ki_3 ?_
  refine ev_iadd (pc := 1443) dL_law_1443 ?_
  refine ev_sld (pc := 1444) dL_law_1444 rfl e3 ?_
  refine ev_cVi3 (pc := 1445) dL_law_1445 mv_X6_orders lk_RL_180 rp_0 (ct_X6_orders _ _ _ _ _ _ _ _ _ _ _ _ rfl rfl rfl rfl rfl rfl rfl h1) (Nat.le_of_ble_eq_true rfl) (Nat.le_of_ble_eq_true rfl) ?_
  refine ev_aload_n (v := 19) (pc := 1448) dL_law_1448 rfl ?_
  refine ev_aload_n (v := 99) (pc := 1449) dL_law_1449 rfl ?_
  refine ev_iload_n (v := i) (pc := 1450) dL_law_1450 rfl ?_
  refine ev_iconst (v := 1) (pc := 1451) dL_law_1451 ki_1 ?_
  refine ev_iadd (pc := 1452) dL_law_1452 ?_
  refine ev_sld (pc := 1453) dL_law_1453 rfl e1 ?_
  refine ev_aload_n (v := 99) (pc := 1454) dL_law_1454 rfl ?_
  refine ev_iload_n (v := i) (pc := 1455) dL_law_1455 rfl ?_
  refine ev_iconst (v := 2) (pc := 1456) dL_law_1456 ki_2 ?_
  refine ev_iadd (pc := 1457) dL_law_1457 ?_
  refine ev_sld (pc := 1458) dL_law_1458 rfl e2 ?_
  refine ev_aload_n (v := 99) (pc := 1459) dL_law_1459 rfl ?_
  refine ev_iload_n (v := i) (pc := 1460) dL_law_1460 rfl ?_
  refine ev_iconst (v := 3) (pc := 1461) dL_law_1461 ki_3 ?_
  refine ev_iadd (pc := 1462) dL_law_1462 ?_
  refine ev_sld (pc := 1463) dL_law_1463 rfl e3 ?_
  refine ev_cVi3 (pc := 1464) dL_law_1464 mv_X7_orders lk_RL_183 rp_19 (ct_X7_orders _ _ _ _ _ _ _ _ _ _ _ _ _ _ _ _ rfl rfl rfl rfl rfl rfl rfl rfl rfl rfl rfl h2) (Nat.le_of_ble_eq_true rfl) (Nat.le_of_ble_eq_true rfl) ?_
  exact ev_icmp_eq_t (t := 1521) (pc := 1467) dL_law_1467 (by decide) he K
set_option maxHeartbeats 4000000 in
theorem lc_undo {N : Nat} {xs : rb_Row} {r : Option Int32} {μf μ : rb_Mem} {i : Int32} {o1 : Int32 × rb_Row × rb_Row} {o2 : Int32 × rb_Row × rb_Row × rb_Row} (h1 : XX6_undo (μ 5) (μ 13) (μ 14) = some o1) (h2 : XX7_undo (μ 20) (μ 19) (μ 31) = some o2) (he : o1.1 = o2.1) (K : rb_Ev RL cL_law 4 (some .boolean) (some (N, xs)) 60 r μf 1521 [some (.inr 99), some (.inr 0), some (.inr 19), some (.inl i)] [] (rb_ov (rb_ov μ [(5, o1.2.1), (13, o1.2.2)]) [(20, o2.2.1), (19, o2.2.2.1), (31, o2.2.2.2)])) : rb_Ev RL cL_law 4 (some .boolean) (some (N, xs)) 60 r μf 1472 [some (.inr 99), some (.inr 0), some (.inr 19), some (.inl i)] [] μ := by
  refine ev_aload_n (v := 0) (pc := 1472) dL_law_1472 rfl ?_
  refine ev_cVi0 (pc := 1473) dL_law_1473 mv_X6_undo lk_RL_184 rp_0 (ct_X6_undo _ _ _ _ _ rfl rfl rfl h1) (Nat.le_of_ble_eq_true rfl) (Nat.le_of_ble_eq_true rfl) ?_
  refine ev_aload_n (v := 19) (pc := 1476) dL_law_1476 rfl ?_
  refine ev_cVi0 (pc := 1477) dL_law_1477 mv_X7_undo lk_RL_188 rp_19 (ct_X7_undo _ _ _ _ _ rfl rfl rfl h2) (Nat.le_of_ble_eq_true rfl) (Nat.le_of_ble_eq_true rfl) ?_
  exact ev_icmp_eq_t (t := 1521) (pc := 1480) dL_law_1480 (by decide) he K
set_option maxHeartbeats 4000000 in
theorem lc_redo {N : Nat} {xs : rb_Row} {r : Option Int32} {μf μ : rb_Mem} {i : Int32} {o1 : Int32 × rb_Row × rb_Row} {o2 : Int32 × rb_Row × rb_Row × rb_Row} (h1 : XX6_redo (μ 5) (μ 13) (μ 14) = some o1) (h2 : XX7_redo (μ 20) (μ 19) (μ 31) = some o2) (he : o1.1 = o2.1) (K : rb_Ev RL cL_law 4 (some .boolean) (some (N, xs)) 60 r μf 1521 [some (.inr 99), some (.inr 0), some (.inr 19), some (.inl i)] [] (rb_ov (rb_ov μ [(5, o1.2.1), (13, o1.2.2)]) [(20, o2.2.1), (19, o2.2.2.1), (31, o2.2.2.2)])) : rb_Ev RL cL_law 4 (some .boolean) (some (N, xs)) 60 r μf 1485 [some (.inr 99), some (.inr 0), some (.inr 19), some (.inl i)] [] μ := by
  refine ev_aload_n (v := 0) (pc := 1485) dL_law_1485 rfl ?_
  refine ev_cVi0 (pc := 1486) dL_law_1486 mv_X6_redo lk_RL_189 rp_0 (ct_X6_redo _ _ _ _ _ rfl rfl rfl h1) (Nat.le_of_ble_eq_true rfl) (Nat.le_of_ble_eq_true rfl) ?_
  refine ev_aload_n (v := 19) (pc := 1489) dL_law_1489 rfl ?_
  refine ev_cVi0 (pc := 1490) dL_law_1490 mv_X7_redo lk_RL_192 rp_19 (ct_X7_redo _ _ _ _ _ rfl rfl rfl h2) (Nat.le_of_ble_eq_true rfl) (Nat.le_of_ble_eq_true rfl) ?_
  exact ev_icmp_eq_t (t := 1521) (pc := 1493) dL_law_1493 (by decide) he K
set_option maxHeartbeats 4000000 in
theorem lc_about {N : Nat} {xs : rb_Row} {r : Option Int32} {μf μ : rb_Mem} {i : Int32} {v1 : Int32} {o1 : Int32} {o2 : Int32} (e1 : rb_rd xs N (i + 1) = some v1) (h1 : XX6_about (μ 5) (μ 13) v1 = some o1) (h2 : XX7_about (μ 20) (μ 19) v1 = some o2) (he : o1 = o2) (K : rb_Ev RL cL_law 4 (some .boolean) (some (N, xs)) 60 r μf 1521 [some (.inr 99), some (.inr 0), some (.inr 19), some (.inl i)] [] μ) : rb_Ev RL cL_law 4 (some .boolean) (some (N, xs)) 60 r μf 1498 [some (.inr 99), some (.inr 0), some (.inr 19), some (.inl i)] [] μ := by
  refine ev_aload_n (v := 0) (pc := 1498) dL_law_1498 rfl ?_
  refine ev_aload_n (v := 99) (pc := 1499) dL_law_1499 rfl ?_
  refine ev_iload_n (v := i) (pc := 1500) dL_law_1500 rfl ?_
  refine ev_iconst (v := 1) (pc := 1501) dL_law_1501 ki_1 ?_
  refine ev_iadd (pc := 1502) dL_law_1502 ?_
  refine ev_sld (pc := 1503) dL_law_1503 rfl e1 ?_
  refine ev_cVi1 (pc := 1504) dL_law_1504 mv_X6_about lk_RL_193 rp_0 (ct_X6_about _ _ _ _ _ rfl rfl h1) (Nat.le_of_ble_eq_true rfl) (Nat.le_of_ble_eq_true rfl) ?_
  refine ev_aload_n (v := 19) (pc := 1507) dL_law_1507 rfl ?_
  refine ev_aload_n (v := 99) (pc := 1508) dL_law_1508 rfl ?_
  refine ev_iload_n (v := i) (pc := 1509) dL_law_1509 rfl ?_
  refine ev_iconst (v := 1) (pc := 1510) dL_law_1510 ki_1 ?_
  refine ev_iadd (pc := 1511) dL_law_1511 ?_
  refine ev_sld (pc := 1512) dL_law_1512 rfl e1 ?_
  refine ev_cVi1 (pc := 1513) dL_law_1513 mv_X7_about lk_RL_196 rp_19 (ct_X7_about _ _ _ _ _ rfl rfl h2) (Nat.le_of_ble_eq_true rfl) (Nat.le_of_ble_eq_true rfl) ?_
  exact ev_icmp_eq_t (t := 1521) (pc := 1516) dL_law_1516 (by decide) he K
