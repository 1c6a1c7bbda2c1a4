section
variable {p : Program} {l : Launch} {e : Env} {s : State} {m : MethodId} {below : List Frame} {meth : Method} {c : Code} {Q : State → Prop} {Vx Vm : g_V} {b L : Nat} {xs : Nat → Int32} {cells slots : Nat}
variable {pc : Nat} {ls : Array Slot} {rest : List Value} {H : Heap} {locs : List Loc} {Mx Mm : g_M}
set_option maxRecDepth 100000 in
set_option maxHeartbeats 4000000 in
theorem l_case_0 (C : l_CX Vx Vm p s m meth c b L xs) (hcs : cells ≤ 600000 ∧ slots ≤ 7302250) {Rel : Nat → g_M → g_M → Prop} (hst : x_step_0 Rel) {i n : Nat} (hi : i + 6 ≤ L) (hn : n < 512) (hr : Rel n Mx Mm) (hp : l_PT Vx Vm Mx Mm s H locs) (hl : lv_has ls 4 [(3, .int (gI (i : Int))), (0, .ref b), (1, .ref (Vx.2.2 0)), (2, .ref (Vm.2.2 0))]) (kk : ∀ (Mx' Mm' : g_M) (H : Heap) (locs : List Loc), l_PT Vx Vm Mx' Mm' s H locs → Rel (n + 1) Mx' Mm' → W p l e room_1 s m #[Value.ref b] below meth c H locs cells slots Q (F0 m 1590 ls [])) : W p l e room_1 s m #[Value.ref b] below meth c H locs cells slots Q (F0 m 240 ls []) := by
  obtain ⟨r, r', Mx', Mm', hcx, hcm, heq, hrel⟩ := hst n Mx Mm hr hn (xs (i + 1)).toInt (xs (i + 2)).toInt (xs (i + 3)).toInt (g_rng _) (g_rng _) (g_rng _)
  refine lv_aload_n C.1 C.2.1 dl_240 rfl (lv_at hl 2 rfl) ?_
  refine lv_aload_n C.1 C.2.1 dl_241 rfl (lv_at hl 1 rfl) ?_
  refine lv_iload_n C.1 C.2.1 dl_242 rfl (lv_at hl 0 rfl) ?_
  refine rl_iconst C dl_243 ?_
  refine rl_iadd C dl_244 ?_
  refine rl_sld C hp (i := i) (k := 1) rfl (by omega) dl_245 ?_
  refine lv_aload_n C.1 C.2.1 dl_246 rfl (lv_at hl 1 rfl) ?_
  refine lv_iload_n C.1 C.2.1 dl_247 rfl (lv_at hl 0 rfl) ?_
  refine rl_iconst C dl_248 ?_
  refine rl_iadd C dl_249 ?_
  refine rl_sld C hp (i := i) (k := 2) rfl (by omega) dl_250 ?_
  refine lv_aload_n C.1 C.2.1 dl_251 rfl (lv_at hl 1 rfl) ?_
  refine lv_iload_n C.1 C.2.1 dl_252 rfl (lv_at hl 0 rfl) ?_
  refine rl_iconst C dl_253 ?_
  refine rl_iadd C dl_254 ?_
  refine rl_sld C hp (i := i) (k := 3) rfl (by omega) dl_255 ?_
  refine rl_callxI (As := [.int (gI (xs (i + 1)).toInt), .int (gI (xs (i + 2)).toInt), .int (gI (xs (i + 3)).toInt)]) (rest := []) C hl.1 hp (c_X8_scene l C.2.2.2.2.2.2.2.2.2.2.2.1 hcx) gw_456 gw_457 gw_458 xs_0 xc_8 cal_X8_scene rfl rfl (Nat.le_of_ble_eq_true rfl) ⟨Nat.le_of_ble_eq_true rfl, Nat.le_of_ble_eq_true rfl⟩ hcs dl_256 (fun H locs hp => ?_)
  refine lv_aload_n C.1 C.2.1 dl_259 rfl (lv_at hl 3 rfl) ?_
  refine lv_aload_n C.1 C.2.1 dl_260 rfl (lv_at hl 1 rfl) ?_
  refine lv_iload_n C.1 C.2.1 dl_261 rfl (lv_at hl 0 rfl) ?_
  refine rl_iconst C dl_262 ?_
  refine rl_iadd C dl_263 ?_
  refine rl_sld C hp (i := i) (k := 1) rfl (by omega) dl_264 ?_
  refine lv_aload_n C.1 C.2.1 dl_265 rfl (lv_at hl 1 rfl) ?_
  refine lv_iload_n C.1 C.2.1 dl_266 rfl (lv_at hl 0 rfl) ?_
  refine rl_iconst C dl_267 ?_
  refine rl_iadd C dl_268 ?_
  refine rl_sld C hp (i := i) (k := 2) rfl (by omega) dl_269 ?_
  refine lv_aload_n C.1 C.2.1 dl_270 rfl (lv_at hl 1 rfl) ?_
  refine lv_iload_n C.1 C.2.1 dl_271 rfl (lv_at hl 0 rfl) ?_
  refine rl_iconst C dl_272 ?_
  refine rl_iadd C dl_273 ?_
  refine rl_sld C hp (i := i) (k := 3) rfl (by omega) dl_274 ?_
  refine rl_callmI (As := [.int (gI (xs (i + 1)).toInt), .int (gI (xs (i + 2)).toInt), .int (gI (xs (i + 3)).toInt)]) (rest := [.int (gI r)]) C hl.1 hp (c_X9_scene l C.2.2.2.2.2.2.2.2.2.2.2.2.1 hcm) gw_1381 gw_1382 gw_1383 ms_0 mc_0 cal_X9_scene rfl rfl (Nat.le_of_ble_eq_true rfl) ⟨Nat.le_of_ble_eq_true rfl, Nat.le_of_ble_eq_true rfl⟩ hcs dl_275 (fun H locs hp => ?_)
  refine rl_icmp_eq (tgt := 1590) C heq dl_278 (by decide) ?_
  exact kk Mx' Mm' H locs hp hrel
set_option maxRecDepth 100000 in
set_option maxHeartbeats 4000000 in
theorem l_case_1 (C : l_CX Vx Vm p s m meth c b L xs) (hcs : cells ≤ 600000 ∧ slots ≤ 7302250) {Rel : Nat → g_M → g_M → Prop} (hst : x_step_1 Rel) {i n : Nat} (hi : i + 6 ≤ L) (hn : n < 512) (hr : Rel n Mx Mm) (hp : l_PT Vx Vm Mx Mm s H locs) (hl : lv_has ls 4 [(3, .int (gI (i : Int))), (0, .ref b), (1, .ref (Vx.2.2 0)), (2, .ref (Vm.2.2 0))]) (kk : ∀ (Mx' Mm' : g_M) (H : Heap) (locs : List Loc), l_PT Vx Vm Mx' Mm' s H locs → Rel (n + 1) Mx' Mm' → W p l e room_1 s m #[Value.ref b] below meth c H locs cells slots Q (F0 m 1590 ls [])) : W p l e room_1 s m #[Value.ref b] below meth c H locs cells slots Q (F0 m 283 ls []) := by
  obtain ⟨r, r', Mx', Mm', hcx, hcm, heq, hrel⟩ := hst n Mx Mm hr hn (xs (i + 1)).toInt (xs (i + 2)).toInt (g_rng _) (g_rng _)
  refine lv_aload_n C.1 C.2.1 dl_283 rfl (lv_at hl 2 rfl) ?_
  refine lv_aload_n C.1 C.2.1 dl_284 rfl (lv_at hl 1 rfl) ?_
  refine lv_iload_n C.1 C.2.1 dl_285 rfl (lv_at hl 0 rfl) ?_
  refine rl_iconst C dl_286 ?_
  refine rl_iadd C dl_287 ?_
  refine rl_sld C hp (i := i) (k := 1) rfl (by omega) dl_288 ?_
  refine lv_aload_n C.1 C.2.1 dl_289 rfl (lv_at hl 1 rfl) ?_
  refine lv_iload_n C.1 C.2.1 dl_290 rfl (lv_at hl 0 rfl) ?_
  refine rl_iconst C dl_291 ?_
  refine rl_iadd C dl_292 ?_
  refine rl_sld C hp (i := i) (k := 2) rfl (by omega) dl_293 ?_
  refine rl_callxI (As := [.int (gI (xs (i + 1)).toInt), .int (gI (xs (i + 2)).toInt)]) (rest := []) C hl.1 hp (c_X8_kind l C.2.2.2.2.2.2.2.2.2.2.2.1 hcx) gw_480 gw_481 gw_482 xs_0 xc_8 cal_X8_kind rfl rfl (Nat.le_of_ble_eq_true rfl) ⟨Nat.le_of_ble_eq_true rfl, Nat.le_of_ble_eq_true rfl⟩ hcs dl_294 (fun H locs hp => ?_)
  refine lv_aload_n C.1 C.2.1 dl_297 rfl (lv_at hl 3 rfl) ?_
  refine lv_aload_n C.1 C.2.1 dl_298 rfl (lv_at hl 1 rfl) ?_
  refine lv_iload_n C.1 C.2.1 dl_299 rfl (lv_at hl 0 rfl) ?_
  refine rl_iconst C dl_300 ?_
  refine rl_iadd C dl_301 ?_
  refine rl_sld C hp (i := i) (k := 1) rfl (by omega) dl_302 ?_
  refine lv_aload_n C.1 C.2.1 dl_303 rfl (lv_at hl 1 rfl) ?_
  refine lv_iload_n C.1 C.2.1 dl_304 rfl (lv_at hl 0 rfl) ?_
  refine rl_iconst C dl_305 ?_
  refine rl_iadd C dl_306 ?_
  refine rl_sld C hp (i := i) (k := 2) rfl (by omega) dl_307 ?_
  refine rl_callmI (As := [.int (gI (xs (i + 1)).toInt), .int (gI (xs (i + 2)).toInt)]) (rest := [.int (gI r)]) C hl.1 hp (c_X9_kind l C.2.2.2.2.2.2.2.2.2.2.2.2.1 hcm) gw_1391 gw_1392 gw_1393 ms_0 mc_0 cal_X9_kind rfl rfl (Nat.le_of_ble_eq_true rfl) ⟨Nat.le_of_ble_eq_true rfl, Nat.le_of_ble_eq_true rfl⟩ hcs dl_308 (fun H locs hp => ?_)
  refine rl_icmp_eq (tgt := 1590) C heq dl_311 (by decide) ?_
  exact kk Mx' Mm' H locs hp hrel
set_option maxRecDepth 100000 in
set_option maxHeartbeats 4000000 in
theorem l_case_2 (C : l_CX Vx Vm p s m meth c b L xs) (hcs : cells ≤ 600000 ∧ slots ≤ 7302250) {Rel : Nat → g_M → g_M → Prop} (hst : x_step_2 Rel) {i n : Nat} (hi : i + 6 ≤ L) (hn : n < 512) (hr : Rel n Mx Mm) (hp : l_PT Vx Vm Mx Mm s H locs) (hl : lv_has ls 4 [(3, .int (gI (i : Int))), (0, .ref b), (1, .ref (Vx.2.2 0)), (2, .ref (Vm.2.2 0))]) (kk : ∀ (Mx' Mm' : g_M) (H : Heap) (locs : List Loc), l_PT Vx Vm Mx' Mm' s H locs → Rel (n + 1) Mx' Mm' → W p l e room_1 s m #[Value.ref b] below meth c H locs cells slots Q (F0 m 1590 ls [])) : W p l e room_1 s m #[Value.ref b] below meth c H locs cells slots Q (F0 m 316 ls []) := by
  obtain ⟨r, r', Mx', Mm', hcx, hcm, heq, hrel⟩ := hst n Mx Mm hr hn (xs (i + 1)).toInt (xs (i + 2)).toInt (g_rng _) (g_rng _)
  refine lv_aload_n C.1 C.2.1 dl_316 rfl (lv_at hl 2 rfl) ?_
  refine lv_aload_n C.1 C.2.1 dl_317 rfl (lv_at hl 1 rfl) ?_
  refine lv_iload_n C.1 C.2.1 dl_318 rfl (lv_at hl 0 rfl) ?_
  refine rl_iconst C dl_319 ?_
  refine rl_iadd C dl_320 ?_
  refine rl_sld C hp (i := i) (k := 1) rfl (by omega) dl_321 ?_
  refine lv_aload_n C.1 C.2.1 dl_322 rfl (lv_at hl 1 rfl) ?_
  refine lv_iload_n C.1 C.2.1 dl_323 rfl (lv_at hl 0 rfl) ?_
  refine rl_iconst C dl_324 ?_
  refine rl_iadd C dl_325 ?_
  refine rl_sld C hp (i := i) (k := 2) rfl (by omega) dl_326 ?_
  refine rl_callxI (As := [.int (gI (xs (i + 1)).toInt), .int (gI (xs (i + 2)).toInt)]) (rest := []) C hl.1 hp (c_X8_person l C.2.2.2.2.2.2.2.2.2.2.2.1 hcx) gw_484 gw_485 gw_486 xs_0 xc_8 cal_X8_person rfl rfl (Nat.le_of_ble_eq_true rfl) ⟨Nat.le_of_ble_eq_true rfl, Nat.le_of_ble_eq_true rfl⟩ hcs dl_327 (fun H locs hp => ?_)
  refine lv_aload_n C.1 C.2.1 dl_330 rfl (lv_at hl 3 rfl) ?_
  refine lv_aload_n C.1 C.2.1 dl_331 rfl (lv_at hl 1 rfl) ?_
  refine lv_iload_n C.1 C.2.1 dl_332 rfl (lv_at hl 0 rfl) ?_
  refine rl_iconst C dl_333 ?_
  refine rl_iadd C dl_334 ?_
  refine rl_sld C hp (i := i) (k := 1) rfl (by omega) dl_335 ?_
  refine lv_aload_n C.1 C.2.1 dl_336 rfl (lv_at hl 1 rfl) ?_
  refine lv_iload_n C.1 C.2.1 dl_337 rfl (lv_at hl 0 rfl) ?_
  refine rl_iconst C dl_338 ?_
  refine rl_iadd C dl_339 ?_
  refine rl_sld C hp (i := i) (k := 2) rfl (by omega) dl_340 ?_
  refine rl_callmI (As := [.int (gI (xs (i + 1)).toInt), .int (gI (xs (i + 2)).toInt)]) (rest := [.int (gI r)]) C hl.1 hp (c_X9_person l C.2.2.2.2.2.2.2.2.2.2.2.2.1 hcm) gw_1395 gw_1396 gw_1397 ms_0 mc_0 cal_X9_person rfl rfl (Nat.le_of_ble_eq_true rfl) ⟨Nat.le_of_ble_eq_true rfl, Nat.le_of_ble_eq_true rfl⟩ hcs dl_341 (fun H locs hp => ?_)
  refine rl_icmp_eq (tgt := 1590) C heq dl_344 (by decide) ?_
  exact kk Mx' Mm' H locs hp hrel
set_option maxRecDepth 100000 in
set_option maxHeartbeats 4000000 in
theorem l_case_3 (C : l_CX Vx Vm p s m meth c b L xs) (hcs : cells ≤ 600000 ∧ slots ≤ 7302250) {Rel : Nat → g_M → g_M → Prop} (hst : x_step_3 Rel) {i n : Nat} (hi : i + 6 ≤ L) (hn : n < 512) (hr : Rel n Mx Mm) (hp : l_PT Vx Vm Mx Mm s H locs) (hl : lv_has ls 4 [(3, .int (gI (i : Int))), (0, .ref b), (1, .ref (Vx.2.2 0)), (2, .ref (Vm.2.2 0))]) (kk : ∀ (Mx' Mm' : g_M) (H : Heap) (locs : List Loc), l_PT Vx Vm Mx' Mm' s H locs → Rel (n + 1) Mx' Mm' → W p l e room_1 s m #[Value.ref b] below meth c H locs cells slots Q (F0 m 1590 ls [])) : W p l e room_1 s m #[Value.ref b] below meth c H locs cells slots Q (F0 m 349 ls []) := by
  obtain ⟨r, r', Mx', Mm', hcx, hcm, heq, hrel⟩ := hst n Mx Mm hr hn (xs (i + 1)).toInt (xs (i + 2)).toInt (xs (i + 3)).toInt (xs (i + 4)).toInt (xs (i + 5)).toInt (g_rng _) (g_rng _) (g_rng _) (g_rng _) (g_rng _)
  refine lv_aload_n C.1 C.2.1 dl_349 rfl (lv_at hl 2 rfl) ?_
  refine lv_aload_n C.1 C.2.1 dl_350 rfl (lv_at hl 1 rfl) ?_
  refine lv_iload_n C.1 C.2.1 dl_351 rfl (lv_at hl 0 rfl) ?_
  refine rl_iconst C dl_352 ?_
  refine rl_iadd C dl_353 ?_
  refine rl_sld C hp (i := i) (k := 1) rfl (by omega) dl_354 ?_
  refine lv_aload_n C.1 C.2.1 dl_355 rfl (lv_at hl 1 rfl) ?_
  refine lv_iload_n C.1 C.2.1 dl_356 rfl (lv_at hl 0 rfl) ?_
  refine rl_iconst C dl_357 ?_
  refine rl_iadd C dl_358 ?_
  refine rl_sld C hp (i := i) (k := 2) rfl (by omega) dl_359 ?_
  refine lv_aload_n C.1 C.2.1 dl_360 rfl (lv_at hl 1 rfl) ?_
  refine lv_iload_n C.1 C.2.1 dl_361 rfl (lv_at hl 0 rfl) ?_
  refine rl_iconst C dl_362 ?_
  refine rl_iadd C dl_363 ?_
  refine rl_sld C hp (i := i) (k := 3) rfl (by omega) dl_364 ?_
  refine lv_aload_n C.1 C.2.1 dl_365 rfl (lv_at hl 1 rfl) ?_
  refine lv_iload_n C.1 C.2.1 dl_366 rfl (lv_at hl 0 rfl) ?_
  refine rl_iconst C dl_367 ?_
  refine rl_iadd C dl_368 ?_
  refine rl_sld C hp (i := i) (k := 4) rfl (by omega) dl_369 ?_
  refine lv_aload_n C.1 C.2.1 dl_370 rfl (lv_at hl 1 rfl) ?_
  refine lv_iload_n C.1 C.2.1 dl_371 rfl (lv_at hl 0 rfl) ?_
  refine rl_iconst C dl_372 ?_
  refine rl_iadd C dl_373 ?_
  refine rl_sld C hp (i := i) (k := 5) rfl (by omega) dl_374 ?_
  refine rl_callxI (As := [.int (gI (xs (i + 1)).toInt), .int (gI (xs (i + 2)).toInt), .int (gI (xs (i + 3)).toInt), .int (gI (xs (i + 4)).toInt), .int (gI (xs (i + 5)).toInt)]) (rest := []) C hl.1 hp (c_X8_feed l C.2.2.2.2.2.2.2.2.2.2.2.1 hcx) gw_495 gw_496 gw_497 xs_0 xc_8 cal_X8_feed rfl rfl (Nat.le_of_ble_eq_true rfl) ⟨Nat.le_of_ble_eq_true rfl, Nat.le_of_ble_eq_true rfl⟩ hcs dl_375 (fun H locs hp => ?_)
  refine lv_aload_n C.1 C.2.1 dl_378 rfl (lv_at hl 3 rfl) ?_
  refine lv_aload_n C.1 C.2.1 dl_379 rfl (lv_at hl 1 rfl) ?_
  refine lv_iload_n C.1 C.2.1 dl_380 rfl (lv_at hl 0 rfl) ?_
  refine rl_iconst C dl_381 ?_
  refine rl_iadd C dl_382 ?_
  refine rl_sld C hp (i := i) (k := 1) rfl (by omega) dl_383 ?_
  refine lv_aload_n C.1 C.2.1 dl_384 rfl (lv_at hl 1 rfl) ?_
  refine lv_iload_n C.1 C.2.1 dl_385 rfl (lv_at hl 0 rfl) ?_
  refine rl_iconst C dl_386 ?_
  refine rl_iadd C dl_387 ?_
  refine rl_sld C hp (i := i) (k := 2) rfl (by omega) dl_388 ?_
  refine lv_aload_n C.1 C.2.1 dl_389 rfl (lv_at hl 1 rfl) ?_
  refine lv_iload_n C.1 C.2.1 dl_390 rfl (lv_at hl 0 rfl) ?_
  refine rl_iconst C dl_391 ?_
  refine rl_iadd C dl_392 ?_
  refine rl_sld C hp (i := i) (k := 3) rfl (by omega) dl_393 ?_
  refine lv_aload_n C.1 C.2.1 dl_394 rfl (lv_at hl 1 rfl) ?_
  refine lv_iload_n C.1 C.2.1 dl_395 rfl (lv_at hl 0 rfl) ?_
  refine rl_iconst C dl_396 ?_
  refine rl_iadd C dl_397 ?_
  refine rl_sld C hp (i := i) (k := 4) rfl (by omega) dl_398 ?_
  refine lv_aload_n C.1 C.2.1 dl_399 rfl (lv_at hl 1 rfl) ?_
  refine lv_iload_n C.1 C.2.1 dl_400 rfl (lv_at hl 0 rfl) ?_
  refine rl_iconst C dl_401 ?_
  refine rl_iadd C dl_402 ?_
  refine rl_sld C hp (i := i) (k := 5) rfl (by omega) dl_403 ?_
  refine rl_callmI (As := [.int (gI (xs (i + 1)).toInt), .int (gI (xs (i + 2)).toInt), .int (gI (xs (i + 3)).toInt), .int (gI (xs (i + 4)).toInt), .int (gI (xs (i + 5)).toInt)]) (rest := [.int (gI r)]) C hl.1 hp (c_X9_feed l C.2.2.2.2.2.2.2.2.2.2.2.2.1 hcm) gw_1407 gw_1408 gw_1409 ms_0 mc_0 cal_X9_feed rfl rfl (Nat.le_of_ble_eq_true rfl) ⟨Nat.le_of_ble_eq_true rfl, Nat.le_of_ble_eq_true rfl⟩ hcs dl_404 (fun H locs hp => ?_)
  refine rl_icmp_eq (tgt := 1590) C heq dl_407 (by decide) ?_
  exact kk Mx' Mm' H locs hp hrel
set_option maxRecDepth 100000 in
set_option maxHeartbeats 4000000 in
theorem l_case_4 (C : l_CX Vx Vm p s m meth c b L xs) (hcs : cells ≤ 600000 ∧ slots ≤ 7302250) {Rel : Nat → g_M → g_M → Prop} (hst : x_step_4 Rel) {i n : Nat} (hi : i + 6 ≤ L) (hn : n < 512) (hr : Rel n Mx Mm) (hp : l_PT Vx Vm Mx Mm s H locs) (hl : lv_has ls 4 [(3, .int (gI (i : Int))), (0, .ref b), (1, .ref (Vx.2.2 0)), (2, .ref (Vm.2.2 0))]) (kk : ∀ (Mx' Mm' : g_M) (H : Heap) (locs : List Loc), l_PT Vx Vm Mx' Mm' s H locs → Rel (n + 1) Mx' Mm' → W p l e room_1 s m #[Value.ref b] below meth c H locs cells slots Q (F0 m 1590 ls [])) : W p l e room_1 s m #[Value.ref b] below meth c H locs cells slots Q (F0 m 412 ls []) := by
  obtain ⟨r, r', Mx', Mm', hcx, hcm, heq, hrel⟩ := hst n Mx Mm hr hn (xs (i + 1)).toInt (g_rng _)
  refine lv_aload_n C.1 C.2.1 dl_412 rfl (lv_at hl 2 rfl) ?_
  refine lv_aload_n C.1 C.2.1 dl_413 rfl (lv_at hl 1 rfl) ?_
  refine lv_iload_n C.1 C.2.1 dl_414 rfl (lv_at hl 0 rfl) ?_
  refine rl_iconst C dl_415 ?_
  refine rl_iadd C dl_416 ?_
  refine rl_sld C hp (i := i) (k := 1) rfl (by omega) dl_417 ?_
  refine rl_callxI (As := [.int (gI (xs (i + 1)).toInt)]) (rest := []) C hl.1 hp (c_X8_end l C.2.2.2.2.2.2.2.2.2.2.2.1 hcx) gw_503 gw_504 gw_505 xs_0 xc_8 cal_X8_end rfl rfl (Nat.le_of_ble_eq_true rfl) ⟨Nat.le_of_ble_eq_true rfl, Nat.le_of_ble_eq_true rfl⟩ hcs dl_418 (fun H locs hp => ?_)
  refine lv_aload_n C.1 C.2.1 dl_421 rfl (lv_at hl 3 rfl) ?_
  refine lv_aload_n C.1 C.2.1 dl_422 rfl (lv_at hl 1 rfl) ?_
  refine lv_iload_n C.1 C.2.1 dl_423 rfl (lv_at hl 0 rfl) ?_
  refine rl_iconst C dl_424 ?_
  refine rl_iadd C dl_425 ?_
  refine rl_sld C hp (i := i) (k := 1) rfl (by omega) dl_426 ?_
  refine rl_callmI (As := [.int (gI (xs (i + 1)).toInt)]) (rest := [.int (gI r)]) C hl.1 hp (c_X9_end l C.2.2.2.2.2.2.2.2.2.2.2.2.1 hcm) gw_1415 gw_1416 gw_1417 ms_0 mc_0 cal_X9_end rfl rfl (Nat.le_of_ble_eq_true rfl) ⟨Nat.le_of_ble_eq_true rfl, Nat.le_of_ble_eq_true rfl⟩ hcs dl_427 (fun H locs hp => ?_)
  refine rl_icmp_eq (tgt := 1590) C heq dl_430 (by decide) ?_
  exact kk Mx' Mm' H locs hp hrel
set_option maxRecDepth 100000 in
set_option maxHeartbeats 4000000 in
theorem l_case_5 (C : l_CX Vx Vm p s m meth c b L xs) (hcs : cells ≤ 600000 ∧ slots ≤ 7302250) {Rel : Nat → g_M → g_M → Prop} (hst : x_step_5 Rel) {i n : Nat} (hi : i + 6 ≤ L) (hn : n < 512) (hr : Rel n Mx Mm) (hp : l_PT Vx Vm Mx Mm s H locs) (hl : lv_has ls 4 [(3, .int (gI (i : Int))), (0, .ref b), (1, .ref (Vx.2.2 0)), (2, .ref (Vm.2.2 0))]) (kk : ∀ (Mx' Mm' : g_M) (H : Heap) (locs : List Loc), l_PT Vx Vm Mx' Mm' s H locs → Rel (n + 1) Mx' Mm' → W p l e room_1 s m #[Value.ref b] below meth c H locs cells slots Q (F0 m 1590 ls [])) : W p l e room_1 s m #[Value.ref b] below meth c H locs cells slots Q (F0 m 435 ls []) := by
  obtain ⟨r, r', Mx', Mm', hcx, hcm, heq, hrel⟩ := hst n Mx Mm hr hn
  refine lv_aload_n C.1 C.2.1 dl_435 rfl (lv_at hl 2 rfl) ?_
  refine rl_callxI (As := []) (rest := []) C hl.1 hp (c_X8_text l C.2.2.2.2.2.2.2.2.2.2.2.1 hcx) gw_507 gw_508 gw_509 xs_0 xc_8 cal_X8_text rfl rfl (Nat.le_of_ble_eq_true rfl) ⟨Nat.le_of_ble_eq_true rfl, Nat.le_of_ble_eq_true rfl⟩ hcs dl_436 (fun H locs hp => ?_)
  refine lv_aload_n C.1 C.2.1 dl_439 rfl (lv_at hl 3 rfl) ?_
  refine rl_callmI (As := []) (rest := [.int (gI r)]) C hl.1 hp (c_X9_text l C.2.2.2.2.2.2.2.2.2.2.2.2.1 hcm) gw_1419 gw_1420 gw_1421 ms_0 mc_0 cal_X9_text rfl rfl (Nat.le_of_ble_eq_true rfl) ⟨Nat.le_of_ble_eq_true rfl, Nat.le_of_ble_eq_true rfl⟩ hcs dl_440 (fun H locs hp => ?_)
  refine rl_icmp_eq (tgt := 1590) C heq dl_443 (by decide) ?_
  exact kk Mx' Mm' H locs hp hrel
set_option maxRecDepth 100000 in
set_option maxHeartbeats 4000000 in
theorem l_case_6 (C : l_CX Vx Vm p s m meth c b L xs) (hcs : cells ≤ 600000 ∧ slots ≤ 7302250) {Rel : Nat → g_M → g_M → Prop} (hst : x_step_6 Rel) {i n : Nat} (hi : i + 6 ≤ L) (hn : n < 512) (hr : Rel n Mx Mm) (hp : l_PT Vx Vm Mx Mm s H locs) (hl : lv_has ls 4 [(3, .int (gI (i : Int))), (0, .ref b), (1, .ref (Vx.2.2 0)), (2, .ref (Vm.2.2 0))]) (kk : ∀ (Mx' Mm' : g_M) (H : Heap) (locs : List Loc), l_PT Vx Vm Mx' Mm' s H locs → Rel (n + 1) Mx' Mm' → W p l e room_1 s m #[Value.ref b] below meth c H locs cells slots Q (F0 m 1590 ls [])) : W p l e room_1 s m #[Value.ref b] below meth c H locs cells slots Q (F0 m 448 ls []) := by
  obtain ⟨r, r', Mx', Mm', hcx, hcm, heq, hrel⟩ := hst n Mx Mm hr hn (xs (i + 1)).toInt (g_rng _)
  rw [hcx.2] at hrel
  rw [hcm.2] at hrel
  refine lv_aload_n C.1 C.2.1 dl_448 rfl (lv_at hl 2 rfl) ?_
  refine lv_aload_n C.1 C.2.1 dl_449 rfl (lv_at hl 1 rfl) ?_
  refine lv_iload_n C.1 C.2.1 dl_450 rfl (lv_at hl 0 rfl) ?_
  refine rl_iconst C dl_451 ?_
  refine rl_iadd C dl_452 ?_
  refine rl_sld C hp (i := i) (k := 1) rfl (by omega) dl_453 ?_
  refine rl_callxI (As := [.int (gI (xs (i + 1)).toInt)]) (rest := []) C hl.1 hp (c_X8_fault l C.2.2.2.2.2.2.2.2.2.2.2.1 hcx.1) gw_748 gw_749 gw_750 xs_0 xc_8 cal_X8_fault rfl rfl (Nat.le_of_ble_eq_true rfl) ⟨Nat.le_of_ble_eq_true rfl, Nat.le_of_ble_eq_true rfl⟩ hcs dl_454 (fun H locs hp => ?_)
  refine lv_aload_n C.1 C.2.1 dl_457 rfl (lv_at hl 3 rfl) ?_
  refine lv_aload_n C.1 C.2.1 dl_458 rfl (lv_at hl 1 rfl) ?_
  refine lv_iload_n C.1 C.2.1 dl_459 rfl (lv_at hl 0 rfl) ?_
  refine rl_iconst C dl_460 ?_
  refine rl_iadd C dl_461 ?_
  refine rl_sld C hp (i := i) (k := 1) rfl (by omega) dl_462 ?_
  refine rl_callmI (As := [.int (gI (xs (i + 1)).toInt)]) (rest := [.int (gI r)]) C hl.1 hp (c_X9_fault l C.2.2.2.2.2.2.2.2.2.2.2.2.1 hcm.1) gw_1567 gw_1568 gw_1569 ms_0 mc_0 cal_X9_fault rfl rfl (Nat.le_of_ble_eq_true rfl) ⟨Nat.le_of_ble_eq_true rfl, Nat.le_of_ble_eq_true rfl⟩ hcs dl_463 (fun H locs hp => ?_)
  refine rl_icmp_eq (tgt := 1590) C heq dl_466 (by decide) ?_
  exact kk Mx Mm H locs hp hrel
set_option maxRecDepth 100000 in
set_option maxHeartbeats 4000000 in
theorem l_case_7 (C : l_CX Vx Vm p s m meth c b L xs) (hcs : cells ≤ 600000 ∧ slots ≤ 7302250) {Rel : Nat → g_M → g_M → Prop} (hst : x_step_7 Rel) {i n : Nat} (hi : i + 6 ≤ L) (hn : n < 512) (hr : Rel n Mx Mm) (hp : l_PT Vx Vm Mx Mm s H locs) (hl : lv_has ls 4 [(3, .int (gI (i : Int))), (0, .ref b), (1, .ref (Vx.2.2 0)), (2, .ref (Vm.2.2 0))]) (kk : ∀ (Mx' Mm' : g_M) (H : Heap) (locs : List Loc), l_PT Vx Vm Mx' Mm' s H locs → Rel (n + 1) Mx' Mm' → W p l e room_1 s m #[Value.ref b] below meth c H locs cells slots Q (F0 m 1590 ls [])) : W p l e room_1 s m #[Value.ref b] below meth c H locs cells slots Q (F0 m 471 ls []) := by
  obtain ⟨r, r', Mx', Mm', hcx, hcm, heq, hrel⟩ := hst n Mx Mm hr hn (xs (i + 1)).toInt (g_rng _)
  refine lv_aload_n C.1 C.2.1 dl_471 rfl (lv_at hl 2 rfl) ?_
  refine lv_aload_n C.1 C.2.1 dl_472 rfl (lv_at hl 1 rfl) ?_
  refine lv_iload_n C.1 C.2.1 dl_473 rfl (lv_at hl 0 rfl) ?_
  refine rl_iconst C dl_474 ?_
  refine rl_iadd C dl_475 ?_
  refine rl_sld C hp (i := i) (k := 1) rfl (by omega) dl_476 ?_
  refine rl_callxI (As := [.int (gI (xs (i + 1)).toInt)]) (rest := []) C hl.1 hp (c_X8_by l C.2.2.2.2.2.2.2.2.2.2.2.1 hcx) gw_752 gw_753 gw_754 xs_0 xc_8 cal_X8_by rfl rfl (Nat.le_of_ble_eq_true rfl) ⟨Nat.le_of_ble_eq_true rfl, Nat.le_of_ble_eq_true rfl⟩ hcs dl_477 (fun H locs hp => ?_)
  refine lv_aload_n C.1 C.2.1 dl_480 rfl (lv_at hl 3 rfl) ?_
  refine lv_aload_n C.1 C.2.1 dl_481 rfl (lv_at hl 1 rfl) ?_
  refine lv_iload_n C.1 C.2.1 dl_482 rfl (lv_at hl 0 rfl) ?_
  refine rl_iconst C dl_483 ?_
  refine rl_iadd C dl_484 ?_
  refine rl_sld C hp (i := i) (k := 1) rfl (by omega) dl_485 ?_
  refine rl_callmI (As := [.int (gI (xs (i + 1)).toInt)]) (rest := [.int (gI r)]) C hl.1 hp (c_X9_by l C.2.2.2.2.2.2.2.2.2.2.2.2.1 hcm) gw_1571 gw_1572 gw_1573 ms_0 mc_0 cal_X9_by rfl rfl (Nat.le_of_ble_eq_true rfl) ⟨Nat.le_of_ble_eq_true rfl, Nat.le_of_ble_eq_true rfl⟩ hcs dl_486 (fun H locs hp => ?_)
  refine rl_icmp_eq (tgt := 1590) C heq dl_489 (by decide) ?_
  exact kk Mx' Mm' H locs hp hrel
set_option maxRecDepth 100000 in
set_option maxHeartbeats 4000000 in
theorem l_case_8 (C : l_CX Vx Vm p s m meth c b L xs) (hcs : cells ≤ 600000 ∧ slots ≤ 7302250) {Rel : Nat → g_M → g_M → Prop} (hst : x_step_8 Rel) {i n : Nat} (hi : i + 6 ≤ L) (hn : n < 512) (hr : Rel n Mx Mm) (hp : l_PT Vx Vm Mx Mm s H locs) (hl : lv_has ls 4 [(3, .int (gI (i : Int))), (0, .ref b), (1, .ref (Vx.2.2 0)), (2, .ref (Vm.2.2 0))]) (kk : ∀ (Mx' Mm' : g_M) (H : Heap) (locs : List Loc), l_PT Vx Vm Mx' Mm' s H locs → Rel (n + 1) Mx' Mm' → W p l e room_1 s m #[Value.ref b] below meth c H locs cells slots Q (F0 m 1590 ls [])) : W p l e room_1 s m #[Value.ref b] below meth c H locs cells slots Q (F0 m 494 ls []) := by
  obtain ⟨r, r', Mx', Mm', hcx, hcm, heq, hrel⟩ := hst n Mx Mm hr hn (xs (i + 1)).toInt (xs (i + 2)).toInt (g_rng _) (g_rng _)
  refine lv_aload_n C.1 C.2.1 dl_494 rfl (lv_at hl 2 rfl) ?_
  refine lv_aload_n C.1 C.2.1 dl_495 rfl (lv_at hl 1 rfl) ?_
  refine lv_iload_n C.1 C.2.1 dl_496 rfl (lv_at hl 0 rfl) ?_
  refine rl_iconst C dl_497 ?_
  refine rl_iadd C dl_498 ?_
  refine rl_sld C hp (i := i) (k := 1) rfl (by omega) dl_499 ?_
  refine lv_aload_n C.1 C.2.1 dl_500 rfl (lv_at hl 1 rfl) ?_
  refine lv_iload_n C.1 C.2.1 dl_501 rfl (lv_at hl 0 rfl) ?_
  refine rl_iconst C dl_502 ?_
  refine rl_iadd C dl_503 ?_
  refine rl_sld C hp (i := i) (k := 2) rfl (by omega) dl_504 ?_
  refine rl_callxI (As := [.int (gI (xs (i + 1)).toInt), .int (gI (xs (i + 2)).toInt)]) (rest := []) C hl.1 hp (c_X8_seat l C.2.2.2.2.2.2.2.2.2.2.2.1 hcx) gw_760 gw_761 gw_762 xs_0 xc_8 cal_X8_seat rfl rfl (Nat.le_of_ble_eq_true rfl) ⟨Nat.le_of_ble_eq_true rfl, Nat.le_of_ble_eq_true rfl⟩ hcs dl_505 (fun H locs hp => ?_)
  refine lv_aload_n C.1 C.2.1 dl_508 rfl (lv_at hl 3 rfl) ?_
  refine lv_aload_n C.1 C.2.1 dl_509 rfl (lv_at hl 1 rfl) ?_
  refine lv_iload_n C.1 C.2.1 dl_510 rfl (lv_at hl 0 rfl) ?_
  refine rl_iconst C dl_511 ?_
  refine rl_iadd C dl_512 ?_
  refine rl_sld C hp (i := i) (k := 1) rfl (by omega) dl_513 ?_
  refine lv_aload_n C.1 C.2.1 dl_514 rfl (lv_at hl 1 rfl) ?_
  refine lv_iload_n C.1 C.2.1 dl_515 rfl (lv_at hl 0 rfl) ?_
  refine rl_iconst C dl_516 ?_
  refine rl_iadd C dl_517 ?_
  refine rl_sld C hp (i := i) (k := 2) rfl (by omega) dl_518 ?_
  refine rl_callmI (As := [.int (gI (xs (i + 1)).toInt), .int (gI (xs (i + 2)).toInt)]) (rest := [.int (gI r)]) C hl.1 hp (c_X9_seat l C.2.2.2.2.2.2.2.2.2.2.2.2.1 hcm) gw_1579 gw_1580 gw_1581 ms_0 mc_0 cal_X9_seat rfl rfl (Nat.le_of_ble_eq_true rfl) ⟨Nat.le_of_ble_eq_true rfl, Nat.le_of_ble_eq_true rfl⟩ hcs dl_519 (fun H locs hp => ?_)
  refine rl_icmp_eq (tgt := 1590) C heq dl_522 (by decide) ?_
  exact kk Mx' Mm' H locs hp hrel
set_option maxRecDepth 100000 in
set_option maxHeartbeats 4000000 in
theorem l_case_9 (C : l_CX Vx Vm p s m meth c b L xs) (hcs : cells ≤ 600000 ∧ slots ≤ 7302250) {Rel : Nat → g_M → g_M → Prop} (hst : x_step_9 Rel) {i n : Nat} (hi : i + 6 ≤ L) (hn : n < 512) (hr : Rel n Mx Mm) (hp : l_PT Vx Vm Mx Mm s H locs) (hl : lv_has ls 4 [(3, .int (gI (i : Int))), (0, .ref b), (1, .ref (Vx.2.2 0)), (2, .ref (Vm.2.2 0))]) (kk : ∀ (Mx' Mm' : g_M) (H : Heap) (locs : List Loc), l_PT Vx Vm Mx' Mm' s H locs → Rel (n + 1) Mx' Mm' → W p l e room_1 s m #[Value.ref b] below meth c H locs cells slots Q (F0 m 1590 ls [])) : W p l e room_1 s m #[Value.ref b] below meth c H locs cells slots Q (F0 m 527 ls []) := by
  obtain ⟨r, r', Mx', Mm', hcx, hcm, heq, hrel⟩ := hst n Mx Mm hr hn (xs (i + 1)).toInt (xs (i + 2)).toInt (g_rng _) (g_rng _)
  refine lv_aload_n C.1 C.2.1 dl_527 rfl (lv_at hl 2 rfl) ?_
  refine lv_aload_n C.1 C.2.1 dl_528 rfl (lv_at hl 1 rfl) ?_
  refine lv_iload_n C.1 C.2.1 dl_529 rfl (lv_at hl 0 rfl) ?_
  refine rl_iconst C dl_530 ?_
  refine rl_iadd C dl_531 ?_
  refine rl_sld C hp (i := i) (k := 1) rfl (by omega) dl_532 ?_
  refine lv_aload_n C.1 C.2.1 dl_533 rfl (lv_at hl 1 rfl) ?_
  refine lv_iload_n C.1 C.2.1 dl_534 rfl (lv_at hl 0 rfl) ?_
  refine rl_iconst C dl_535 ?_
  refine rl_iadd C dl_536 ?_
  refine rl_sld C hp (i := i) (k := 2) rfl (by omega) dl_537 ?_
  refine rl_callxI (As := [.int (gI (xs (i + 1)).toInt), .int (gI (xs (i + 2)).toInt)]) (rest := []) C hl.1 hp (c_X8_call l C.2.2.2.2.2.2.2.2.2.2.2.1 hcx) gw_781 gw_782 gw_783 xs_0 xc_8 cal_X8_call rfl rfl (Nat.le_of_ble_eq_true rfl) ⟨Nat.le_of_ble_eq_true rfl, Nat.le_of_ble_eq_true rfl⟩ hcs dl_538 (fun H locs hp => ?_)
  refine lv_aload_n C.1 C.2.1 dl_541 rfl (lv_at hl 3 rfl) ?_
  refine lv_aload_n C.1 C.2.1 dl_542 rfl (lv_at hl 1 rfl) ?_
  refine lv_iload_n C.1 C.2.1 dl_543 rfl (lv_at hl 0 rfl) ?_
  refine rl_iconst C dl_544 ?_
  refine rl_iadd C dl_545 ?_
  refine rl_sld C hp (i := i) (k := 1) rfl (by omega) dl_546 ?_
  refine lv_aload_n C.1 C.2.1 dl_547 rfl (lv_at hl 1 rfl) ?_
  refine lv_iload_n C.1 C.2.1 dl_548 rfl (lv_at hl 0 rfl) ?_
  refine rl_iconst C dl_549 ?_
  refine rl_iadd C dl_550 ?_
  refine rl_sld C hp (i := i) (k := 2) rfl (by omega) dl_551 ?_
  refine rl_callmI (As := [.int (gI (xs (i + 1)).toInt), .int (gI (xs (i + 2)).toInt)]) (rest := [.int (gI r)]) C hl.1 hp (c_X9_call l C.2.2.2.2.2.2.2.2.2.2.2.2.1 hcm) gw_1595 gw_1596 gw_1597 ms_0 mc_0 cal_X9_call rfl rfl (Nat.le_of_ble_eq_true rfl) ⟨Nat.le_of_ble_eq_true rfl, Nat.le_of_ble_eq_true rfl⟩ hcs dl_552 (fun H locs hp => ?_)
  refine rl_icmp_eq (tgt := 1590) C heq dl_555 (by decide) ?_
  exact kk Mx' Mm' H locs hp hrel
set_option maxRecDepth 100000 in
set_option maxHeartbeats 4000000 in
theorem l_case_10 (C : l_CX Vx Vm p s m meth c b L xs) (hcs : cells ≤ 600000 ∧ slots ≤ 7302250) {Rel : Nat → g_M → g_M → Prop} (hst : x_step_10 Rel) {i n : Nat} (hi : i + 6 ≤ L) (hn : n < 512) (hr : Rel n Mx Mm) (hp : l_PT Vx Vm Mx Mm s H locs) (hl : lv_has ls 4 [(3, .int (gI (i : Int))), (0, .ref b), (1, .ref (Vx.2.2 0)), (2, .ref (Vm.2.2 0))]) (kk : ∀ (Mx' Mm' : g_M) (H : Heap) (locs : List Loc), l_PT Vx Vm Mx' Mm' s H locs → Rel (n + 1) Mx' Mm' → W p l e room_1 s m #[Value.ref b] below meth c H locs cells slots Q (F0 m 1590 ls [])) : W p l e room_1 s m #[Value.ref b] below meth c H locs cells slots Q (F0 m 560 ls []) := by
  obtain ⟨r, r', Mx', Mm', hcx, hcm, heq, hrel⟩ := hst n Mx Mm hr hn (xs (i + 1)).toInt (g_rng _)
  refine lv_aload_n C.1 C.2.1 dl_560 rfl (lv_at hl 2 rfl) ?_
  refine lv_aload_n C.1 C.2.1 dl_561 rfl (lv_at hl 1 rfl) ?_
  refine lv_iload_n C.1 C.2.1 dl_562 rfl (lv_at hl 0 rfl) ?_
  refine rl_iconst C dl_563 ?_
  refine rl_iadd C dl_564 ?_
  refine rl_sld C hp (i := i) (k := 1) rfl (by omega) dl_565 ?_
  refine rl_callxI (As := [.int (gI (xs (i + 1)).toInt)]) (rest := []) C hl.1 hp (c_X8_mend l C.2.2.2.2.2.2.2.2.2.2.2.1 hcx) gw_799 gw_800 gw_801 xs_0 xc_8 cal_X8_mend rfl rfl (Nat.le_of_ble_eq_true rfl) ⟨Nat.le_of_ble_eq_true rfl, Nat.le_of_ble_eq_true rfl⟩ hcs dl_566 (fun H locs hp => ?_)
  refine lv_aload_n C.1 C.2.1 dl_569 rfl (lv_at hl 3 rfl) ?_
  refine lv_aload_n C.1 C.2.1 dl_570 rfl (lv_at hl 1 rfl) ?_
  refine lv_iload_n C.1 C.2.1 dl_571 rfl (lv_at hl 0 rfl) ?_
  refine rl_iconst C dl_572 ?_
  refine rl_iadd C dl_573 ?_
  refine rl_sld C hp (i := i) (k := 1) rfl (by omega) dl_574 ?_
  refine rl_callmI (As := [.int (gI (xs (i + 1)).toInt)]) (rest := [.int (gI r)]) C hl.1 hp (c_X9_mend l C.2.2.2.2.2.2.2.2.2.2.2.2.1 hcm) gw_1607 gw_1608 gw_1609 ms_0 mc_0 cal_X9_mend rfl rfl (Nat.le_of_ble_eq_true rfl) ⟨Nat.le_of_ble_eq_true rfl, Nat.le_of_ble_eq_true rfl⟩ hcs dl_575 (fun H locs hp => ?_)
  refine rl_icmp_eq (tgt := 1590) C heq dl_578 (by decide) ?_
  exact kk Mx' Mm' H locs hp hrel
set_option maxRecDepth 100000 in
set_option maxHeartbeats 4000000 in
theorem l_case_11 (C : l_CX Vx Vm p s m meth c b L xs) (hcs : cells ≤ 600000 ∧ slots ≤ 7302250) {Rel : Nat → g_M → g_M → Prop} (hst : x_step_11 Rel) {i n : Nat} (hi : i + 6 ≤ L) (hn : n < 512) (hr : Rel n Mx Mm) (hp : l_PT Vx Vm Mx Mm s H locs) (hl : lv_has ls 4 [(3, .int (gI (i : Int))), (0, .ref b), (1, .ref (Vx.2.2 0)), (2, .ref (Vm.2.2 0))]) (kk : ∀ (Mx' Mm' : g_M) (H : Heap) (locs : List Loc), l_PT Vx Vm Mx' Mm' s H locs → Rel (n + 1) Mx' Mm' → W p l e room_1 s m #[Value.ref b] below meth c H locs cells slots Q (F0 m 1590 ls [])) : W p l e room_1 s m #[Value.ref b] below meth c H locs cells slots Q (F0 m 583 ls []) := by
  obtain ⟨r, r', Mx', Mm', hcx, hcm, heq, hrel⟩ := hst n Mx Mm hr hn (xs (i + 1)).toInt (g_rng _)
  refine lv_aload_n C.1 C.2.1 dl_583 rfl (lv_at hl 2 rfl) ?_
  refine lv_aload_n C.1 C.2.1 dl_584 rfl (lv_at hl 1 rfl) ?_
  refine lv_iload_n C.1 C.2.1 dl_585 rfl (lv_at hl 0 rfl) ?_
  refine rl_iconst C dl_586 ?_
  refine rl_iadd C dl_587 ?_
  refine rl_sld C hp (i := i) (k := 1) rfl (by omega) dl_588 ?_
  refine rl_callxI (As := [.int (gI (xs (i + 1)).toInt)]) (rest := []) C hl.1 hp (c_X8_evening l C.2.2.2.2.2.2.2.2.2.2.2.1 hcx) gw_811 gw_812 gw_813 xs_0 xc_8 cal_X8_evening rfl rfl (Nat.le_of_ble_eq_true rfl) ⟨Nat.le_of_ble_eq_true rfl, Nat.le_of_ble_eq_true rfl⟩ hcs dl_589 (fun H locs hp => ?_)
  refine lv_aload_n C.1 C.2.1 dl_592 rfl (lv_at hl 3 rfl) ?_
  refine lv_aload_n C.1 C.2.1 dl_593 rfl (lv_at hl 1 rfl) ?_
  refine lv_iload_n C.1 C.2.1 dl_594 rfl (lv_at hl 0 rfl) ?_
  refine rl_iconst C dl_595 ?_
  refine rl_iadd C dl_596 ?_
  refine rl_sld C hp (i := i) (k := 1) rfl (by omega) dl_597 ?_
  refine rl_callmI (As := [.int (gI (xs (i + 1)).toInt)]) (rest := [.int (gI r)]) C hl.1 hp (c_X9_evening l C.2.2.2.2.2.2.2.2.2.2.2.2.1 hcm) gw_1615 gw_1616 gw_1617 ms_0 mc_0 cal_X9_evening rfl rfl (Nat.le_of_ble_eq_true rfl) ⟨Nat.le_of_ble_eq_true rfl, Nat.le_of_ble_eq_true rfl⟩ hcs dl_598 (fun H locs hp => ?_)
  refine rl_icmp_eq (tgt := 1590) C heq dl_601 (by decide) ?_
  exact kk Mx' Mm' H locs hp hrel
set_option maxRecDepth 100000 in
set_option maxHeartbeats 4000000 in
theorem l_case_12 (C : l_CX Vx Vm p s m meth c b L xs) (hcs : cells ≤ 600000 ∧ slots ≤ 7302250) {Rel : Nat → g_M → g_M → Prop} (hst : x_step_12 Rel) {i n : Nat} (hi : i + 6 ≤ L) (hn : n < 512) (hr : Rel n Mx Mm) (hp : l_PT Vx Vm Mx Mm s H locs) (hl : lv_has ls 4 [(3, .int (gI (i : Int))), (0, .ref b), (1, .ref (Vx.2.2 0)), (2, .ref (Vm.2.2 0))]) (kk : ∀ (Mx' Mm' : g_M) (H : Heap) (locs : List Loc), l_PT Vx Vm Mx' Mm' s H locs → Rel (n + 1) Mx' Mm' → W p l e room_1 s m #[Value.ref b] below meth c H locs cells slots Q (F0 m 1590 ls [])) : W p l e room_1 s m #[Value.ref b] below meth c H locs cells slots Q (F0 m 606 ls []) := by
  obtain ⟨r, r', Mx', Mm', hcx, hcm, heq, hrel⟩ := hst n Mx Mm hr hn (xs (i + 1)).toInt (g_rng _)
  refine lv_aload_n C.1 C.2.1 dl_606 rfl (lv_at hl 2 rfl) ?_
  refine lv_aload_n C.1 C.2.1 dl_607 rfl (lv_at hl 1 rfl) ?_
  refine lv_iload_n C.1 C.2.1 dl_608 rfl (lv_at hl 0 rfl) ?_
  refine rl_iconst C dl_609 ?_
  refine rl_iadd C dl_610 ?_
  refine rl_sld C hp (i := i) (k := 1) rfl (by omega) dl_611 ?_
  refine rl_callxI (As := [.int (gI (xs (i + 1)).toInt)]) (rest := []) C hl.1 hp (c_X8_played l C.2.2.2.2.2.2.2.2.2.2.2.1 hcx) gw_906 gw_907 gw_908 xs_0 xc_8 cal_X8_played rfl rfl (Nat.le_of_ble_eq_true rfl) ⟨Nat.le_of_ble_eq_true rfl, Nat.le_of_ble_eq_true rfl⟩ hcs dl_612 (fun H locs hp => ?_)
  refine lv_aload_n C.1 C.2.1 dl_615 rfl (lv_at hl 3 rfl) ?_
  refine lv_aload_n C.1 C.2.1 dl_616 rfl (lv_at hl 1 rfl) ?_
  refine lv_iload_n C.1 C.2.1 dl_617 rfl (lv_at hl 0 rfl) ?_
  refine rl_iconst C dl_618 ?_
  refine rl_iadd C dl_619 ?_
  refine rl_sld C hp (i := i) (k := 1) rfl (by omega) dl_620 ?_
  refine rl_callmI (As := [.int (gI (xs (i + 1)).toInt)]) (rest := [.int (gI r)]) C hl.1 hp (c_X9_played l C.2.2.2.2.2.2.2.2.2.2.2.2.1 hcm) gw_1703 gw_1704 gw_1705 ms_0 mc_0 cal_X9_played rfl rfl (Nat.le_of_ble_eq_true rfl) ⟨Nat.le_of_ble_eq_true rfl, Nat.le_of_ble_eq_true rfl⟩ hcs dl_621 (fun H locs hp => ?_)
  refine rl_icmp_eq (tgt := 1590) C heq dl_624 (by decide) ?_
  exact kk Mx' Mm' H locs hp hrel
set_option maxRecDepth 100000 in
set_option maxHeartbeats 4000000 in
theorem l_case_13 (C : l_CX Vx Vm p s m meth c b L xs) (hcs : cells ≤ 600000 ∧ slots ≤ 7302250) {Rel : Nat → g_M → g_M → Prop} (hst : x_step_13 Rel) {i n : Nat} (hi : i + 6 ≤ L) (hn : n < 512) (hr : Rel n Mx Mm) (hp : l_PT Vx Vm Mx Mm s H locs) (hl : lv_has ls 4 [(3, .int (gI (i : Int))), (0, .ref b), (1, .ref (Vx.2.2 0)), (2, .ref (Vm.2.2 0))]) (kk : ∀ (Mx' Mm' : g_M) (H : Heap) (locs : List Loc), l_PT Vx Vm Mx' Mm' s H locs → Rel (n + 1) Mx' Mm' → W p l e room_1 s m #[Value.ref b] below meth c H locs cells slots Q (F0 m 1590 ls [])) : W p l e room_1 s m #[Value.ref b] below meth c H locs cells slots Q (F0 m 629 ls []) := by
  obtain ⟨r, r', Mx', Mm', hcx, hcm, heq, hrel⟩ := hst n Mx Mm hr hn (xs (i + 1)).toInt (xs (i + 2)).toInt (g_rng _) (g_rng _)
  refine lv_aload_n C.1 C.2.1 dl_629 rfl (lv_at hl 2 rfl) ?_
  refine lv_aload_n C.1 C.2.1 dl_630 rfl (lv_at hl 1 rfl) ?_
  refine lv_iload_n C.1 C.2.1 dl_631 rfl (lv_at hl 0 rfl) ?_
  refine rl_iconst C dl_632 ?_
  refine rl_iadd C dl_633 ?_
  refine rl_sld C hp (i := i) (k := 1) rfl (by omega) dl_634 ?_
  refine lv_aload_n C.1 C.2.1 dl_635 rfl (lv_at hl 1 rfl) ?_
  refine lv_iload_n C.1 C.2.1 dl_636 rfl (lv_at hl 0 rfl) ?_
  refine rl_iconst C dl_637 ?_
  refine rl_iadd C dl_638 ?_
  refine rl_sld C hp (i := i) (k := 2) rfl (by omega) dl_639 ?_
  refine rl_callxI (As := [.int (gI (xs (i + 1)).toInt), .int (gI (xs (i + 2)).toInt)]) (rest := []) C hl.1 hp (c_X8_years l C.2.2.2.2.2.2.2.2.2.2.2.1 hcx) gw_929 gw_930 gw_931 xs_0 xc_8 cal_X8_years rfl rfl (Nat.le_of_ble_eq_true rfl) ⟨Nat.le_of_ble_eq_true rfl, Nat.le_of_ble_eq_true rfl⟩ hcs dl_640 (fun H locs hp => ?_)
  refine lv_aload_n C.1 C.2.1 dl_643 rfl (lv_at hl 3 rfl) ?_
  refine lv_aload_n C.1 C.2.1 dl_644 rfl (lv_at hl 1 rfl) ?_
  refine lv_iload_n C.1 C.2.1 dl_645 rfl (lv_at hl 0 rfl) ?_
  refine rl_iconst C dl_646 ?_
  refine rl_iadd C dl_647 ?_
  refine rl_sld C hp (i := i) (k := 1) rfl (by omega) dl_648 ?_
  refine lv_aload_n C.1 C.2.1 dl_649 rfl (lv_at hl 1 rfl) ?_
  refine lv_iload_n C.1 C.2.1 dl_650 rfl (lv_at hl 0 rfl) ?_
  refine rl_iconst C dl_651 ?_
  refine rl_iadd C dl_652 ?_
  refine rl_sld C hp (i := i) (k := 2) rfl (by omega) dl_653 ?_
  refine rl_callmI (As := [.int (gI (xs (i + 1)).toInt), .int (gI (xs (i + 2)).toInt)]) (rest := [.int (gI r)]) C hl.1 hp (c_X9_years l C.2.2.2.2.2.2.2.2.2.2.2.2.1 hcm) gw_1717 gw_1718 gw_1719 ms_0 mc_0 cal_X9_years rfl rfl (Nat.le_of_ble_eq_true rfl) ⟨Nat.le_of_ble_eq_true rfl, Nat.le_of_ble_eq_true rfl⟩ hcs dl_654 (fun H locs hp => ?_)
  refine rl_icmp_eq (tgt := 1590) C heq dl_657 (by decide) ?_
  exact kk Mx' Mm' H locs hp hrel
set_option maxRecDepth 100000 in
set_option maxHeartbeats 4000000 in
theorem l_case_14 (C : l_CX Vx Vm p s m meth c b L xs) (hcs : cells ≤ 600000 ∧ slots ≤ 7302250) {Rel : Nat → g_M → g_M → Prop} (hst : x_step_14 Rel) {i n : Nat} (hi : i + 6 ≤ L) (hn : n < 512) (hr : Rel n Mx Mm) (hp : l_PT Vx Vm Mx Mm s H locs) (hl : lv_has ls 4 [(3, .int (gI (i : Int))), (0, .ref b), (1, .ref (Vx.2.2 0)), (2, .ref (Vm.2.2 0))]) (kk : ∀ (Mx' Mm' : g_M) (H : Heap) (locs : List Loc), l_PT Vx Vm Mx' Mm' s H locs → Rel (n + 1) Mx' Mm' → W p l e room_1 s m #[Value.ref b] below meth c H locs cells slots Q (F0 m 1590 ls [])) : W p l e room_1 s m #[Value.ref b] below meth c H locs cells slots Q (F0 m 662 ls []) := by
  obtain ⟨r, r', Mx', Mm', hcx, hcm, heq, hrel⟩ := hst n Mx Mm hr hn
  refine lv_aload_n C.1 C.2.1 dl_662 rfl (lv_at hl 2 rfl) ?_
  refine rl_callxI (As := []) (rest := []) C hl.1 hp (c_X8_undo l C.2.2.2.2.2.2.2.2.2.2.2.1 hcx) gw_941 gw_942 gw_943 xs_0 xc_8 cal_X8_undo rfl rfl (Nat.le_of_ble_eq_true rfl) ⟨Nat.le_of_ble_eq_true rfl, Nat.le_of_ble_eq_true rfl⟩ hcs dl_663 (fun H locs hp => ?_)
  refine lv_aload_n C.1 C.2.1 dl_666 rfl (lv_at hl 3 rfl) ?_
  refine rl_callmI (As := []) (rest := [.int (gI r)]) C hl.1 hp (c_X9_undo l C.2.2.2.2.2.2.2.2.2.2.2.2.1 hcm) gw_1575 gw_1576 gw_1577 ms_0 mc_0 cal_X9_undo rfl rfl (Nat.le_of_ble_eq_true rfl) ⟨Nat.le_of_ble_eq_true rfl, Nat.le_of_ble_eq_true rfl⟩ hcs dl_667 (fun H locs hp => ?_)
  refine rl_icmp_eq (tgt := 1590) C heq dl_670 (by decide) ?_
  exact kk Mx' Mm' H locs hp hrel
set_option maxRecDepth 100000 in
set_option maxHeartbeats 4000000 in
theorem l_case_15 (C : l_CX Vx Vm p s m meth c b L xs) (hcs : cells ≤ 600000 ∧ slots ≤ 7302250) {Rel : Nat → g_M → g_M → Prop} (hst : x_step_15 Rel) {i n : Nat} (hi : i + 6 ≤ L) (hn : n < 512) (hr : Rel n Mx Mm) (hp : l_PT Vx Vm Mx Mm s H locs) (hl : lv_has ls 4 [(3, .int (gI (i : Int))), (0, .ref b), (1, .ref (Vx.2.2 0)), (2, .ref (Vm.2.2 0))]) (kk : ∀ (Mx' Mm' : g_M) (H : Heap) (locs : List Loc), l_PT Vx Vm Mx' Mm' s H locs → Rel (n + 1) Mx' Mm' → W p l e room_1 s m #[Value.ref b] below meth c H locs cells slots Q (F0 m 1590 ls [])) : W p l e room_1 s m #[Value.ref b] below meth c H locs cells slots Q (F0 m 675 ls []) := by
  obtain ⟨r, r', Mx', Mm', hcx, hcm, heq, hrel⟩ := hst n Mx Mm hr hn (xs (i + 1)).toInt (xs (i + 2)).toInt (g_rng _) (g_rng _)
  refine lv_aload_n C.1 C.2.1 dl_675 rfl (lv_at hl 2 rfl) ?_
  refine lv_aload_n C.1 C.2.1 dl_676 rfl (lv_at hl 1 rfl) ?_
  refine lv_iload_n C.1 C.2.1 dl_677 rfl (lv_at hl 0 rfl) ?_
  refine rl_iconst C dl_678 ?_
  refine rl_iadd C dl_679 ?_
  refine rl_sld C hp (i := i) (k := 1) rfl (by omega) dl_680 ?_
  refine lv_aload_n C.1 C.2.1 dl_681 rfl (lv_at hl 1 rfl) ?_
  refine lv_iload_n C.1 C.2.1 dl_682 rfl (lv_at hl 0 rfl) ?_
  refine rl_iconst C dl_683 ?_
  refine rl_iadd C dl_684 ?_
  refine rl_sld C hp (i := i) (k := 2) rfl (by omega) dl_685 ?_
  refine rl_callxI (As := [.int (gI (xs (i + 1)).toInt), .int (gI (xs (i + 2)).toInt)]) (rest := []) C hl.1 hp (c_X8_of l C.2.2.2.2.2.2.2.2.2.2.2.1 hcx) gw_949 gw_950 gw_951 xs_0 xc_8 cal_X8_of rfl rfl (Nat.le_of_ble_eq_true rfl) ⟨Nat.le_of_ble_eq_true rfl, Nat.le_of_ble_eq_true rfl⟩ hcs dl_686 (fun H locs hp => ?_)
  refine lv_aload_n C.1 C.2.1 dl_689 rfl (lv_at hl 3 rfl) ?_
  refine lv_aload_n C.1 C.2.1 dl_690 rfl (lv_at hl 1 rfl) ?_
  refine lv_iload_n C.1 C.2.1 dl_691 rfl (lv_at hl 0 rfl) ?_
  refine rl_iconst C dl_692 ?_
  refine rl_iadd C dl_693 ?_
  refine rl_sld C hp (i := i) (k := 1) rfl (by omega) dl_694 ?_
  refine lv_aload_n C.1 C.2.1 dl_695 rfl (lv_at hl 1 rfl) ?_
  refine lv_iload_n C.1 C.2.1 dl_696 rfl (lv_at hl 0 rfl) ?_
  refine rl_iconst C dl_697 ?_
  refine rl_iadd C dl_698 ?_
  refine rl_sld C hp (i := i) (k := 2) rfl (by omega) dl_699 ?_
  refine rl_callmI (As := [.int (gI (xs (i + 1)).toInt), .int (gI (xs (i + 2)).toInt)]) (rest := [.int (gI r)]) C hl.1 hp (c_X9_of l C.2.2.2.2.2.2.2.2.2.2.2.2.1 hcm) gw_1725 gw_1726 gw_1727 ms_0 mc_0 cal_X9_of rfl rfl (Nat.le_of_ble_eq_true rfl) ⟨Nat.le_of_ble_eq_true rfl, Nat.le_of_ble_eq_true rfl⟩ hcs dl_700 (fun H locs hp => ?_)
  refine rl_icmp_eq (tgt := 1590) C heq dl_703 (by decide) ?_
  exact kk Mx' Mm' H locs hp hrel
set_option maxRecDepth 100000 in
set_option maxHeartbeats 4000000 in
theorem l_case_16 (C : l_CX Vx Vm p s m meth c b L xs) (hcs : cells ≤ 600000 ∧ slots ≤ 7302250) {Rel : Nat → g_M → g_M → Prop} (hst : x_step_16 Rel) {i n : Nat} (hi : i + 6 ≤ L) (hn : n < 512) (hr : Rel n Mx Mm) (hp : l_PT Vx Vm Mx Mm s H locs) (hl : lv_has ls 4 [(3, .int (gI (i : Int))), (0, .ref b), (1, .ref (Vx.2.2 0)), (2, .ref (Vm.2.2 0))]) (kk : ∀ (Mx' Mm' : g_M) (H : Heap) (locs : List Loc), l_PT Vx Vm Mx' Mm' s H locs → Rel (n + 1) Mx' Mm' → W p l e room_1 s m #[Value.ref b] below meth c H locs cells slots Q (F0 m 1590 ls [])) : W p l e room_1 s m #[Value.ref b] below meth c H locs cells slots Q (F0 m 708 ls []) := by
  obtain ⟨r, r', Mx', Mm', hcx, hcm, heq, hrel⟩ := hst n Mx Mm hr hn (xs (i + 1)).toInt (xs (i + 2)).toInt (g_rng _) (g_rng _)
  refine lv_aload_n C.1 C.2.1 dl_708 rfl (lv_at hl 2 rfl) ?_
  refine lv_aload_n C.1 C.2.1 dl_709 rfl (lv_at hl 1 rfl) ?_
  refine lv_iload_n C.1 C.2.1 dl_710 rfl (lv_at hl 0 rfl) ?_
  refine rl_iconst C dl_711 ?_
  refine rl_iadd C dl_712 ?_
  refine rl_sld C hp (i := i) (k := 1) rfl (by omega) dl_713 ?_
  refine lv_aload_n C.1 C.2.1 dl_714 rfl (lv_at hl 1 rfl) ?_
  refine lv_iload_n C.1 C.2.1 dl_715 rfl (lv_at hl 0 rfl) ?_
  refine rl_iconst C dl_716 ?_
  refine rl_iadd C dl_717 ?_
  refine rl_sld C hp (i := i) (k := 2) rfl (by omega) dl_718 ?_
  refine rl_callxI (As := [.int (gI (xs (i + 1)).toInt), .int (gI (xs (i + 2)).toInt)]) (rest := []) C hl.1 hp (c_X8_ofScene l C.2.2.2.2.2.2.2.2.2.2.2.1 hcx) gw_955 gw_956 gw_957 xs_0 xc_8 cal_X8_ofScene rfl rfl (Nat.le_of_ble_eq_true rfl) ⟨Nat.le_of_ble_eq_true rfl, Nat.le_of_ble_eq_true rfl⟩ hcs dl_719 (fun H locs hp => ?_)
  refine lv_aload_n C.1 C.2.1 dl_722 rfl (lv_at hl 3 rfl) ?_
  refine lv_aload_n C.1 C.2.1 dl_723 rfl (lv_at hl 1 rfl) ?_
  refine lv_iload_n C.1 C.2.1 dl_724 rfl (lv_at hl 0 rfl) ?_
  refine rl_iconst C dl_725 ?_
  refine rl_iadd C dl_726 ?_
  refine rl_sld C hp (i := i) (k := 1) rfl (by omega) dl_727 ?_
  refine lv_aload_n C.1 C.2.1 dl_728 rfl (lv_at hl 1 rfl) ?_
  refine lv_iload_n C.1 C.2.1 dl_729 rfl (lv_at hl 0 rfl) ?_
  refine rl_iconst C dl_730 ?_
  refine rl_iadd C dl_731 ?_
  refine rl_sld C hp (i := i) (k := 2) rfl (by omega) dl_732 ?_
  refine rl_callmI (As := [.int (gI (xs (i + 1)).toInt), .int (gI (xs (i + 2)).toInt)]) (rest := [.int (gI r)]) C hl.1 hp (c_X9_ofScene l C.2.2.2.2.2.2.2.2.2.2.2.2.1 hcm) gw_1729 gw_1730 gw_1731 ms_0 mc_0 cal_X9_ofScene rfl rfl (Nat.le_of_ble_eq_true rfl) ⟨Nat.le_of_ble_eq_true rfl, Nat.le_of_ble_eq_true rfl⟩ hcs dl_733 (fun H locs hp => ?_)
  refine rl_icmp_eq (tgt := 1590) C heq dl_736 (by decide) ?_
  exact kk Mx' Mm' H locs hp hrel
set_option maxRecDepth 100000 in
set_option maxHeartbeats 4000000 in
theorem l_case_17 (C : l_CX Vx Vm p s m meth c b L xs) (hcs : cells ≤ 600000 ∧ slots ≤ 7302250) {Rel : Nat → g_M → g_M → Prop} (hst : x_step_17 Rel) {i n : Nat} (hi : i + 6 ≤ L) (hn : n < 512) (hr : Rel n Mx Mm) (hp : l_PT Vx Vm Mx Mm s H locs) (hl : lv_has ls 4 [(3, .int (gI (i : Int))), (0, .ref b), (1, .ref (Vx.2.2 0)), (2, .ref (Vm.2.2 0))]) (kk : ∀ (Mx' Mm' : g_M) (H : Heap) (locs : List Loc), l_PT Vx Vm Mx' Mm' s H locs → Rel (n + 1) Mx' Mm' → W p l e room_1 s m #[Value.ref b] below meth c H locs cells slots Q (F0 m 1590 ls [])) : W p l e room_1 s m #[Value.ref b] below meth c H locs cells slots Q (F0 m 741 ls []) := by
  obtain ⟨r, r', Mx', Mm', hcx, hcm, heq, hrel⟩ := hst n Mx Mm hr hn (xs (i + 1)).toInt (g_rng _)
  rw [hcx.2] at hrel
  rw [hcm.2] at hrel
  refine lv_aload_n C.1 C.2.1 dl_741 rfl (lv_at hl 2 rfl) ?_
  refine lv_aload_n C.1 C.2.1 dl_742 rfl (lv_at hl 1 rfl) ?_
  refine lv_iload_n C.1 C.2.1 dl_743 rfl (lv_at hl 0 rfl) ?_
  refine rl_iconst C dl_744 ?_
  refine rl_iadd C dl_745 ?_
  refine rl_sld C hp (i := i) (k := 1) rfl (by omega) dl_746 ?_
  refine rl_callxI (As := [.int (gI (xs (i + 1)).toInt)]) (rest := []) C hl.1 hp (c_X8_is l C.2.2.2.2.2.2.2.2.2.2.2.1 hcx.1) gw_961 gw_962 gw_963 xs_0 xc_8 cal_X8_is rfl rfl (Nat.le_of_ble_eq_true rfl) ⟨Nat.le_of_ble_eq_true rfl, Nat.le_of_ble_eq_true rfl⟩ hcs dl_747 (fun H locs hp => ?_)
  refine lv_aload_n C.1 C.2.1 dl_750 rfl (lv_at hl 3 rfl) ?_
  refine lv_aload_n C.1 C.2.1 dl_751 rfl (lv_at hl 1 rfl) ?_
  refine lv_iload_n C.1 C.2.1 dl_752 rfl (lv_at hl 0 rfl) ?_
  refine rl_iconst C dl_753 ?_
  refine rl_iadd C dl_754 ?_
  refine rl_sld C hp (i := i) (k := 1) rfl (by omega) dl_755 ?_
  refine rl_callmI (As := [.int (gI (xs (i + 1)).toInt)]) (rest := [.int (gI r)]) C hl.1 hp (c_X9_is l C.2.2.2.2.2.2.2.2.2.2.2.2.1 hcm.1) gw_1733 gw_1734 gw_1735 ms_0 mc_0 cal_X9_is rfl rfl (Nat.le_of_ble_eq_true rfl) ⟨Nat.le_of_ble_eq_true rfl, Nat.le_of_ble_eq_true rfl⟩ hcs dl_756 (fun H locs hp => ?_)
  refine rl_icmp_eq (tgt := 1590) C heq dl_759 (by decide) ?_
  exact kk Mx Mm H locs hp hrel
set_option maxRecDepth 100000 in
set_option maxHeartbeats 4000000 in
theorem l_case_18 (C : l_CX Vx Vm p s m meth c b L xs) (hcs : cells ≤ 600000 ∧ slots ≤ 7302250) {Rel : Nat → g_M → g_M → Prop} (hst : x_step_18 Rel) {i n : Nat} (hi : i + 6 ≤ L) (hn : n < 512) (hr : Rel n Mx Mm) (hp : l_PT Vx Vm Mx Mm s H locs) (hl : lv_has ls 4 [(3, .int (gI (i : Int))), (0, .ref b), (1, .ref (Vx.2.2 0)), (2, .ref (Vm.2.2 0))]) (kk : ∀ (Mx' Mm' : g_M) (H : Heap) (locs : List Loc), l_PT Vx Vm Mx' Mm' s H locs → Rel (n + 1) Mx' Mm' → W p l e room_1 s m #[Value.ref b] below meth c H locs cells slots Q (F0 m 1590 ls [])) : W p l e room_1 s m #[Value.ref b] below meth c H locs cells slots Q (F0 m 764 ls []) := by
  obtain ⟨r, r', Mx', Mm', hcx, hcm, heq, hrel⟩ := hst n Mx Mm hr hn (xs (i + 1)).toInt (xs (i + 2)).toInt (g_rng _) (g_rng _)
  rw [hcx.2] at hrel
  rw [hcm.2] at hrel
  refine lv_aload_n C.1 C.2.1 dl_764 rfl (lv_at hl 2 rfl) ?_
  refine lv_aload_n C.1 C.2.1 dl_765 rfl (lv_at hl 1 rfl) ?_
  refine lv_iload_n C.1 C.2.1 dl_766 rfl (lv_at hl 0 rfl) ?_
  refine rl_iconst C dl_767 ?_
  refine rl_iadd C dl_768 ?_
  refine rl_sld C hp (i := i) (k := 1) rfl (by omega) dl_769 ?_
  refine lv_aload_n C.1 C.2.1 dl_770 rfl (lv_at hl 1 rfl) ?_
  refine lv_iload_n C.1 C.2.1 dl_771 rfl (lv_at hl 0 rfl) ?_
  refine rl_iconst C dl_772 ?_
  refine rl_iadd C dl_773 ?_
  refine rl_sld C hp (i := i) (k := 2) rfl (by omega) dl_774 ?_
  refine rl_callxI (As := [.int (gI (xs (i + 1)).toInt), .int (gI (xs (i + 2)).toInt)]) (rest := []) C hl.1 hp (c_X8_book l C.2.2.2.2.2.2.2.2.2.2.2.1 hcx.1) gw_966 gw_967 gw_968 xs_0 xc_8 cal_X8_book rfl rfl (Nat.le_of_ble_eq_true rfl) ⟨Nat.le_of_ble_eq_true rfl, Nat.le_of_ble_eq_true rfl⟩ hcs dl_775 (fun H locs hp => ?_)
  refine lv_aload_n C.1 C.2.1 dl_778 rfl (lv_at hl 3 rfl) ?_
  refine lv_aload_n C.1 C.2.1 dl_779 rfl (lv_at hl 1 rfl) ?_
  refine lv_iload_n C.1 C.2.1 dl_780 rfl (lv_at hl 0 rfl) ?_
  refine rl_iconst C dl_781 ?_
  refine rl_iadd C dl_782 ?_
  refine rl_sld C hp (i := i) (k := 1) rfl (by omega) dl_783 ?_
  refine lv_aload_n C.1 C.2.1 dl_784 rfl (lv_at hl 1 rfl) ?_
  refine lv_iload_n C.1 C.2.1 dl_785 rfl (lv_at hl 0 rfl) ?_
  refine rl_iconst C dl_786 ?_
  refine rl_iadd C dl_787 ?_
  refine rl_sld C hp (i := i) (k := 2) rfl (by omega) dl_788 ?_
  refine rl_callmI (As := [.int (gI (xs (i + 1)).toInt), .int (gI (xs (i + 2)).toInt)]) (rest := [.int (gI r)]) C hl.1 hp (c_X9_book l C.2.2.2.2.2.2.2.2.2.2.2.2.1 hcm.1) gw_1737 gw_1738 gw_1739 ms_0 mc_0 cal_X9_book rfl rfl (Nat.le_of_ble_eq_true rfl) ⟨Nat.le_of_ble_eq_true rfl, Nat.le_of_ble_eq_true rfl⟩ hcs dl_789 (fun H locs hp => ?_)
  refine rl_icmp_eq (tgt := 1590) C heq dl_792 (by decide) ?_
  exact kk Mx Mm H locs hp hrel
set_option maxRecDepth 100000 in
set_option maxHeartbeats 4000000 in
theorem l_case_19 (C : l_CX Vx Vm p s m meth c b L xs) (hcs : cells ≤ 600000 ∧ slots ≤ 7302250) {Rel : Nat → g_M → g_M → Prop} (hst : x_step_19 Rel) {i n : Nat} (hi : i + 6 ≤ L) (hn : n < 512) (hr : Rel n Mx Mm) (hp : l_PT Vx Vm Mx Mm s H locs) (hl : lv_has ls 4 [(3, .int (gI (i : Int))), (0, .ref b), (1, .ref (Vx.2.2 0)), (2, .ref (Vm.2.2 0))]) (kk : ∀ (Mx' Mm' : g_M) (H : Heap) (locs : List Loc), l_PT Vx Vm Mx' Mm' s H locs → Rel (n + 1) Mx' Mm' → W p l e room_1 s m #[Value.ref b] below meth c H locs cells slots Q (F0 m 1590 ls [])) : W p l e room_1 s m #[Value.ref b] below meth c H locs cells slots Q (F0 m 797 ls []) := by
  obtain ⟨r, r', Mx', Mm', hcx, hcm, heq, hrel⟩ := hst n Mx Mm hr hn (xs (i + 1)).toInt (xs (i + 2)).toInt (g_rng _) (g_rng _)
  refine lv_aload_n C.1 C.2.1 dl_797 rfl (lv_at hl 2 rfl) ?_
  refine lv_aload_n C.1 C.2.1 dl_798 rfl (lv_at hl 1 rfl) ?_
  refine lv_iload_n C.1 C.2.1 dl_799 rfl (lv_at hl 0 rfl) ?_
  refine rl_iconst C dl_800 ?_
  refine rl_iadd C dl_801 ?_
  refine rl_sld C hp (i := i) (k := 1) rfl (by omega) dl_802 ?_
  refine lv_aload_n C.1 C.2.1 dl_803 rfl (lv_at hl 1 rfl) ?_
  refine lv_iload_n C.1 C.2.1 dl_804 rfl (lv_at hl 0 rfl) ?_
  refine rl_iconst C dl_805 ?_
  refine rl_iadd C dl_806 ?_
  refine rl_sld C hp (i := i) (k := 2) rfl (by omega) dl_807 ?_
  refine rl_callxI (As := [.int (gI (xs (i + 1)).toInt), .int (gI (xs (i + 2)).toInt)]) (rest := []) C hl.1 hp (c_X8_foretold l C.2.2.2.2.2.2.2.2.2.2.2.1 hcx) gw_975 gw_976 gw_977 xs_0 xc_8 cal_X8_foretold rfl rfl (Nat.le_of_ble_eq_true rfl) ⟨Nat.le_of_ble_eq_true rfl, Nat.le_of_ble_eq_true rfl⟩ hcs dl_808 (fun H locs hp => ?_)
  refine lv_aload_n C.1 C.2.1 dl_811 rfl (lv_at hl 3 rfl) ?_
  refine lv_aload_n C.1 C.2.1 dl_812 rfl (lv_at hl 1 rfl) ?_
  refine lv_iload_n C.1 C.2.1 dl_813 rfl (lv_at hl 0 rfl) ?_
  refine rl_iconst C dl_814 ?_
  refine rl_iadd C dl_815 ?_
  refine rl_sld C hp (i := i) (k := 1) rfl (by omega) dl_816 ?_
  refine lv_aload_n C.1 C.2.1 dl_817 rfl (lv_at hl 1 rfl) ?_
  refine lv_iload_n C.1 C.2.1 dl_818 rfl (lv_at hl 0 rfl) ?_
  refine rl_iconst C dl_819 ?_
  refine rl_iadd C dl_820 ?_
  refine rl_sld C hp (i := i) (k := 2) rfl (by omega) dl_821 ?_
  refine rl_callmI (As := [.int (gI (xs (i + 1)).toInt), .int (gI (xs (i + 2)).toInt)]) (rest := [.int (gI r)]) C hl.1 hp (c_X9_foretold l C.2.2.2.2.2.2.2.2.2.2.2.2.1 hcm) gw_1758 gw_1759 gw_1760 ms_0 mc_0 cal_X9_foretold rfl rfl (Nat.le_of_ble_eq_true rfl) ⟨Nat.le_of_ble_eq_true rfl, Nat.le_of_ble_eq_true rfl⟩ hcs dl_822 (fun H locs hp => ?_)
  refine rl_icmp_eq (tgt := 1590) C heq dl_825 (by decide) ?_
  exact kk Mx' Mm' H locs hp hrel
set_option maxRecDepth 100000 in
set_option maxHeartbeats 4000000 in
theorem l_case_20 (C : l_CX Vx Vm p s m meth c b L xs) (hcs : cells ≤ 600000 ∧ slots ≤ 7302250) {Rel : Nat → g_M → g_M → Prop} (hst : x_step_20 Rel) {i n : Nat} (hi : i + 6 ≤ L) (hn : n < 512) (hr : Rel n Mx Mm) (hp : l_PT Vx Vm Mx Mm s H locs) (hl : lv_has ls 4 [(3, .int (gI (i : Int))), (0, .ref b), (1, .ref (Vx.2.2 0)), (2, .ref (Vm.2.2 0))]) (kk : ∀ (Mx' Mm' : g_M) (H : Heap) (locs : List Loc), l_PT Vx Vm Mx' Mm' s H locs → Rel (n + 1) Mx' Mm' → W p l e room_1 s m #[Value.ref b] below meth c H locs cells slots Q (F0 m 1590 ls [])) : W p l e room_1 s m #[Value.ref b] below meth c H locs cells slots Q (F0 m 830 ls []) := by
  obtain ⟨r, r', Mx', Mm', hcx, hcm, heq, hrel⟩ := hst n Mx Mm hr hn (xs (i + 1)).toInt (g_rng _)
  refine lv_aload_n C.1 C.2.1 dl_830 rfl (lv_at hl 2 rfl) ?_
  refine lv_aload_n C.1 C.2.1 dl_831 rfl (lv_at hl 1 rfl) ?_
  refine lv_iload_n C.1 C.2.1 dl_832 rfl (lv_at hl 0 rfl) ?_
  refine rl_iconst C dl_833 ?_
  refine rl_iadd C dl_834 ?_
  refine rl_sld C hp (i := i) (k := 1) rfl (by omega) dl_835 ?_
  refine rl_callxI (As := [.int (gI (xs (i + 1)).toInt)]) (rest := []) C hl.1 hp (c_X8_cue l C.2.2.2.2.2.2.2.2.2.2.2.1 hcx) gw_984 gw_985 gw_986 xs_0 xc_8 cal_X8_cue rfl rfl (Nat.le_of_ble_eq_true rfl) ⟨Nat.le_of_ble_eq_true rfl, Nat.le_of_ble_eq_true rfl⟩ hcs dl_836 (fun H locs hp => ?_)
  refine lv_aload_n C.1 C.2.1 dl_839 rfl (lv_at hl 3 rfl) ?_
  refine lv_aload_n C.1 C.2.1 dl_840 rfl (lv_at hl 1 rfl) ?_
  refine lv_iload_n C.1 C.2.1 dl_841 rfl (lv_at hl 0 rfl) ?_
  refine rl_iconst C dl_842 ?_
  refine rl_iadd C dl_843 ?_
  refine rl_sld C hp (i := i) (k := 1) rfl (by omega) dl_844 ?_
  refine rl_callmI (As := [.int (gI (xs (i + 1)).toInt)]) (rest := [.int (gI r)]) C hl.1 hp (c_X9_cue l C.2.2.2.2.2.2.2.2.2.2.2.2.1 hcm) gw_1762 gw_1763 gw_1764 ms_0 mc_0 cal_X9_cue rfl rfl (Nat.le_of_ble_eq_true rfl) ⟨Nat.le_of_ble_eq_true rfl, Nat.le_of_ble_eq_true rfl⟩ hcs dl_845 (fun H locs hp => ?_)
  refine rl_icmp_eq (tgt := 1590) C heq dl_848 (by decide) ?_
  exact kk Mx' Mm' H locs hp hrel
set_option maxRecDepth 100000 in
set_option maxHeartbeats 4000000 in
theorem l_case_21 (C : l_CX Vx Vm p s m meth c b L xs) (hcs : cells ≤ 600000 ∧ slots ≤ 7302250) {Rel : Nat → g_M → g_M → Prop} (hst : x_step_21 Rel) {i n : Nat} (hi : i + 6 ≤ L) (hn : n < 512) (hr : Rel n Mx Mm) (hp : l_PT Vx Vm Mx Mm s H locs) (hl : lv_has ls 4 [(3, .int (gI (i : Int))), (0, .ref b), (1, .ref (Vx.2.2 0)), (2, .ref (Vm.2.2 0))]) (kk : ∀ (Mx' Mm' : g_M) (H : Heap) (locs : List Loc), l_PT Vx Vm Mx' Mm' s H locs → Rel (n + 1) Mx' Mm' → W p l e room_1 s m #[Value.ref b] below meth c H locs cells slots Q (F0 m 1590 ls [])) : W p l e room_1 s m #[Value.ref b] below meth c H locs cells slots Q (F0 m 853 ls []) := by
  obtain ⟨r, r', Mx', Mm', hcx, hcm, heq, hrel⟩ := hst n Mx Mm hr hn (xs (i + 1)).toInt (xs (i + 2)).toInt (g_rng _) (g_rng _)
  rw [hcx.2] at hrel
  rw [hcm.2] at hrel
  refine lv_aload_n C.1 C.2.1 dl_853 rfl (lv_at hl 2 rfl) ?_
  refine lv_aload_n C.1 C.2.1 dl_854 rfl (lv_at hl 1 rfl) ?_
  refine lv_iload_n C.1 C.2.1 dl_855 rfl (lv_at hl 0 rfl) ?_
  refine rl_iconst C dl_856 ?_
  refine rl_iadd C dl_857 ?_
  refine rl_sld C hp (i := i) (k := 1) rfl (by omega) dl_858 ?_
  refine lv_aload_n C.1 C.2.1 dl_859 rfl (lv_at hl 1 rfl) ?_
  refine lv_iload_n C.1 C.2.1 dl_860 rfl (lv_at hl 0 rfl) ?_
  refine rl_iconst C dl_861 ?_
  refine rl_iadd C dl_862 ?_
  refine rl_sld C hp (i := i) (k := 2) rfl (by omega) dl_863 ?_
  refine rl_callxI (As := [.int (gI (xs (i + 1)).toInt), .int (gI (xs (i + 2)).toInt)]) (rest := []) C hl.1 hp (c_X8_run l C.2.2.2.2.2.2.2.2.2.2.2.1 hcx.1) gw_988 gw_989 gw_990 xs_0 xc_8 cal_X8_run rfl rfl (Nat.le_of_ble_eq_true rfl) ⟨Nat.le_of_ble_eq_true rfl, Nat.le_of_ble_eq_true rfl⟩ hcs dl_864 (fun H locs hp => ?_)
  refine lv_aload_n C.1 C.2.1 dl_867 rfl (lv_at hl 3 rfl) ?_
  refine lv_aload_n C.1 C.2.1 dl_868 rfl (lv_at hl 1 rfl) ?_
  refine lv_iload_n C.1 C.2.1 dl_869 rfl (lv_at hl 0 rfl) ?_
  refine rl_iconst C dl_870 ?_
  refine rl_iadd C dl_871 ?_
  refine rl_sld C hp (i := i) (k := 1) rfl (by omega) dl_872 ?_
  refine lv_aload_n C.1 C.2.1 dl_873 rfl (lv_at hl 1 rfl) ?_
  refine lv_iload_n C.1 C.2.1 dl_874 rfl (lv_at hl 0 rfl) ?_
  refine rl_iconst C dl_875 ?_
  refine rl_iadd C dl_876 ?_
  refine rl_sld C hp (i := i) (k := 2) rfl (by omega) dl_877 ?_
  refine rl_callmI (As := [.int (gI (xs (i + 1)).toInt), .int (gI (xs (i + 2)).toInt)]) (rest := [.int (gI r)]) C hl.1 hp (c_X9_run l C.2.2.2.2.2.2.2.2.2.2.2.2.1 hcm.1) gw_1766 gw_1767 gw_1768 ms_0 mc_0 cal_X9_run rfl rfl (Nat.le_of_ble_eq_true rfl) ⟨Nat.le_of_ble_eq_true rfl, Nat.le_of_ble_eq_true rfl⟩ hcs dl_878 (fun H locs hp => ?_)
  refine rl_icmp_eq (tgt := 1590) C heq dl_881 (by decide) ?_
  exact kk Mx Mm H locs hp hrel
set_option maxRecDepth 100000 in
set_option maxHeartbeats 4000000 in
theorem l_case_22 (C : l_CX Vx Vm p s m meth c b L xs) (hcs : cells ≤ 600000 ∧ slots ≤ 7302250) {Rel : Nat → g_M → g_M → Prop} (hst : x_step_22 Rel) {i n : Nat} (hi : i + 6 ≤ L) (hn : n < 512) (hr : Rel n Mx Mm) (hp : l_PT Vx Vm Mx Mm s H locs) (hl : lv_has ls 4 [(3, .int (gI (i : Int))), (0, .ref b), (1, .ref (Vx.2.2 0)), (2, .ref (Vm.2.2 0))]) (kk : ∀ (Mx' Mm' : g_M) (H : Heap) (locs : List Loc), l_PT Vx Vm Mx' Mm' s H locs → Rel (n + 1) Mx' Mm' → W p l e room_1 s m #[Value.ref b] below meth c H locs cells slots Q (F0 m 1590 ls [])) : W p l e room_1 s m #[Value.ref b] below meth c H locs cells slots Q (F0 m 886 ls []) := by
  obtain ⟨r, r', Mx', Mm', hcx, hcm, heq, hrel⟩ := hst n Mx Mm hr hn (xs (i + 1)).toInt (xs (i + 2)).toInt (xs (i + 3)).toInt (g_rng _) (g_rng _) (g_rng _)
  refine lv_aload_n C.1 C.2.1 dl_886 rfl (lv_at hl 2 rfl) ?_
  refine lv_aload_n C.1 C.2.1 dl_887 rfl (lv_at hl 1 rfl) ?_
  refine lv_iload_n C.1 C.2.1 dl_888 rfl (lv_at hl 0 rfl) ?_
  refine rl_iconst C dl_889 ?_
  refine rl_iadd C dl_890 ?_
  refine rl_sld C hp (i := i) (k := 1) rfl (by omega) dl_891 ?_
  refine lv_aload_n C.1 C.2.1 dl_892 rfl (lv_at hl 1 rfl) ?_
  refine lv_iload_n C.1 C.2.1 dl_893 rfl (lv_at hl 0 rfl) ?_
  refine rl_iconst C dl_894 ?_
  refine rl_iadd C dl_895 ?_
  refine rl_sld C hp (i := i) (k := 2) rfl (by omega) dl_896 ?_
  refine lv_aload_n C.1 C.2.1 dl_897 rfl (lv_at hl 1 rfl) ?_
  refine lv_iload_n C.1 C.2.1 dl_898 rfl (lv_at hl 0 rfl) ?_
  refine rl_iconst C dl_899 ?_
  refine rl_iadd C dl_900 ?_
  refine rl_sld C hp (i := i) (k := 3) rfl (by omega) dl_901 ?_
  refine rl_callxI (As := [.int (gI (xs (i + 1)).toInt), .int (gI (xs (i + 2)).toInt), .int (gI (xs (i + 3)).toInt)]) (rest := []) C hl.1 hp (c_X8_shortest l C.2.2.2.2.2.2.2.2.2.2.2.1 hcx) gw_992 gw_993 gw_994 xs_0 xc_8 cal_X8_shortest rfl rfl (Nat.le_of_ble_eq_true rfl) ⟨Nat.le_of_ble_eq_true rfl, Nat.le_of_ble_eq_true rfl⟩ hcs dl_902 (fun H locs hp => ?_)
  refine lv_aload_n C.1 C.2.1 dl_905 rfl (lv_at hl 3 rfl) ?_
  refine lv_aload_n C.1 C.2.1 dl_906 rfl (lv_at hl 1 rfl) ?_
  refine lv_iload_n C.1 C.2.1 dl_907 rfl (lv_at hl 0 rfl) ?_
  refine rl_iconst C dl_908 ?_
  refine rl_iadd C dl_909 ?_
  refine rl_sld C hp (i := i) (k := 1) rfl (by omega) dl_910 ?_
  refine lv_aload_n C.1 C.2.1 dl_911 rfl (lv_at hl 1 rfl) ?_
  refine lv_iload_n C.1 C.2.1 dl_912 rfl (lv_at hl 0 rfl) ?_
  refine rl_iconst C dl_913 ?_
  refine rl_iadd C dl_914 ?_
  refine rl_sld C hp (i := i) (k := 2) rfl (by omega) dl_915 ?_
  refine lv_aload_n C.1 C.2.1 dl_916 rfl (lv_at hl 1 rfl) ?_
  refine lv_iload_n C.1 C.2.1 dl_917 rfl (lv_at hl 0 rfl) ?_
  refine rl_iconst C dl_918 ?_
  refine rl_iadd C dl_919 ?_
  refine rl_sld C hp (i := i) (k := 3) rfl (by omega) dl_920 ?_
  refine rl_callmI (As := [.int (gI (xs (i + 1)).toInt), .int (gI (xs (i + 2)).toInt), .int (gI (xs (i + 3)).toInt)]) (rest := [.int (gI r)]) C hl.1 hp (c_X9_shortest l C.2.2.2.2.2.2.2.2.2.2.2.2.1 hcm) gw_1770 gw_1771 gw_1772 ms_0 mc_0 cal_X9_shortest rfl rfl (Nat.le_of_ble_eq_true rfl) ⟨Nat.le_of_ble_eq_true rfl, Nat.le_of_ble_eq_true rfl⟩ hcs dl_921 (fun H locs hp => ?_)
  refine rl_icmp_eq (tgt := 1590) C heq dl_924 (by decide) ?_
  exact kk Mx' Mm' H locs hp hrel
set_option maxRecDepth 100000 in
set_option maxHeartbeats 4000000 in
theorem l_case_23 (C : l_CX Vx Vm p s m meth c b L xs) (hcs : cells ≤ 600000 ∧ slots ≤ 7302250) {Rel : Nat → g_M → g_M → Prop} (hst : x_step_23 Rel) {i n : Nat} (hi : i + 6 ≤ L) (hn : n < 512) (hr : Rel n Mx Mm) (hp : l_PT Vx Vm Mx Mm s H locs) (hl : lv_has ls 4 [(3, .int (gI (i : Int))), (0, .ref b), (1, .ref (Vx.2.2 0)), (2, .ref (Vm.2.2 0))]) (kk : ∀ (Mx' Mm' : g_M) (H : Heap) (locs : List Loc), l_PT Vx Vm Mx' Mm' s H locs → Rel (n + 1) Mx' Mm' → W p l e room_1 s m #[Value.ref b] below meth c H locs cells slots Q (F0 m 1590 ls [])) : W p l e room_1 s m #[Value.ref b] below meth c H locs cells slots Q (F0 m 929 ls []) := by
  by_cases hz2 : gs (xs (i + 2)).toInt = 0
  · obtain ⟨r, r', Mx', Mm', hcx, hcm, heq, hrel⟩ := hst n Mx Mm hr hn (xs (i + 1)).toInt 0 (g_rng _) (by decide)
    refine lv_aload_n C.1 C.2.1 dl_929 rfl (lv_at hl 2 rfl) ?_
    refine lv_aload_n C.1 C.2.1 dl_930 rfl (lv_at hl 1 rfl) ?_
    refine lv_iload_n C.1 C.2.1 dl_931 rfl (lv_at hl 0 rfl) ?_
    refine rl_iconst C dl_932 ?_
    refine rl_iadd C dl_933 ?_
    refine rl_sld C hp (i := i) (k := 1) rfl (by omega) dl_934 ?_
    refine lv_aload_n C.1 C.2.1 dl_935 rfl (lv_at hl 1 rfl) ?_
    refine lv_iload_n C.1 C.2.1 dl_936 rfl (lv_at hl 0 rfl) ?_
    refine rl_iconst C dl_937 ?_
    refine rl_iadd C dl_938 ?_
    refine rl_sld C hp (i := i) (k := 2) rfl (by omega) dl_939 ?_
    refine rl_ifz (tgt := 947) C hz2 dl_940 (by decide) ?_
    refine rl_iconst C dl_947 ?_
    refine rl_callxI (As := [.int (gI (xs (i + 1)).toInt), .int (gI 0)]) (rest := []) C hl.1 hp (c_X8_soonest l C.2.2.2.2.2.2.2.2.2.2.2.1 hcx) gw_1014 gw_1015 gw_1016 xs_0 xc_8 cal_X8_soonest rfl rfl (Nat.le_of_ble_eq_true rfl) ⟨Nat.le_of_ble_eq_true rfl, Nat.le_of_ble_eq_true rfl⟩ hcs dl_948 (fun H locs hp => ?_)
    refine lv_aload_n C.1 C.2.1 dl_951 rfl (lv_at hl 3 rfl) ?_
    refine lv_aload_n C.1 C.2.1 dl_952 rfl (lv_at hl 1 rfl) ?_
    refine lv_iload_n C.1 C.2.1 dl_953 rfl (lv_at hl 0 rfl) ?_
    refine rl_iconst C dl_954 ?_
    refine rl_iadd C dl_955 ?_
    refine rl_sld C hp (i := i) (k := 1) rfl (by omega) dl_956 ?_
    refine lv_aload_n C.1 C.2.1 dl_957 rfl (lv_at hl 1 rfl) ?_
    refine lv_iload_n C.1 C.2.1 dl_958 rfl (lv_at hl 0 rfl) ?_
    refine rl_iconst C dl_959 ?_
    refine rl_iadd C dl_960 ?_
    refine rl_sld C hp (i := i) (k := 2) rfl (by omega) dl_961 ?_
    refine rl_ifz (tgt := 969) C hz2 dl_962 (by decide) ?_
    refine rl_iconst C dl_969 ?_
    refine rl_callmI (As := [.int (gI (xs (i + 1)).toInt), .int (gI 0)]) (rest := [.int (gI r)]) C hl.1 hp (c_X9_soonest l C.2.2.2.2.2.2.2.2.2.2.2.2.1 hcm) gw_1779 gw_1780 gw_1781 ms_0 mc_0 cal_X9_soonest rfl rfl (Nat.le_of_ble_eq_true rfl) ⟨Nat.le_of_ble_eq_true rfl, Nat.le_of_ble_eq_true rfl⟩ hcs dl_970 (fun H locs hp => ?_)
    refine rl_icmp_eq (tgt := 1590) C heq dl_973 (by decide) ?_
    exact kk Mx' Mm' H locs hp hrel
  · obtain ⟨r, r', Mx', Mm', hcx, hcm, heq, hrel⟩ := hst n Mx Mm hr hn (xs (i + 1)).toInt 1 (g_rng _) (by decide)
    refine lv_aload_n C.1 C.2.1 dl_929 rfl (lv_at hl 2 rfl) ?_
    refine lv_aload_n C.1 C.2.1 dl_930 rfl (lv_at hl 1 rfl) ?_
    refine lv_iload_n C.1 C.2.1 dl_931 rfl (lv_at hl 0 rfl) ?_
    refine rl_iconst C dl_932 ?_
    refine rl_iadd C dl_933 ?_
    refine rl_sld C hp (i := i) (k := 1) rfl (by omega) dl_934 ?_
    refine lv_aload_n C.1 C.2.1 dl_935 rfl (lv_at hl 1 rfl) ?_
    refine lv_iload_n C.1 C.2.1 dl_936 rfl (lv_at hl 0 rfl) ?_
    refine rl_iconst C dl_937 ?_
    refine rl_iadd C dl_938 ?_
    refine rl_sld C hp (i := i) (k := 2) rfl (by omega) dl_939 ?_
    refine rl_ifnz (tgt := 947) C hz2 dl_940 (by decide) ?_
    refine rl_iconst C dl_943 ?_
    refine rl_goto (tgt := 948) C dl_944 (by decide) ?_
    refine rl_callxI (As := [.int (gI (xs (i + 1)).toInt), .int (gI 1)]) (rest := []) C hl.1 hp (c_X8_soonest l C.2.2.2.2.2.2.2.2.2.2.2.1 hcx) gw_1014 gw_1015 gw_1016 xs_0 xc_8 cal_X8_soonest rfl rfl (Nat.le_of_ble_eq_true rfl) ⟨Nat.le_of_ble_eq_true rfl, Nat.le_of_ble_eq_true rfl⟩ hcs dl_948 (fun H locs hp => ?_)
    refine lv_aload_n C.1 C.2.1 dl_951 rfl (lv_at hl 3 rfl) ?_
    refine lv_aload_n C.1 C.2.1 dl_952 rfl (lv_at hl 1 rfl) ?_
    refine lv_iload_n C.1 C.2.1 dl_953 rfl (lv_at hl 0 rfl) ?_
    refine rl_iconst C dl_954 ?_
    refine rl_iadd C dl_955 ?_
    refine rl_sld C hp (i := i) (k := 1) rfl (by omega) dl_956 ?_
    refine lv_aload_n C.1 C.2.1 dl_957 rfl (lv_at hl 1 rfl) ?_
    refine lv_iload_n C.1 C.2.1 dl_958 rfl (lv_at hl 0 rfl) ?_
    refine rl_iconst C dl_959 ?_
    refine rl_iadd C dl_960 ?_
    refine rl_sld C hp (i := i) (k := 2) rfl (by omega) dl_961 ?_
    refine rl_ifnz (tgt := 969) C hz2 dl_962 (by decide) ?_
    refine rl_iconst C dl_965 ?_
    refine rl_goto (tgt := 970) C dl_966 (by decide) ?_
    refine rl_callmI (As := [.int (gI (xs (i + 1)).toInt), .int (gI 1)]) (rest := [.int (gI r)]) C hl.1 hp (c_X9_soonest l C.2.2.2.2.2.2.2.2.2.2.2.2.1 hcm) gw_1779 gw_1780 gw_1781 ms_0 mc_0 cal_X9_soonest rfl rfl (Nat.le_of_ble_eq_true rfl) ⟨Nat.le_of_ble_eq_true rfl, Nat.le_of_ble_eq_true rfl⟩ hcs dl_970 (fun H locs hp => ?_)
    refine rl_icmp_eq (tgt := 1590) C heq dl_973 (by decide) ?_
    exact kk Mx' Mm' H locs hp hrel
set_option maxRecDepth 100000 in
set_option maxHeartbeats 4000000 in
theorem l_case_24 (C : l_CX Vx Vm p s m meth c b L xs) (hcs : cells ≤ 600000 ∧ slots ≤ 7302250) {Rel : Nat → g_M → g_M → Prop} (hst : x_step_24 Rel) {i n : Nat} (hi : i + 6 ≤ L) (hn : n < 512) (hr : Rel n Mx Mm) (hp : l_PT Vx Vm Mx Mm s H locs) (hl : lv_has ls 4 [(3, .int (gI (i : Int))), (0, .ref b), (1, .ref (Vx.2.2 0)), (2, .ref (Vm.2.2 0))]) (kk : ∀ (Mx' Mm' : g_M) (H : Heap) (locs : List Loc), l_PT Vx Vm Mx' Mm' s H locs → Rel (n + 1) Mx' Mm' → W p l e room_1 s m #[Value.ref b] below meth c H locs cells slots Q (F0 m 1590 ls [])) : W p l e room_1 s m #[Value.ref b] below meth c H locs cells slots Q (F0 m 978 ls []) := by
  by_cases hz2 : gs (xs (i + 2)).toInt = 0
  · obtain ⟨r, r', Mx', Mm', hcx, hcm, heq, hrel⟩ := hst n Mx Mm hr hn (xs (i + 1)).toInt 0 (g_rng _) (by decide)
    refine lv_aload_n C.1 C.2.1 dl_978 rfl (lv_at hl 2 rfl) ?_
    refine lv_aload_n C.1 C.2.1 dl_979 rfl (lv_at hl 1 rfl) ?_
    refine lv_iload_n C.1 C.2.1 dl_980 rfl (lv_at hl 0 rfl) ?_
    refine rl_iconst C dl_981 ?_
    refine rl_iadd C dl_982 ?_
    refine rl_sld C hp (i := i) (k := 1) rfl (by omega) dl_983 ?_
    refine lv_aload_n C.1 C.2.1 dl_984 rfl (lv_at hl 1 rfl) ?_
    refine lv_iload_n C.1 C.2.1 dl_985 rfl (lv_at hl 0 rfl) ?_
    refine rl_iconst C dl_986 ?_
    refine rl_iadd C dl_987 ?_
    refine rl_sld C hp (i := i) (k := 2) rfl (by omega) dl_988 ?_
    refine rl_ifz (tgt := 996) C hz2 dl_989 (by decide) ?_
    refine rl_iconst C dl_996 ?_
    refine rl_callxI (As := [.int (gI (xs (i + 1)).toInt), .int (gI 0)]) (rest := []) C hl.1 hp (c_X8_best l C.2.2.2.2.2.2.2.2.2.2.2.1 hcx) gw_1031 gw_1032 gw_1033 xs_0 xc_8 cal_X8_best rfl rfl (Nat.le_of_ble_eq_true rfl) ⟨Nat.le_of_ble_eq_true rfl, Nat.le_of_ble_eq_true rfl⟩ hcs dl_997 (fun H locs hp => ?_)
    refine lv_aload_n C.1 C.2.1 dl_1000 rfl (lv_at hl 3 rfl) ?_
    refine lv_aload_n C.1 C.2.1 dl_1001 rfl (lv_at hl 1 rfl) ?_
    refine lv_iload_n C.1 C.2.1 dl_1002 rfl (lv_at hl 0 rfl) ?_
    refine rl_iconst C dl_1003 ?_
    refine rl_iadd C dl_1004 ?_
    refine rl_sld C hp (i := i) (k := 1) rfl (by omega) dl_1005 ?_
    refine lv_aload_n C.1 C.2.1 dl_1006 rfl (lv_at hl 1 rfl) ?_
    refine lv_iload_n C.1 C.2.1 dl_1007 rfl (lv_at hl 0 rfl) ?_
    refine rl_iconst C dl_1008 ?_
    refine rl_iadd C dl_1009 ?_
    refine rl_sld C hp (i := i) (k := 2) rfl (by omega) dl_1010 ?_
    refine rl_ifz (tgt := 1018) C hz2 dl_1011 (by decide) ?_
    refine rl_iconst C dl_1018 ?_
    refine rl_callmI (As := [.int (gI (xs (i + 1)).toInt), .int (gI 0)]) (rest := [.int (gI r)]) C hl.1 hp (c_X9_best l C.2.2.2.2.2.2.2.2.2.2.2.2.1 hcm) gw_1795 gw_1796 gw_1797 ms_0 mc_0 cal_X9_best rfl rfl (Nat.le_of_ble_eq_true rfl) ⟨Nat.le_of_ble_eq_true rfl, Nat.le_of_ble_eq_true rfl⟩ hcs dl_1019 (fun H locs hp => ?_)
    refine rl_icmp_eq (tgt := 1590) C heq dl_1022 (by decide) ?_
    exact kk Mx' Mm' H locs hp hrel
  · obtain ⟨r, r', Mx', Mm', hcx, hcm, heq, hrel⟩ := hst n Mx Mm hr hn (xs (i + 1)).toInt 1 (g_rng _) (by decide)
    refine lv_aload_n C.1 C.2.1 dl_978 rfl (lv_at hl 2 rfl) ?_
    refine lv_aload_n C.1 C.2.1 dl_979 rfl (lv_at hl 1 rfl) ?_
    refine lv_iload_n C.1 C.2.1 dl_980 rfl (lv_at hl 0 rfl) ?_
    refine rl_iconst C dl_981 ?_
    refine rl_iadd C dl_982 ?_
    refine rl_sld C hp (i := i) (k := 1) rfl (by omega) dl_983 ?_
    refine lv_aload_n C.1 C.2.1 dl_984 rfl (lv_at hl 1 rfl) ?_
    refine lv_iload_n C.1 C.2.1 dl_985 rfl (lv_at hl 0 rfl) ?_
    refine rl_iconst C dl_986 ?_
    refine rl_iadd C dl_987 ?_
    refine rl_sld C hp (i := i) (k := 2) rfl (by omega) dl_988 ?_
    refine rl_ifnz (tgt := 996) C hz2 dl_989 (by decide) ?_
    refine rl_iconst C dl_992 ?_
    refine rl_goto (tgt := 997) C dl_993 (by decide) ?_
    refine rl_callxI (As := [.int (gI (xs (i + 1)).toInt), .int (gI 1)]) (rest := []) C hl.1 hp (c_X8_best l C.2.2.2.2.2.2.2.2.2.2.2.1 hcx) gw_1031 gw_1032 gw_1033 xs_0 xc_8 cal_X8_best rfl rfl (Nat.le_of_ble_eq_true rfl) ⟨Nat.le_of_ble_eq_true rfl, Nat.le_of_ble_eq_true rfl⟩ hcs dl_997 (fun H locs hp => ?_)
    refine lv_aload_n C.1 C.2.1 dl_1000 rfl (lv_at hl 3 rfl) ?_
    refine lv_aload_n C.1 C.2.1 dl_1001 rfl (lv_at hl 1 rfl) ?_
    refine lv_iload_n C.1 C.2.1 dl_1002 rfl (lv_at hl 0 rfl) ?_
    refine rl_iconst C dl_1003 ?_
    refine rl_iadd C dl_1004 ?_
    refine rl_sld C hp (i := i) (k := 1) rfl (by omega) dl_1005 ?_
    refine lv_aload_n C.1 C.2.1 dl_1006 rfl (lv_at hl 1 rfl) ?_
    refine lv_iload_n C.1 C.2.1 dl_1007 rfl (lv_at hl 0 rfl) ?_
    refine rl_iconst C dl_1008 ?_
    refine rl_iadd C dl_1009 ?_
    refine rl_sld C hp (i := i) (k := 2) rfl (by omega) dl_1010 ?_
    refine rl_ifnz (tgt := 1018) C hz2 dl_1011 (by decide) ?_
    refine rl_iconst C dl_1014 ?_
    refine rl_goto (tgt := 1019) C dl_1015 (by decide) ?_
    refine rl_callmI (As := [.int (gI (xs (i + 1)).toInt), .int (gI 1)]) (rest := [.int (gI r)]) C hl.1 hp (c_X9_best l C.2.2.2.2.2.2.2.2.2.2.2.2.1 hcm) gw_1795 gw_1796 gw_1797 ms_0 mc_0 cal_X9_best rfl rfl (Nat.le_of_ble_eq_true rfl) ⟨Nat.le_of_ble_eq_true rfl, Nat.le_of_ble_eq_true rfl⟩ hcs dl_1019 (fun H locs hp => ?_)
    refine rl_icmp_eq (tgt := 1590) C heq dl_1022 (by decide) ?_
    exact kk Mx' Mm' H locs hp hrel
set_option maxRecDepth 100000 in
set_option maxHeartbeats 4000000 in
theorem l_case_25 (C : l_CX Vx Vm p s m meth c b L xs) (hcs : cells ≤ 600000 ∧ slots ≤ 7302250) {Rel : Nat → g_M → g_M → Prop} (hst : x_step_25 Rel) {i n : Nat} (hi : i + 6 ≤ L) (hn : n < 512) (hr : Rel n Mx Mm) (hp : l_PT Vx Vm Mx Mm s H locs) (hl : lv_has ls 4 [(3, .int (gI (i : Int))), (0, .ref b), (1, .ref (Vx.2.2 0)), (2, .ref (Vm.2.2 0))]) (kk : ∀ (Mx' Mm' : g_M) (H : Heap) (locs : List Loc), l_PT Vx Vm Mx' Mm' s H locs → Rel (n + 1) Mx' Mm' → W p l e room_1 s m #[Value.ref b] below meth c H locs cells slots Q (F0 m 1590 ls [])) : W p l e room_1 s m #[Value.ref b] below meth c H locs cells slots Q (F0 m 1027 ls []) := by
  by_cases hz3 : gs (xs (i + 3)).toInt = 0
  · obtain ⟨r, r', Mx', Mm', hcx, hcm, heq, hrel⟩ := hst n Mx Mm hr hn (xs (i + 1)).toInt (xs (i + 2)).toInt 0 (g_rng _) (g_rng _) (by decide)
    refine lv_aload_n C.1 C.2.1 dl_1027 rfl (lv_at hl 2 rfl) ?_
    refine lv_aload_n C.1 C.2.1 dl_1028 rfl (lv_at hl 1 rfl) ?_
    refine lv_iload_n C.1 C.2.1 dl_1029 rfl (lv_at hl 0 rfl) ?_
    refine rl_iconst C dl_1030 ?_
    refine rl_iadd C dl_1031 ?_
    refine rl_sld C hp (i := i) (k := 1) rfl (by omega) dl_1032 ?_
    refine lv_aload_n C.1 C.2.1 dl_1033 rfl (lv_at hl 1 rfl) ?_
    refine lv_iload_n C.1 C.2.1 dl_1034 rfl (lv_at hl 0 rfl) ?_
    refine rl_iconst C dl_1035 ?_
    refine rl_iadd C dl_1036 ?_
    refine rl_sld C hp (i := i) (k := 2) rfl (by omega) dl_1037 ?_
    refine lv_aload_n C.1 C.2.1 dl_1038 rfl (lv_at hl 1 rfl) ?_
    refine lv_iload_n C.1 C.2.1 dl_1039 rfl (lv_at hl 0 rfl) ?_
    refine rl_iconst C dl_1040 ?_
    refine rl_iadd C dl_1041 ?_
    refine rl_sld C hp (i := i) (k := 3) rfl (by omega) dl_1042 ?_
    refine rl_ifz (tgt := 1050) C hz3 dl_1043 (by decide) ?_
    refine rl_iconst C dl_1050 ?_
    refine rl_callxL (As := [.int (gI (xs (i + 1)).toInt), .int (gI (xs (i + 2)).toInt), .int (gI 0)]) (rest := []) C hl.1 hp (c_X8_odds l C.2.2.2.2.2.2.2.2.2.2.2.1 hcx) gw_1039 gw_1040 gw_1041 xs_0 xc_8 cal_X8_odds rfl rfl (Nat.le_of_ble_eq_true rfl) ⟨Nat.le_of_ble_eq_true rfl, Nat.le_of_ble_eq_true rfl⟩ hcs dl_1051 (fun H locs hp => ?_)
    refine lv_aload_n C.1 C.2.1 dl_1054 rfl (lv_at hl 3 rfl) ?_
    refine lv_aload_n C.1 C.2.1 dl_1055 rfl (lv_at hl 1 rfl) ?_
    refine lv_iload_n C.1 C.2.1 dl_1056 rfl (lv_at hl 0 rfl) ?_
    refine rl_iconst C dl_1057 ?_
    refine rl_iadd C dl_1058 ?_
    refine rl_sld C hp (i := i) (k := 1) rfl (by omega) dl_1059 ?_
    refine lv_aload_n C.1 C.2.1 dl_1060 rfl (lv_at hl 1 rfl) ?_
    refine lv_iload_n C.1 C.2.1 dl_1061 rfl (lv_at hl 0 rfl) ?_
    refine rl_iconst C dl_1062 ?_
    refine rl_iadd C dl_1063 ?_
    refine rl_sld C hp (i := i) (k := 2) rfl (by omega) dl_1064 ?_
    refine lv_aload_n C.1 C.2.1 dl_1065 rfl (lv_at hl 1 rfl) ?_
    refine lv_iload_n C.1 C.2.1 dl_1066 rfl (lv_at hl 0 rfl) ?_
    refine rl_iconst C dl_1067 ?_
    refine rl_iadd C dl_1068 ?_
    refine rl_sld C hp (i := i) (k := 3) rfl (by omega) dl_1069 ?_
    refine rl_ifz (tgt := 1077) C hz3 dl_1070 (by decide) ?_
    refine rl_iconst C dl_1077 ?_
    refine rl_callmL (As := [.int (gI (xs (i + 1)).toInt), .int (gI (xs (i + 2)).toInt), .int (gI 0)]) (rest := [.long (gJ r)]) C hl.1 hp (c_X9_odds l C.2.2.2.2.2.2.2.2.2.2.2.2.1 hcm) gw_1799 gw_1800 gw_1801 ms_0 mc_0 cal_X9_odds rfl rfl (Nat.le_of_ble_eq_true rfl) ⟨Nat.le_of_ble_eq_true rfl, Nat.le_of_ble_eq_true rfl⟩ hcs dl_1078 (fun H locs hp => ?_)
    refine rl_lcmp0 (tgt := 1590) C heq dl_1081 dl_1082 (by decide) ?_
    exact kk Mx' Mm' H locs hp hrel
  · obtain ⟨r, r', Mx', Mm', hcx, hcm, heq, hrel⟩ := hst n Mx Mm hr hn (xs (i + 1)).toInt (xs (i + 2)).toInt 1 (g_rng _) (g_rng _) (by decide)
    refine lv_aload_n C.1 C.2.1 dl_1027 rfl (lv_at hl 2 rfl) ?_
    refine lv_aload_n C.1 C.2.1 dl_1028 rfl (lv_at hl 1 rfl) ?_
    refine lv_iload_n C.1 C.2.1 dl_1029 rfl (lv_at hl 0 rfl) ?_
    refine rl_iconst C dl_1030 ?_
    refine rl_iadd C dl_1031 ?_
    refine rl_sld C hp (i := i) (k := 1) rfl (by omega) dl_1032 ?_
    refine lv_aload_n C.1 C.2.1 dl_1033 rfl (lv_at hl 1 rfl) ?_
    refine lv_iload_n C.1 C.2.1 dl_1034 rfl (lv_at hl 0 rfl) ?_
    refine rl_iconst C dl_1035 ?_
    refine rl_iadd C dl_1036 ?_
    refine rl_sld C hp (i := i) (k := 2) rfl (by omega) dl_1037 ?_
    refine lv_aload_n C.1 C.2.1 dl_1038 rfl (lv_at hl 1 rfl) ?_
    refine lv_iload_n C.1 C.2.1 dl_1039 rfl (lv_at hl 0 rfl) ?_
    refine rl_iconst C dl_1040 ?_
    refine rl_iadd C dl_1041 ?_
    refine rl_sld C hp (i := i) (k := 3) rfl (by omega) dl_1042 ?_
    refine rl_ifnz (tgt := 1050) C hz3 dl_1043 (by decide) ?_
    refine rl_iconst C dl_1046 ?_
    refine rl_goto (tgt := 1051) C dl_1047 (by decide) ?_
    refine rl_callxL (As := [.int (gI (xs (i + 1)).toInt), .int (gI (xs (i + 2)).toInt), .int (gI 1)]) (rest := []) C hl.1 hp (c_X8_odds l C.2.2.2.2.2.2.2.2.2.2.2.1 hcx) gw_1039 gw_1040 gw_1041 xs_0 xc_8 cal_X8_odds rfl rfl (Nat.le_of_ble_eq_true rfl) ⟨Nat.le_of_ble_eq_true rfl, Nat.le_of_ble_eq_true rfl⟩ hcs dl_1051 (fun H locs hp => ?_)
    refine lv_aload_n C.1 C.2.1 dl_1054 rfl (lv_at hl 3 rfl) ?_
    refine lv_aload_n C.1 C.2.1 dl_1055 rfl (lv_at hl 1 rfl) ?_
    refine lv_iload_n C.1 C.2.1 dl_1056 rfl (lv_at hl 0 rfl) ?_
    refine rl_iconst C dl_1057 ?_
    refine rl_iadd C dl_1058 ?_
    refine rl_sld C hp (i := i) (k := 1) rfl (by omega) dl_1059 ?_
    refine lv_aload_n C.1 C.2.1 dl_1060 rfl (lv_at hl 1 rfl) ?_
    refine lv_iload_n C.1 C.2.1 dl_1061 rfl (lv_at hl 0 rfl) ?_
    refine rl_iconst C dl_1062 ?_
    refine rl_iadd C dl_1063 ?_
    refine rl_sld C hp (i := i) (k := 2) rfl (by omega) dl_1064 ?_
    refine lv_aload_n C.1 C.2.1 dl_1065 rfl (lv_at hl 1 rfl) ?_
    refine lv_iload_n C.1 C.2.1 dl_1066 rfl (lv_at hl 0 rfl) ?_
    refine rl_iconst C dl_1067 ?_
    refine rl_iadd C dl_1068 ?_
    refine rl_sld C hp (i := i) (k := 3) rfl (by omega) dl_1069 ?_
    refine rl_ifnz (tgt := 1077) C hz3 dl_1070 (by decide) ?_
    refine rl_iconst C dl_1073 ?_
    refine rl_goto (tgt := 1078) C dl_1074 (by decide) ?_
    refine rl_callmL (As := [.int (gI (xs (i + 1)).toInt), .int (gI (xs (i + 2)).toInt), .int (gI 1)]) (rest := [.long (gJ r)]) C hl.1 hp (c_X9_odds l C.2.2.2.2.2.2.2.2.2.2.2.2.1 hcm) gw_1799 gw_1800 gw_1801 ms_0 mc_0 cal_X9_odds rfl rfl (Nat.le_of_ble_eq_true rfl) ⟨Nat.le_of_ble_eq_true rfl, Nat.le_of_ble_eq_true rfl⟩ hcs dl_1078 (fun H locs hp => ?_)
    refine rl_lcmp0 (tgt := 1590) C heq dl_1081 dl_1082 (by decide) ?_
    exact kk Mx' Mm' H locs hp hrel
set_option maxRecDepth 100000 in
set_option maxHeartbeats 4000000 in
theorem l_case_26 (C : l_CX Vx Vm p s m meth c b L xs) (hcs : cells ≤ 600000 ∧ slots ≤ 7302250) {Rel : Nat → g_M → g_M → Prop} (hst : x_step_26 Rel) {i n : Nat} (hi : i + 6 ≤ L) (hn : n < 512) (hr : Rel n Mx Mm) (hp : l_PT Vx Vm Mx Mm s H locs) (hl : lv_has ls 4 [(3, .int (gI (i : Int))), (0, .ref b), (1, .ref (Vx.2.2 0)), (2, .ref (Vm.2.2 0))]) (kk : ∀ (Mx' Mm' : g_M) (H : Heap) (locs : List Loc), l_PT Vx Vm Mx' Mm' s H locs → Rel (n + 1) Mx' Mm' → W p l e room_1 s m #[Value.ref b] below meth c H locs cells slots Q (F0 m 1590 ls [])) : W p l e room_1 s m #[Value.ref b] below meth c H locs cells slots Q (F0 m 1087 ls []) := by
  obtain ⟨r, r', Mx', Mm', hcx, hcm, heq, hrel⟩ := hst n Mx Mm hr hn (xs (i + 1)).toInt (xs (i + 2)).toInt (xs (i + 3)).toInt (xs (i + 4)).toInt (g_rng _) (g_rng _) (g_rng _) (g_rng _)
  refine lv_aload_n C.1 C.2.1 dl_1087 rfl (lv_at hl 2 rfl) ?_
  refine lv_aload_n C.1 C.2.1 dl_1088 rfl (lv_at hl 1 rfl) ?_
  refine lv_iload_n C.1 C.2.1 dl_1089 rfl (lv_at hl 0 rfl) ?_
  refine rl_iconst C dl_1090 ?_
  refine rl_iadd C dl_1091 ?_
  refine rl_sld C hp (i := i) (k := 1) rfl (by omega) dl_1092 ?_
  refine lv_aload_n C.1 C.2.1 dl_1093 rfl (lv_at hl 1 rfl) ?_
  refine lv_iload_n C.1 C.2.1 dl_1094 rfl (lv_at hl 0 rfl) ?_
  refine rl_iconst C dl_1095 ?_
  refine rl_iadd C dl_1096 ?_
  refine rl_sld C hp (i := i) (k := 2) rfl (by omega) dl_1097 ?_
  refine lv_aload_n C.1 C.2.1 dl_1098 rfl (lv_at hl 1 rfl) ?_
  refine lv_iload_n C.1 C.2.1 dl_1099 rfl (lv_at hl 0 rfl) ?_
  refine rl_iconst C dl_1100 ?_
  refine rl_iadd C dl_1101 ?_
  refine rl_sld C hp (i := i) (k := 3) rfl (by omega) dl_1102 ?_
  refine lv_aload_n C.1 C.2.1 dl_1103 rfl (lv_at hl 1 rfl) ?_
  refine lv_iload_n C.1 C.2.1 dl_1104 rfl (lv_at hl 0 rfl) ?_
  refine rl_iconst C dl_1105 ?_
  refine rl_iadd C dl_1106 ?_
  refine rl_sld C hp (i := i) (k := 4) rfl (by omega) dl_1107 ?_
  refine rl_callxI (As := [.int (gI (xs (i + 1)).toInt), .int (gI (xs (i + 2)).toInt), .int (gI (xs (i + 3)).toInt), .int (gI (xs (i + 4)).toInt)]) (rest := []) C hl.1 hp (c_X8_weigh l C.2.2.2.2.2.2.2.2.2.2.2.1 hcx) gw_1058 gw_1059 gw_1060 xs_0 xc_8 cal_X8_weigh rfl rfl (Nat.le_of_ble_eq_true rfl) ⟨Nat.le_of_ble_eq_true rfl, Nat.le_of_ble_eq_true rfl⟩ hcs dl_1108 (fun H locs hp => ?_)
  refine lv_aload_n C.1 C.2.1 dl_1111 rfl (lv_at hl 3 rfl) ?_
  refine lv_aload_n C.1 C.2.1 dl_1112 rfl (lv_at hl 1 rfl) ?_
  refine lv_iload_n C.1 C.2.1 dl_1113 rfl (lv_at hl 0 rfl) ?_
  refine rl_iconst C dl_1114 ?_
  refine rl_iadd C dl_1115 ?_
  refine rl_sld C hp (i := i) (k := 1) rfl (by omega) dl_1116 ?_
  refine lv_aload_n C.1 C.2.1 dl_1117 rfl (lv_at hl 1 rfl) ?_
  refine lv_iload_n C.1 C.2.1 dl_1118 rfl (lv_at hl 0 rfl) ?_
  refine rl_iconst C dl_1119 ?_
  refine rl_iadd C dl_1120 ?_
  refine rl_sld C hp (i := i) (k := 2) rfl (by omega) dl_1121 ?_
  refine lv_aload_n C.1 C.2.1 dl_1122 rfl (lv_at hl 1 rfl) ?_
  refine lv_iload_n C.1 C.2.1 dl_1123 rfl (lv_at hl 0 rfl) ?_
  refine rl_iconst C dl_1124 ?_
  refine rl_iadd C dl_1125 ?_
  refine rl_sld C hp (i := i) (k := 3) rfl (by omega) dl_1126 ?_
  refine lv_aload_n C.1 C.2.1 dl_1127 rfl (lv_at hl 1 rfl) ?_
  refine lv_iload_n C.1 C.2.1 dl_1128 rfl (lv_at hl 0 rfl) ?_
  refine rl_iconst C dl_1129 ?_
  refine rl_iadd C dl_1130 ?_
  refine rl_sld C hp (i := i) (k := 4) rfl (by omega) dl_1131 ?_
  refine rl_callmI (As := [.int (gI (xs (i + 1)).toInt), .int (gI (xs (i + 2)).toInt), .int (gI (xs (i + 3)).toInt), .int (gI (xs (i + 4)).toInt)]) (rest := [.int (gI r)]) C hl.1 hp (c_X9_weigh l C.2.2.2.2.2.2.2.2.2.2.2.2.1 hcm) gw_1816 gw_1817 gw_1818 ms_0 mc_0 cal_X9_weigh rfl rfl (Nat.le_of_ble_eq_true rfl) ⟨Nat.le_of_ble_eq_true rfl, Nat.le_of_ble_eq_true rfl⟩ hcs dl_1132 (fun H locs hp => ?_)
  refine rl_icmp_eq (tgt := 1590) C heq dl_1135 (by decide) ?_
  exact kk Mx' Mm' H locs hp hrel
set_option maxRecDepth 100000 in
set_option maxHeartbeats 4000000 in
theorem l_case_27 (C : l_CX Vx Vm p s m meth c b L xs) (hcs : cells ≤ 600000 ∧ slots ≤ 7302250) {Rel : Nat → g_M → g_M → Prop} (hst : x_step_27 Rel) {i n : Nat} (hi : i + 6 ≤ L) (hn : n < 512) (hr : Rel n Mx Mm) (hp : l_PT Vx Vm Mx Mm s H locs) (hl : lv_has ls 4 [(3, .int (gI (i : Int))), (0, .ref b), (1, .ref (Vx.2.2 0)), (2, .ref (Vm.2.2 0))]) (kk : ∀ (Mx' Mm' : g_M) (H : Heap) (locs : List Loc), l_PT Vx Vm Mx' Mm' s H locs → Rel (n + 1) Mx' Mm' → W p l e room_1 s m #[Value.ref b] below meth c H locs cells slots Q (F0 m 1590 ls [])) : W p l e room_1 s m #[Value.ref b] below meth c H locs cells slots Q (F0 m 1140 ls []) := by
  obtain ⟨r, r', Mx', Mm', hcx, hcm, heq, hrel⟩ := hst n Mx Mm hr hn (xs (i + 1)).toInt (g_rng _)
  refine lv_aload_n C.1 C.2.1 dl_1140 rfl (lv_at hl 2 rfl) ?_
  refine lv_aload_n C.1 C.2.1 dl_1141 rfl (lv_at hl 1 rfl) ?_
  refine lv_iload_n C.1 C.2.1 dl_1142 rfl (lv_at hl 0 rfl) ?_
  refine rl_iconst C dl_1143 ?_
  refine rl_iadd C dl_1144 ?_
  refine rl_sld C hp (i := i) (k := 1) rfl (by omega) dl_1145 ?_
  refine rl_callxI (As := [.int (gI (xs (i + 1)).toInt)]) (rest := []) C hl.1 hp (c_X8_kinds l C.2.2.2.2.2.2.2.2.2.2.2.1 hcx) gw_1062 gw_1063 gw_1064 xs_0 xc_8 cal_X8_kinds rfl rfl (Nat.le_of_ble_eq_true rfl) ⟨Nat.le_of_ble_eq_true rfl, Nat.le_of_ble_eq_true rfl⟩ hcs dl_1146 (fun H locs hp => ?_)
  refine lv_aload_n C.1 C.2.1 dl_1149 rfl (lv_at hl 3 rfl) ?_
  refine lv_aload_n C.1 C.2.1 dl_1150 rfl (lv_at hl 1 rfl) ?_
  refine lv_iload_n C.1 C.2.1 dl_1151 rfl (lv_at hl 0 rfl) ?_
  refine rl_iconst C dl_1152 ?_
  refine rl_iadd C dl_1153 ?_
  refine rl_sld C hp (i := i) (k := 1) rfl (by omega) dl_1154 ?_
  refine rl_callmI (As := [.int (gI (xs (i + 1)).toInt)]) (rest := [.int (gI r)]) C hl.1 hp (c_X9_kinds l C.2.2.2.2.2.2.2.2.2.2.2.2.1 hcm) gw_1824 gw_1825 gw_1826 ms_0 mc_0 cal_X9_kinds rfl rfl (Nat.le_of_ble_eq_true rfl) ⟨Nat.le_of_ble_eq_true rfl, Nat.le_of_ble_eq_true rfl⟩ hcs dl_1155 (fun H locs hp => ?_)
  refine rl_icmp_eq (tgt := 1590) C heq dl_1158 (by decide) ?_
  exact kk Mx' Mm' H locs hp hrel
set_option maxRecDepth 100000 in
set_option maxHeartbeats 4000000 in
theorem l_case_28 (C : l_CX Vx Vm p s m meth c b L xs) (hcs : cells ≤ 600000 ∧ slots ≤ 7302250) {Rel : Nat → g_M → g_M → Prop} (hst : x_step_28 Rel) {i n : Nat} (hi : i + 6 ≤ L) (hn : n < 512) (hr : Rel n Mx Mm) (hp : l_PT Vx Vm Mx Mm s H locs) (hl : lv_has ls 4 [(3, .int (gI (i : Int))), (0, .ref b), (1, .ref (Vx.2.2 0)), (2, .ref (Vm.2.2 0))]) (kk : ∀ (Mx' Mm' : g_M) (H : Heap) (locs : List Loc), l_PT Vx Vm Mx' Mm' s H locs → Rel (n + 1) Mx' Mm' → W p l e room_1 s m #[Value.ref b] below meth c H locs cells slots Q (F0 m 1590 ls [])) : W p l e room_1 s m #[Value.ref b] below meth c H locs cells slots Q (F0 m 1163 ls []) := by
  obtain ⟨r, r', Mx', Mm', hcx, hcm, heq, hrel⟩ := hst n Mx Mm hr hn (xs (i + 1)).toInt (xs (i + 2)).toInt (g_rng _) (g_rng _)
  refine lv_aload_n C.1 C.2.1 dl_1163 rfl (lv_at hl 2 rfl) ?_
  refine lv_aload_n C.1 C.2.1 dl_1164 rfl (lv_at hl 1 rfl) ?_
  refine lv_iload_n C.1 C.2.1 dl_1165 rfl (lv_at hl 0 rfl) ?_
  refine rl_iconst C dl_1166 ?_
  refine rl_iadd C dl_1167 ?_
  refine rl_sld C hp (i := i) (k := 1) rfl (by omega) dl_1168 ?_
  refine lv_aload_n C.1 C.2.1 dl_1169 rfl (lv_at hl 1 rfl) ?_
  refine lv_iload_n C.1 C.2.1 dl_1170 rfl (lv_at hl 0 rfl) ?_
  refine rl_iconst C dl_1171 ?_
  refine rl_iadd C dl_1172 ?_
  refine rl_sld C hp (i := i) (k := 2) rfl (by omega) dl_1173 ?_
  refine rl_callxI (As := [.int (gI (xs (i + 1)).toInt), .int (gI (xs (i + 2)).toInt)]) (rest := []) C hl.1 hp (c_X8_parts l C.2.2.2.2.2.2.2.2.2.2.2.1 hcx) gw_1082 gw_1083 gw_1084 xs_0 xc_8 cal_X8_parts rfl rfl (Nat.le_of_ble_eq_true rfl) ⟨Nat.le_of_ble_eq_true rfl, Nat.le_of_ble_eq_true rfl⟩ hcs dl_1174 (fun H locs hp => ?_)
  refine lv_aload_n C.1 C.2.1 dl_1177 rfl (lv_at hl 3 rfl) ?_
  refine lv_aload_n C.1 C.2.1 dl_1178 rfl (lv_at hl 1 rfl) ?_
  refine lv_iload_n C.1 C.2.1 dl_1179 rfl (lv_at hl 0 rfl) ?_
  refine rl_iconst C dl_1180 ?_
  refine rl_iadd C dl_1181 ?_
  refine rl_sld C hp (i := i) (k := 1) rfl (by omega) dl_1182 ?_
  refine lv_aload_n C.1 C.2.1 dl_1183 rfl (lv_at hl 1 rfl) ?_
  refine lv_iload_n C.1 C.2.1 dl_1184 rfl (lv_at hl 0 rfl) ?_
  refine rl_iconst C dl_1185 ?_
  refine rl_iadd C dl_1186 ?_
  refine rl_sld C hp (i := i) (k := 2) rfl (by omega) dl_1187 ?_
  refine rl_callmI (As := [.int (gI (xs (i + 1)).toInt), .int (gI (xs (i + 2)).toInt)]) (rest := [.int (gI r)]) C hl.1 hp (c_X9_parts l C.2.2.2.2.2.2.2.2.2.2.2.2.1 hcm) gw_1844 gw_1845 gw_1846 ms_0 mc_0 cal_X9_parts rfl rfl (Nat.le_of_ble_eq_true rfl) ⟨Nat.le_of_ble_eq_true rfl, Nat.le_of_ble_eq_true rfl⟩ hcs dl_1188 (fun H locs hp => ?_)
  refine rl_icmp_eq (tgt := 1590) C heq dl_1191 (by decide) ?_
  exact kk Mx' Mm' H locs hp hrel
set_option maxRecDepth 100000 in
set_option maxHeartbeats 4000000 in
theorem l_case_29 (C : l_CX Vx Vm p s m meth c b L xs) (hcs : cells ≤ 600000 ∧ slots ≤ 7302250) {Rel : Nat → g_M → g_M → Prop} (hst : x_step_29 Rel) {i n : Nat} (hi : i + 6 ≤ L) (hn : n < 512) (hr : Rel n Mx Mm) (hp : l_PT Vx Vm Mx Mm s H locs) (hl : lv_has ls 4 [(3, .int (gI (i : Int))), (0, .ref b), (1, .ref (Vx.2.2 0)), (2, .ref (Vm.2.2 0))]) (kk : ∀ (Mx' Mm' : g_M) (H : Heap) (locs : List Loc), l_PT Vx Vm Mx' Mm' s H locs → Rel (n + 1) Mx' Mm' → W p l e room_1 s m #[Value.ref b] below meth c H locs cells slots Q (F0 m 1590 ls [])) : W p l e room_1 s m #[Value.ref b] below meth c H locs cells slots Q (F0 m 1196 ls []) := by
  obtain ⟨r, r', Mx', Mm', hcx, hcm, heq, hrel⟩ := hst n Mx Mm hr hn (xs (i + 1)).toInt (g_rng _)
  refine lv_aload_n C.1 C.2.1 dl_1196 rfl (lv_at hl 2 rfl) ?_
  refine lv_aload_n C.1 C.2.1 dl_1197 rfl (lv_at hl 1 rfl) ?_
  refine lv_iload_n C.1 C.2.1 dl_1198 rfl (lv_at hl 0 rfl) ?_
  refine rl_iconst C dl_1199 ?_
  refine rl_iadd C dl_1200 ?_
  refine rl_sld C hp (i := i) (k := 1) rfl (by omega) dl_1201 ?_
  refine rl_callxI (As := [.int (gI (xs (i + 1)).toInt)]) (rest := []) C hl.1 hp (c_X8_round l C.2.2.2.2.2.2.2.2.2.2.2.1 hcx) gw_1090 gw_1091 gw_1092 xs_0 xc_8 cal_X8_round rfl rfl (Nat.le_of_ble_eq_true rfl) ⟨Nat.le_of_ble_eq_true rfl, Nat.le_of_ble_eq_true rfl⟩ hcs dl_1202 (fun H locs hp => ?_)
  refine lv_aload_n C.1 C.2.1 dl_1205 rfl (lv_at hl 3 rfl) ?_
  refine lv_aload_n C.1 C.2.1 dl_1206 rfl (lv_at hl 1 rfl) ?_
  refine lv_iload_n C.1 C.2.1 dl_1207 rfl (lv_at hl 0 rfl) ?_
  refine rl_iconst C dl_1208 ?_
  refine rl_iadd C dl_1209 ?_
  refine rl_sld C hp (i := i) (k := 1) rfl (by omega) dl_1210 ?_
  refine rl_callmI (As := [.int (gI (xs (i + 1)).toInt)]) (rest := [.int (gI r)]) C hl.1 hp (c_X9_round l C.2.2.2.2.2.2.2.2.2.2.2.2.1 hcm) gw_1848 gw_1849 gw_1850 ms_0 mc_0 cal_X9_round rfl rfl (Nat.le_of_ble_eq_true rfl) ⟨Nat.le_of_ble_eq_true rfl, Nat.le_of_ble_eq_true rfl⟩ hcs dl_1211 (fun H locs hp => ?_)
  refine rl_icmp_eq (tgt := 1590) C heq dl_1214 (by decide) ?_
  exact kk Mx' Mm' H locs hp hrel
set_option maxRecDepth 100000 in
set_option maxHeartbeats 4000000 in
theorem l_case_30 (C : l_CX Vx Vm p s m meth c b L xs) (hcs : cells ≤ 600000 ∧ slots ≤ 7302250) {Rel : Nat → g_M → g_M → Prop} (hst : x_step_30 Rel) {i n : Nat} (hi : i + 6 ≤ L) (hn : n < 512) (hr : Rel n Mx Mm) (hp : l_PT Vx Vm Mx Mm s H locs) (hl : lv_has ls 4 [(3, .int (gI (i : Int))), (0, .ref b), (1, .ref (Vx.2.2 0)), (2, .ref (Vm.2.2 0))]) (kk : ∀ (Mx' Mm' : g_M) (H : Heap) (locs : List Loc), l_PT Vx Vm Mx' Mm' s H locs → Rel (n + 1) Mx' Mm' → W p l e room_1 s m #[Value.ref b] below meth c H locs cells slots Q (F0 m 1590 ls [])) : W p l e room_1 s m #[Value.ref b] below meth c H locs cells slots Q (F0 m 1219 ls []) := by
  obtain ⟨r, r', Mx', Mm', hcx, hcm, heq, hrel⟩ := hst n Mx Mm hr hn
  refine lv_aload_n C.1 C.2.1 dl_1219 rfl (lv_at hl 2 rfl) ?_
  refine rl_callxI (As := []) (rest := []) C hl.1 hp (c_X8_dead l C.2.2.2.2.2.2.2.2.2.2.2.1 hcx) gw_1098 gw_1099 gw_1100 xs_0 xc_8 cal_X8_dead rfl rfl (Nat.le_of_ble_eq_true rfl) ⟨Nat.le_of_ble_eq_true rfl, Nat.le_of_ble_eq_true rfl⟩ hcs dl_1220 (fun H locs hp => ?_)
  refine lv_aload_n C.1 C.2.1 dl_1223 rfl (lv_at hl 3 rfl) ?_
  refine rl_callmI (As := []) (rest := [.int (gI r)]) C hl.1 hp (c_X9_dead l C.2.2.2.2.2.2.2.2.2.2.2.2.1 hcm) gw_1852 gw_1853 gw_1854 ms_0 mc_0 cal_X9_dead rfl rfl (Nat.le_of_ble_eq_true rfl) ⟨Nat.le_of_ble_eq_true rfl, Nat.le_of_ble_eq_true rfl⟩ hcs dl_1224 (fun H locs hp => ?_)
  refine rl_icmp_eq (tgt := 1590) C heq dl_1227 (by decide) ?_
  exact kk Mx' Mm' H locs hp hrel
set_option maxRecDepth 100000 in
set_option maxHeartbeats 4000000 in
theorem l_case_31 (C : l_CX Vx Vm p s m meth c b L xs) (hcs : cells ≤ 600000 ∧ slots ≤ 7302250) {Rel : Nat → g_M → g_M → Prop} (hst : x_step_31 Rel) {i n : Nat} (hi : i + 6 ≤ L) (hn : n < 512) (hr : Rel n Mx Mm) (hp : l_PT Vx Vm Mx Mm s H locs) (hl : lv_has ls 4 [(3, .int (gI (i : Int))), (0, .ref b), (1, .ref (Vx.2.2 0)), (2, .ref (Vm.2.2 0))]) (kk : ∀ (Mx' Mm' : g_M) (H : Heap) (locs : List Loc), l_PT Vx Vm Mx' Mm' s H locs → Rel (n + 1) Mx' Mm' → W p l e room_1 s m #[Value.ref b] below meth c H locs cells slots Q (F0 m 1590 ls [])) : W p l e room_1 s m #[Value.ref b] below meth c H locs cells slots Q (F0 m 1232 ls []) := by
  obtain ⟨r, r', Mx', Mm', hcx, hcm, heq, hrel⟩ := hst n Mx Mm hr hn
  refine lv_aload_n C.1 C.2.1 dl_1232 rfl (lv_at hl 2 rfl) ?_
  refine rl_callxI (As := []) (rest := []) C hl.1 hp (c_X8_far l C.2.2.2.2.2.2.2.2.2.2.2.1 hcx) gw_1106 gw_1107 gw_1108 xs_0 xc_8 cal_X8_far rfl rfl (Nat.le_of_ble_eq_true rfl) ⟨Nat.le_of_ble_eq_true rfl, Nat.le_of_ble_eq_true rfl⟩ hcs dl_1233 (fun H locs hp => ?_)
  refine lv_aload_n C.1 C.2.1 dl_1236 rfl (lv_at hl 3 rfl) ?_
  refine rl_callmI (As := []) (rest := [.int (gI r)]) C hl.1 hp (c_X9_far l C.2.2.2.2.2.2.2.2.2.2.2.2.1 hcm) gw_1856 gw_1857 gw_1858 ms_0 mc_0 cal_X9_far rfl rfl (Nat.le_of_ble_eq_true rfl) ⟨Nat.le_of_ble_eq_true rfl, Nat.le_of_ble_eq_true rfl⟩ hcs dl_1237 (fun H locs hp => ?_)
  refine rl_icmp_eq (tgt := 1590) C heq dl_1240 (by decide) ?_
  exact kk Mx' Mm' H locs hp hrel
set_option maxRecDepth 100000 in
set_option maxHeartbeats 4000000 in
theorem l_case_32 (C : l_CX Vx Vm p s m meth c b L xs) (hcs : cells ≤ 600000 ∧ slots ≤ 7302250) {Rel : Nat → g_M → g_M → Prop} (hst : x_step_32 Rel) {i n : Nat} (hi : i + 6 ≤ L) (hn : n < 512) (hr : Rel n Mx Mm) (hp : l_PT Vx Vm Mx Mm s H locs) (hl : lv_has ls 4 [(3, .int (gI (i : Int))), (0, .ref b), (1, .ref (Vx.2.2 0)), (2, .ref (Vm.2.2 0))]) (kk : ∀ (Mx' Mm' : g_M) (H : Heap) (locs : List Loc), l_PT Vx Vm Mx' Mm' s H locs → Rel (n + 1) Mx' Mm' → W p l e room_1 s m #[Value.ref b] below meth c H locs cells slots Q (F0 m 1590 ls [])) : W p l e room_1 s m #[Value.ref b] below meth c H locs cells slots Q (F0 m 1245 ls []) := by
  obtain ⟨r, r', Mx', Mm', hcx, hcm, heq, hrel⟩ := hst n Mx Mm hr hn (xs (i + 1)).toInt (g_rng _)
  refine lv_aload_n C.1 C.2.1 dl_1245 rfl (lv_at hl 2 rfl) ?_
  refine lv_aload_n C.1 C.2.1 dl_1246 rfl (lv_at hl 1 rfl) ?_
  refine lv_iload_n C.1 C.2.1 dl_1247 rfl (lv_at hl 0 rfl) ?_
  refine rl_iconst C dl_1248 ?_
  refine rl_iadd C dl_1249 ?_
  refine rl_sld C hp (i := i) (k := 1) rfl (by omega) dl_1250 ?_
  refine rl_callxI (As := [.int (gI (xs (i + 1)).toInt)]) (rest := []) C hl.1 hp (c_X8_look l C.2.2.2.2.2.2.2.2.2.2.2.1 hcx) gw_1114 gw_1115 gw_1116 xs_0 xc_8 cal_X8_look rfl rfl (Nat.le_of_ble_eq_true rfl) ⟨Nat.le_of_ble_eq_true rfl, Nat.le_of_ble_eq_true rfl⟩ hcs dl_1251 (fun H locs hp => ?_)
  refine lv_aload_n C.1 C.2.1 dl_1254 rfl (lv_at hl 3 rfl) ?_
  refine lv_aload_n C.1 C.2.1 dl_1255 rfl (lv_at hl 1 rfl) ?_
  refine lv_iload_n C.1 C.2.1 dl_1256 rfl (lv_at hl 0 rfl) ?_
  refine rl_iconst C dl_1257 ?_
  refine rl_iadd C dl_1258 ?_
  refine rl_sld C hp (i := i) (k := 1) rfl (by omega) dl_1259 ?_
  refine rl_callmI (As := [.int (gI (xs (i + 1)).toInt)]) (rest := [.int (gI r)]) C hl.1 hp (c_X9_look l C.2.2.2.2.2.2.2.2.2.2.2.2.1 hcm) gw_1860 gw_1861 gw_1862 ms_0 mc_0 cal_X9_look rfl rfl (Nat.le_of_ble_eq_true rfl) ⟨Nat.le_of_ble_eq_true rfl, Nat.le_of_ble_eq_true rfl⟩ hcs dl_1260 (fun H locs hp => ?_)
  refine rl_icmp_eq (tgt := 1590) C heq dl_1263 (by decide) ?_
  exact kk Mx' Mm' H locs hp hrel
set_option maxRecDepth 100000 in
set_option maxHeartbeats 4000000 in
theorem l_case_33 (C : l_CX Vx Vm p s m meth c b L xs) (hcs : cells ≤ 600000 ∧ slots ≤ 7302250) {Rel : Nat → g_M → g_M → Prop} (hst : x_step_33 Rel) {i n : Nat} (hi : i + 6 ≤ L) (hn : n < 512) (hr : Rel n Mx Mm) (hp : l_PT Vx Vm Mx Mm s H locs) (hl : lv_has ls 4 [(3, .int (gI (i : Int))), (0, .ref b), (1, .ref (Vx.2.2 0)), (2, .ref (Vm.2.2 0))]) (kk : ∀ (Mx' Mm' : g_M) (H : Heap) (locs : List Loc), l_PT Vx Vm Mx' Mm' s H locs → Rel (n + 1) Mx' Mm' → W p l e room_1 s m #[Value.ref b] below meth c H locs cells slots Q (F0 m 1590 ls [])) : W p l e room_1 s m #[Value.ref b] below meth c H locs cells slots Q (F0 m 1268 ls []) := by
  obtain ⟨r, r', Mx', Mm', hcx, hcm, heq, hrel⟩ := hst n Mx Mm hr hn
  rw [hcx.2] at hrel
  rw [hcm.2] at hrel
  refine lv_aload_n C.1 C.2.1 dl_1268 rfl (lv_at hl 2 rfl) ?_
  refine rl_callxI (As := []) (rest := []) C hl.1 hp (c_X8_sure l C.2.2.2.2.2.2.2.2.2.2.2.1 hcx.1) gw_1127 gw_1128 gw_1129 xs_0 xc_8 cal_X8_sure rfl rfl (Nat.le_of_ble_eq_true rfl) ⟨Nat.le_of_ble_eq_true rfl, Nat.le_of_ble_eq_true rfl⟩ hcs dl_1269 (fun H locs hp => ?_)
  refine lv_aload_n C.1 C.2.1 dl_1272 rfl (lv_at hl 3 rfl) ?_
  refine rl_callmI (As := []) (rest := [.int (gI r)]) C hl.1 hp (c_X9_sure l C.2.2.2.2.2.2.2.2.2.2.2.2.1 hcm.1) gw_1864 gw_1865 gw_1866 ms_0 mc_0 cal_X9_sure rfl rfl (Nat.le_of_ble_eq_true rfl) ⟨Nat.le_of_ble_eq_true rfl, Nat.le_of_ble_eq_true rfl⟩ hcs dl_1273 (fun H locs hp => ?_)
  refine rl_icmp_eq (tgt := 1590) C heq dl_1276 (by decide) ?_
  exact kk Mx Mm H locs hp hrel
set_option maxRecDepth 100000 in
set_option maxHeartbeats 4000000 in
theorem l_case_34 (C : l_CX Vx Vm p s m meth c b L xs) (hcs : cells ≤ 600000 ∧ slots ≤ 7302250) {Rel : Nat → g_M → g_M → Prop} (hst : x_step_34 Rel) {i n : Nat} (hi : i + 6 ≤ L) (hn : n < 512) (hr : Rel n Mx Mm) (hp : l_PT Vx Vm Mx Mm s H locs) (hl : lv_has ls 4 [(3, .int (gI (i : Int))), (0, .ref b), (1, .ref (Vx.2.2 0)), (2, .ref (Vm.2.2 0))]) (kk : ∀ (Mx' Mm' : g_M) (H : Heap) (locs : List Loc), l_PT Vx Vm Mx' Mm' s H locs → Rel (n + 1) Mx' Mm' → W p l e room_1 s m #[Value.ref b] below meth c H locs cells slots Q (F0 m 1590 ls [])) : W p l e room_1 s m #[Value.ref b] below meth c H locs cells slots Q (F0 m 1281 ls []) := by
  obtain ⟨r, r', Mx', Mm', hcx, hcm, heq, hrel⟩ := hst n Mx Mm hr hn
  rw [hcx.2] at hrel
  rw [hcm.2] at hrel
  refine lv_aload_n C.1 C.2.1 dl_1281 rfl (lv_at hl 2 rfl) ?_
  refine rl_callxI (As := []) (rest := []) C hl.1 hp (c_X8_tells l C.2.2.2.2.2.2.2.2.2.2.2.1 hcx.1) gw_1135 gw_1136 gw_1137 xs_0 xc_8 cal_X8_tells rfl rfl (Nat.le_of_ble_eq_true rfl) ⟨Nat.le_of_ble_eq_true rfl, Nat.le_of_ble_eq_true rfl⟩ hcs dl_1282 (fun H locs hp => ?_)
  refine lv_aload_n C.1 C.2.1 dl_1285 rfl (lv_at hl 3 rfl) ?_
  refine rl_callmI (As := []) (rest := [.int (gI r)]) C hl.1 hp (c_X9_tells l C.2.2.2.2.2.2.2.2.2.2.2.2.1 hcm.1) gw_1868 gw_1869 gw_1870 ms_0 mc_0 cal_X9_tells rfl rfl (Nat.le_of_ble_eq_true rfl) ⟨Nat.le_of_ble_eq_true rfl, Nat.le_of_ble_eq_true rfl⟩ hcs dl_1286 (fun H locs hp => ?_)
  refine rl_icmp_eq (tgt := 1590) C heq dl_1289 (by decide) ?_
  exact kk Mx Mm H locs hp hrel
set_option maxRecDepth 100000 in
set_option maxHeartbeats 4000000 in
theorem l_case_35 (C : l_CX Vx Vm p s m meth c b L xs) (hcs : cells ≤ 600000 ∧ slots ≤ 7302250) {Rel : Nat → g_M → g_M → Prop} (hst : x_step_35 Rel) {i n : Nat} (hi : i + 6 ≤ L) (hn : n < 512) (hr : Rel n Mx Mm) (hp : l_PT Vx Vm Mx Mm s H locs) (hl : lv_has ls 4 [(3, .int (gI (i : Int))), (0, .ref b), (1, .ref (Vx.2.2 0)), (2, .ref (Vm.2.2 0))]) (kk : ∀ (Mx' Mm' : g_M) (H : Heap) (locs : List Loc), l_PT Vx Vm Mx' Mm' s H locs → Rel (n + 1) Mx' Mm' → W p l e room_1 s m #[Value.ref b] below meth c H locs cells slots Q (F0 m 1590 ls [])) : W p l e room_1 s m #[Value.ref b] below meth c H locs cells slots Q (F0 m 1294 ls []) := by
  obtain ⟨r, r', Mx', Mm', hcx, hcm, heq, hrel⟩ := hst n Mx Mm hr hn (xs (i + 1)).toInt (xs (i + 2)).toInt (g_rng _) (g_rng _)
  refine lv_aload_n C.1 C.2.1 dl_1294 rfl (lv_at hl 2 rfl) ?_
  refine lv_aload_n C.1 C.2.1 dl_1295 rfl (lv_at hl 1 rfl) ?_
  refine lv_iload_n C.1 C.2.1 dl_1296 rfl (lv_at hl 0 rfl) ?_
  refine rl_iconst C dl_1297 ?_
  refine rl_iadd C dl_1298 ?_
  refine rl_sld C hp (i := i) (k := 1) rfl (by omega) dl_1299 ?_
  refine lv_aload_n C.1 C.2.1 dl_1300 rfl (lv_at hl 1 rfl) ?_
  refine lv_iload_n C.1 C.2.1 dl_1301 rfl (lv_at hl 0 rfl) ?_
  refine rl_iconst C dl_1302 ?_
  refine rl_iadd C dl_1303 ?_
  refine rl_sld C hp (i := i) (k := 2) rfl (by omega) dl_1304 ?_
  refine rl_callxL (As := [.int (gI (xs (i + 1)).toInt), .int (gI (xs (i + 2)).toInt)]) (rest := []) C hl.1 hp (c_X8_ways l C.2.2.2.2.2.2.2.2.2.2.2.1 hcx) gw_1149 gw_1150 gw_1151 xs_0 xc_8 cal_X8_ways rfl rfl (Nat.le_of_ble_eq_true rfl) ⟨Nat.le_of_ble_eq_true rfl, Nat.le_of_ble_eq_true rfl⟩ hcs dl_1305 (fun H locs hp => ?_)
  refine lv_aload_n C.1 C.2.1 dl_1308 rfl (lv_at hl 3 rfl) ?_
  refine lv_aload_n C.1 C.2.1 dl_1309 rfl (lv_at hl 1 rfl) ?_
  refine lv_iload_n C.1 C.2.1 dl_1310 rfl (lv_at hl 0 rfl) ?_
  refine rl_iconst C dl_1311 ?_
  refine rl_iadd C dl_1312 ?_
  refine rl_sld C hp (i := i) (k := 1) rfl (by omega) dl_1313 ?_
  refine lv_aload_n C.1 C.2.1 dl_1314 rfl (lv_at hl 1 rfl) ?_
  refine lv_iload_n C.1 C.2.1 dl_1315 rfl (lv_at hl 0 rfl) ?_
  refine rl_iconst C dl_1316 ?_
  refine rl_iadd C dl_1317 ?_
  refine rl_sld C hp (i := i) (k := 2) rfl (by omega) dl_1318 ?_
  refine rl_callmL (As := [.int (gI (xs (i + 1)).toInt), .int (gI (xs (i + 2)).toInt)]) (rest := [.long (gJ r)]) C hl.1 hp (c_X9_ways l C.2.2.2.2.2.2.2.2.2.2.2.2.1 hcm) gw_1820 gw_1821 gw_1822 ms_0 mc_0 cal_X9_ways rfl rfl (Nat.le_of_ble_eq_true rfl) ⟨Nat.le_of_ble_eq_true rfl, Nat.le_of_ble_eq_true rfl⟩ hcs dl_1319 (fun H locs hp => ?_)
  refine rl_lcmp0 (tgt := 1590) C heq dl_1322 dl_1323 (by decide) ?_
  exact kk Mx' Mm' H locs hp hrel
set_option maxRecDepth 100000 in
set_option maxHeartbeats 4000000 in
theorem l_case_36 (C : l_CX Vx Vm p s m meth c b L xs) (hcs : cells ≤ 600000 ∧ slots ≤ 7302250) {Rel : Nat → g_M → g_M → Prop} (hst : x_step_36 Rel) {i n : Nat} (hi : i + 6 ≤ L) (hn : n < 512) (hr : Rel n Mx Mm) (hp : l_PT Vx Vm Mx Mm s H locs) (hl : lv_has ls 4 [(3, .int (gI (i : Int))), (0, .ref b), (1, .ref (Vx.2.2 0)), (2, .ref (Vm.2.2 0))]) (kk : ∀ (Mx' Mm' : g_M) (H : Heap) (locs : List Loc), l_PT Vx Vm Mx' Mm' s H locs → Rel (n + 1) Mx' Mm' → W p l e room_1 s m #[Value.ref b] below meth c H locs cells slots Q (F0 m 1590 ls [])) : W p l e room_1 s m #[Value.ref b] below meth c H locs cells slots Q (F0 m 1328 ls []) := by
  obtain ⟨r, r', Mx', Mm', hcx, hcm, heq, hrel⟩ := hst n Mx Mm hr hn (xs (i + 1)).toInt (xs (i + 2)).toInt (xs (i + 3)).toInt (g_rng _) (g_rng _) (g_rng _)
  refine lv_aload_n C.1 C.2.1 dl_1328 rfl (lv_at hl 2 rfl) ?_
  refine lv_aload_n C.1 C.2.1 dl_1329 rfl (lv_at hl 1 rfl) ?_
  refine lv_iload_n C.1 C.2.1 dl_1330 rfl (lv_at hl 0 rfl) ?_
  refine rl_iconst C dl_1331 ?_
  refine rl_iadd C dl_1332 ?_
  refine rl_sld C hp (i := i) (k := 1) rfl (by omega) dl_1333 ?_
  refine lv_aload_n C.1 C.2.1 dl_1334 rfl (lv_at hl 1 rfl) ?_
  refine lv_iload_n C.1 C.2.1 dl_1335 rfl (lv_at hl 0 rfl) ?_
  refine rl_iconst C dl_1336 ?_
  refine rl_iadd C dl_1337 ?_
  refine rl_sld C hp (i := i) (k := 2) rfl (by omega) dl_1338 ?_
  refine lv_aload_n C.1 C.2.1 dl_1339 rfl (lv_at hl 1 rfl) ?_
  refine lv_iload_n C.1 C.2.1 dl_1340 rfl (lv_at hl 0 rfl) ?_
  refine rl_iconst C dl_1341 ?_
  refine rl_iadd C dl_1342 ?_
  refine rl_sld C hp (i := i) (k := 3) rfl (by omega) dl_1343 ?_
  refine rl_callxI (As := [.int (gI (xs (i + 1)).toInt), .int (gI (xs (i + 2)).toInt), .int (gI (xs (i + 3)).toInt)]) (rest := []) C hl.1 hp (c_X8_likes l C.2.2.2.2.2.2.2.2.2.2.2.1 hcx) gw_1157 gw_1158 gw_1159 xs_0 xc_8 cal_X8_likes rfl rfl (Nat.le_of_ble_eq_true rfl) ⟨Nat.le_of_ble_eq_true rfl, Nat.le_of_ble_eq_true rfl⟩ hcs dl_1344 (fun H locs hp => ?_)
  refine lv_aload_n C.1 C.2.1 dl_1347 rfl (lv_at hl 3 rfl) ?_
  refine lv_aload_n C.1 C.2.1 dl_1348 rfl (lv_at hl 1 rfl) ?_
  refine lv_iload_n C.1 C.2.1 dl_1349 rfl (lv_at hl 0 rfl) ?_
  refine rl_iconst C dl_1350 ?_
  refine rl_iadd C dl_1351 ?_
  refine rl_sld C hp (i := i) (k := 1) rfl (by omega) dl_1352 ?_
  refine lv_aload_n C.1 C.2.1 dl_1353 rfl (lv_at hl 1 rfl) ?_
  refine lv_iload_n C.1 C.2.1 dl_1354 rfl (lv_at hl 0 rfl) ?_
  refine rl_iconst C dl_1355 ?_
  refine rl_iadd C dl_1356 ?_
  refine rl_sld C hp (i := i) (k := 2) rfl (by omega) dl_1357 ?_
  refine lv_aload_n C.1 C.2.1 dl_1358 rfl (lv_at hl 1 rfl) ?_
  refine lv_iload_n C.1 C.2.1 dl_1359 rfl (lv_at hl 0 rfl) ?_
  refine rl_iconst C dl_1360 ?_
  refine rl_iadd C dl_1361 ?_
  refine rl_sld C hp (i := i) (k := 3) rfl (by omega) dl_1362 ?_
  refine rl_callmI (As := [.int (gI (xs (i + 1)).toInt), .int (gI (xs (i + 2)).toInt), .int (gI (xs (i + 3)).toInt)]) (rest := [.int (gI r)]) C hl.1 hp (c_X9_likes l C.2.2.2.2.2.2.2.2.2.2.2.2.1 hcm) gw_1872 gw_1873 gw_1874 ms_0 mc_0 cal_X9_likes rfl rfl (Nat.le_of_ble_eq_true rfl) ⟨Nat.le_of_ble_eq_true rfl, Nat.le_of_ble_eq_true rfl⟩ hcs dl_1363 (fun H locs hp => ?_)
  refine rl_icmp_eq (tgt := 1590) C heq dl_1366 (by decide) ?_
  exact kk Mx' Mm' H locs hp hrel
set_option maxRecDepth 100000 in
set_option maxHeartbeats 4000000 in
theorem l_case_37 (C : l_CX Vx Vm p s m meth c b L xs) (hcs : cells ≤ 600000 ∧ slots ≤ 7302250) {Rel : Nat → g_M → g_M → Prop} (hst : x_step_37 Rel) {i n : Nat} (hi : i + 6 ≤ L) (hn : n < 512) (hr : Rel n Mx Mm) (hp : l_PT Vx Vm Mx Mm s H locs) (hl : lv_has ls 4 [(3, .int (gI (i : Int))), (0, .ref b), (1, .ref (Vx.2.2 0)), (2, .ref (Vm.2.2 0))]) (kk : ∀ (Mx' Mm' : g_M) (H : Heap) (locs : List Loc), l_PT Vx Vm Mx' Mm' s H locs → Rel (n + 1) Mx' Mm' → W p l e room_1 s m #[Value.ref b] below meth c H locs cells slots Q (F0 m 1590 ls [])) : W p l e room_1 s m #[Value.ref b] below meth c H locs cells slots Q (F0 m 1371 ls []) := by
  obtain ⟨r, r', Mx', Mm', hcx, hcm, heq, hrel⟩ := hst n Mx Mm hr hn (xs (i + 1)).toInt (xs (i + 2)).toInt (g_rng _) (g_rng _)
  refine lv_aload_n C.1 C.2.1 dl_1371 rfl (lv_at hl 2 rfl) ?_
  refine lv_aload_n C.1 C.2.1 dl_1372 rfl (lv_at hl 1 rfl) ?_
  refine lv_iload_n C.1 C.2.1 dl_1373 rfl (lv_at hl 0 rfl) ?_
  refine rl_iconst C dl_1374 ?_
  refine rl_iadd C dl_1375 ?_
  refine rl_sld C hp (i := i) (k := 1) rfl (by omega) dl_1376 ?_
  refine lv_aload_n C.1 C.2.1 dl_1377 rfl (lv_at hl 1 rfl) ?_
  refine lv_iload_n C.1 C.2.1 dl_1378 rfl (lv_at hl 0 rfl) ?_
  refine rl_iconst C dl_1379 ?_
  refine rl_iadd C dl_1380 ?_
  refine rl_sld C hp (i := i) (k := 2) rfl (by omega) dl_1381 ?_
  refine rl_callxI (As := [.int (gI (xs (i + 1)).toInt), .int (gI (xs (i + 2)).toInt)]) (rest := []) C hl.1 hp (c_X8_roster l C.2.2.2.2.2.2.2.2.2.2.2.1 hcx) gw_1161 gw_1162 gw_1163 xs_0 xc_8 cal_X8_roster rfl rfl (Nat.le_of_ble_eq_true rfl) ⟨Nat.le_of_ble_eq_true rfl, Nat.le_of_ble_eq_true rfl⟩ hcs dl_1382 (fun H locs hp => ?_)
  refine lv_aload_n C.1 C.2.1 dl_1385 rfl (lv_at hl 3 rfl) ?_
  refine lv_aload_n C.1 C.2.1 dl_1386 rfl (lv_at hl 1 rfl) ?_
  refine lv_iload_n C.1 C.2.1 dl_1387 rfl (lv_at hl 0 rfl) ?_
  refine rl_iconst C dl_1388 ?_
  refine rl_iadd C dl_1389 ?_
  refine rl_sld C hp (i := i) (k := 1) rfl (by omega) dl_1390 ?_
  refine lv_aload_n C.1 C.2.1 dl_1391 rfl (lv_at hl 1 rfl) ?_
  refine lv_iload_n C.1 C.2.1 dl_1392 rfl (lv_at hl 0 rfl) ?_
  refine rl_iconst C dl_1393 ?_
  refine rl_iadd C dl_1394 ?_
  refine rl_sld C hp (i := i) (k := 2) rfl (by omega) dl_1395 ?_
  refine rl_callmI (As := [.int (gI (xs (i + 1)).toInt), .int (gI (xs (i + 2)).toInt)]) (rest := [.int (gI r)]) C hl.1 hp (c_X9_roster l C.2.2.2.2.2.2.2.2.2.2.2.2.1 hcm) gw_1876 gw_1877 gw_1878 ms_0 mc_0 cal_X9_roster rfl rfl (Nat.le_of_ble_eq_true rfl) ⟨Nat.le_of_ble_eq_true rfl, Nat.le_of_ble_eq_true rfl⟩ hcs dl_1396 (fun H locs hp => ?_)
  refine rl_icmp_eq (tgt := 1590) C heq dl_1399 (by decide) ?_
  exact kk Mx' Mm' H locs hp hrel
set_option maxRecDepth 100000 in
set_option maxHeartbeats 4000000 in
theorem l_case_38 (C : l_CX Vx Vm p s m meth c b L xs) (hcs : cells ≤ 600000 ∧ slots ≤ 7302250) {Rel : Nat → g_M → g_M → Prop} (hst : x_step_38 Rel) {i n : Nat} (hi : i + 6 ≤ L) (hn : n < 512) (hr : Rel n Mx Mm) (hp : l_PT Vx Vm Mx Mm s H locs) (hl : lv_has ls 4 [(3, .int (gI (i : Int))), (0, .ref b), (1, .ref (Vx.2.2 0)), (2, .ref (Vm.2.2 0))]) (kk : ∀ (Mx' Mm' : g_M) (H : Heap) (locs : List Loc), l_PT Vx Vm Mx' Mm' s H locs → Rel (n + 1) Mx' Mm' → W p l e room_1 s m #[Value.ref b] below meth c H locs cells slots Q (F0 m 1590 ls [])) : W p l e room_1 s m #[Value.ref b] below meth c H locs cells slots Q (F0 m 1404 ls []) := by
  obtain ⟨r, r', Mx', Mm', hcx, hcm, heq, hrel⟩ := hst n Mx Mm hr hn (xs (i + 1)).toInt (xs (i + 2)).toInt (g_rng _) (g_rng _)
  refine lv_aload_n C.1 C.2.1 dl_1404 rfl (lv_at hl 2 rfl) ?_
  refine lv_aload_n C.1 C.2.1 dl_1405 rfl (lv_at hl 1 rfl) ?_
  refine lv_iload_n C.1 C.2.1 dl_1406 rfl (lv_at hl 0 rfl) ?_
  refine rl_iconst C dl_1407 ?_
  refine rl_iadd C dl_1408 ?_
  refine rl_sld C hp (i := i) (k := 1) rfl (by omega) dl_1409 ?_
  refine lv_aload_n C.1 C.2.1 dl_1410 rfl (lv_at hl 1 rfl) ?_
  refine lv_iload_n C.1 C.2.1 dl_1411 rfl (lv_at hl 0 rfl) ?_
  refine rl_iconst C dl_1412 ?_
  refine rl_iadd C dl_1413 ?_
  refine rl_sld C hp (i := i) (k := 2) rfl (by omega) dl_1414 ?_
  refine rl_callxI (As := [.int (gI (xs (i + 1)).toInt), .int (gI (xs (i + 2)).toInt)]) (rest := []) C hl.1 hp (c_X8_felt l C.2.2.2.2.2.2.2.2.2.2.2.1 hcx) gw_1197 gw_1198 gw_1199 xs_0 xc_8 cal_X8_felt rfl rfl (Nat.le_of_ble_eq_true rfl) ⟨Nat.le_of_ble_eq_true rfl, Nat.le_of_ble_eq_true rfl⟩ hcs dl_1415 (fun H locs hp => ?_)
  refine lv_aload_n C.1 C.2.1 dl_1418 rfl (lv_at hl 3 rfl) ?_
  refine lv_aload_n C.1 C.2.1 dl_1419 rfl (lv_at hl 1 rfl) ?_
  refine lv_iload_n C.1 C.2.1 dl_1420 rfl (lv_at hl 0 rfl) ?_
  refine rl_iconst C dl_1421 ?_
  refine rl_iadd C dl_1422 ?_
  refine rl_sld C hp (i := i) (k := 1) rfl (by omega) dl_1423 ?_
  refine lv_aload_n C.1 C.2.1 dl_1424 rfl (lv_at hl 1 rfl) ?_
  refine lv_iload_n C.1 C.2.1 dl_1425 rfl (lv_at hl 0 rfl) ?_
  refine rl_iconst C dl_1426 ?_
  refine rl_iadd C dl_1427 ?_
  refine rl_sld C hp (i := i) (k := 2) rfl (by omega) dl_1428 ?_
  refine rl_callmI (As := [.int (gI (xs (i + 1)).toInt), .int (gI (xs (i + 2)).toInt)]) (rest := [.int (gI r)]) C hl.1 hp (c_X9_felt l C.2.2.2.2.2.2.2.2.2.2.2.2.1 hcm) gw_1888 gw_1889 gw_1890 ms_0 mc_0 cal_X9_felt rfl rfl (Nat.le_of_ble_eq_true rfl) ⟨Nat.le_of_ble_eq_true rfl, Nat.le_of_ble_eq_true rfl⟩ hcs dl_1429 (fun H locs hp => ?_)
  refine rl_icmp_eq (tgt := 1590) C heq dl_1432 (by decide) ?_
  exact kk Mx' Mm' H locs hp hrel
set_option maxRecDepth 100000 in
set_option maxHeartbeats 4000000 in
theorem l_case_39 (C : l_CX Vx Vm p s m meth c b L xs) (hcs : cells ≤ 600000 ∧ slots ≤ 7302250) {Rel : Nat → g_M → g_M → Prop} (hst : x_step_39 Rel) {i n : Nat} (hi : i + 6 ≤ L) (hn : n < 512) (hr : Rel n Mx Mm) (hp : l_PT Vx Vm Mx Mm s H locs) (hl : lv_has ls 4 [(3, .int (gI (i : Int))), (0, .ref b), (1, .ref (Vx.2.2 0)), (2, .ref (Vm.2.2 0))]) (kk : ∀ (Mx' Mm' : g_M) (H : Heap) (locs : List Loc), l_PT Vx Vm Mx' Mm' s H locs → Rel (n + 1) Mx' Mm' → W p l e room_1 s m #[Value.ref b] below meth c H locs cells slots Q (F0 m 1590 ls [])) : W p l e room_1 s m #[Value.ref b] below meth c H locs cells slots Q (F0 m 1437 ls []) := by
  obtain ⟨r, r', Mx', Mm', hcx, hcm, heq, hrel⟩ := hst n Mx Mm hr hn
  refine lv_aload_n C.1 C.2.1 dl_1437 rfl (lv_at hl 2 rfl) ?_
  refine rl_callxI (As := []) (rest := []) C hl.1 hp (c_X8_whose l C.2.2.2.2.2.2.2.2.2.2.2.1 hcx) gw_1201 gw_1202 gw_1203 xs_0 xc_8 cal_X8_whose rfl rfl (Nat.le_of_ble_eq_true rfl) ⟨Nat.le_of_ble_eq_true rfl, Nat.le_of_ble_eq_true rfl⟩ hcs dl_1438 (fun H locs hp => ?_)
  refine lv_aload_n C.1 C.2.1 dl_1441 rfl (lv_at hl 3 rfl) ?_
  refine rl_callmI (As := []) (rest := [.int (gI r)]) C hl.1 hp (c_X9_whose l C.2.2.2.2.2.2.2.2.2.2.2.2.1 hcm) gw_1892 gw_1893 gw_1894 ms_0 mc_0 cal_X9_whose rfl rfl (Nat.le_of_ble_eq_true rfl) ⟨Nat.le_of_ble_eq_true rfl, Nat.le_of_ble_eq_true rfl⟩ hcs dl_1442 (fun H locs hp => ?_)
  refine rl_icmp_eq (tgt := 1590) C heq dl_1445 (by decide) ?_
  exact kk Mx' Mm' H locs hp hrel
set_option maxRecDepth 100000 in
set_option maxHeartbeats 4000000 in
theorem l_case_40 (C : l_CX Vx Vm p s m meth c b L xs) (hcs : cells ≤ 600000 ∧ slots ≤ 7302250) {Rel : Nat → g_M → g_M → Prop} (hst : x_step_40 Rel) {i n : Nat} (hi : i + 6 ≤ L) (hn : n < 512) (hr : Rel n Mx Mm) (hp : l_PT Vx Vm Mx Mm s H locs) (hl : lv_has ls 4 [(3, .int (gI (i : Int))), (0, .ref b), (1, .ref (Vx.2.2 0)), (2, .ref (Vm.2.2 0))]) (kk : ∀ (Mx' Mm' : g_M) (H : Heap) (locs : List Loc), l_PT Vx Vm Mx' Mm' s H locs → Rel (n + 1) Mx' Mm' → W p l e room_1 s m #[Value.ref b] below meth c H locs cells slots Q (F0 m 1590 ls [])) : W p l e room_1 s m #[Value.ref b] below meth c H locs cells slots Q (F0 m 1450 ls []) := by
  obtain ⟨r, r', Mx', Mm', hcx, hcm, heq, hrel⟩ := hst n Mx Mm hr hn
  rw [hcx.2] at hrel
  rw [hcm.2] at hrel
  refine lv_aload_n C.1 C.2.1 dl_1450 rfl (lv_at hl 2 rfl) ?_
  refine rl_callxI (As := []) (rest := []) C hl.1 hp (c_X8_gladdest l C.2.2.2.2.2.2.2.2.2.2.2.1 hcx.1) gw_1210 gw_1211 gw_1212 xs_0 xc_8 cal_X8_gladdest rfl rfl (Nat.le_of_ble_eq_true rfl) ⟨Nat.le_of_ble_eq_true rfl, Nat.le_of_ble_eq_true rfl⟩ hcs dl_1451 (fun H locs hp => ?_)
  refine lv_aload_n C.1 C.2.1 dl_1454 rfl (lv_at hl 3 rfl) ?_
  refine rl_callmI (As := []) (rest := [.int (gI r)]) C hl.1 hp (c_X9_gladdest l C.2.2.2.2.2.2.2.2.2.2.2.2.1 hcm.1) gw_1746 gw_1747 gw_1748 ms_0 mc_0 cal_X9_gladdest rfl rfl (Nat.le_of_ble_eq_true rfl) ⟨Nat.le_of_ble_eq_true rfl, Nat.le_of_ble_eq_true rfl⟩ hcs dl_1455 (fun H locs hp => ?_)
  refine rl_icmp_eq (tgt := 1590) C heq dl_1458 (by decide) ?_
  exact kk Mx Mm H locs hp hrel
set_option maxRecDepth 100000 in
set_option maxHeartbeats 4000000 in
theorem l_case_41 (C : l_CX Vx Vm p s m meth c b L xs) (hcs : cells ≤ 600000 ∧ slots ≤ 7302250) {Rel : Nat → g_M → g_M → Prop} (hst : x_step_41 Rel) {i n : Nat} (hi : i + 6 ≤ L) (hn : n < 512) (hr : Rel n Mx Mm) (hp : l_PT Vx Vm Mx Mm s H locs) (hl : lv_has ls 4 [(3, .int (gI (i : Int))), (0, .ref b), (1, .ref (Vx.2.2 0)), (2, .ref (Vm.2.2 0))]) (kk : ∀ (Mx' Mm' : g_M) (H : Heap) (locs : List Loc), l_PT Vx Vm Mx' Mm' s H locs → Rel (n + 1) Mx' Mm' → W p l e room_1 s m #[Value.ref b] below meth c H locs cells slots Q (F0 m 1590 ls [])) : W p l e room_1 s m #[Value.ref b] below meth c H locs cells slots Q (F0 m 1463 ls []) := by
  obtain ⟨r, r', Mx', Mm', hcx, hcm, heq, hrel⟩ := hst n Mx Mm hr hn
  rw [hcx.2] at hrel
  rw [hcm.2] at hrel
  refine lv_aload_n C.1 C.2.1 dl_1463 rfl (lv_at hl 2 rfl) ?_
  refine rl_callxI (As := []) (rest := []) C hl.1 hp (c_X8_often l C.2.2.2.2.2.2.2.2.2.2.2.1 hcx.1) gw_1214 gw_1215 gw_1216 xs_0 xc_8 cal_X8_often rfl rfl (Nat.le_of_ble_eq_true rfl) ⟨Nat.le_of_ble_eq_true rfl, Nat.le_of_ble_eq_true rfl⟩ hcs dl_1464 (fun H locs hp => ?_)
  refine lv_aload_n C.1 C.2.1 dl_1467 rfl (lv_at hl 3 rfl) ?_
  refine rl_callmI (As := []) (rest := [.int (gI r)]) C hl.1 hp (c_X9_often l C.2.2.2.2.2.2.2.2.2.2.2.2.1 hcm.1) gw_1750 gw_1751 gw_1752 ms_0 mc_0 cal_X9_often rfl rfl (Nat.le_of_ble_eq_true rfl) ⟨Nat.le_of_ble_eq_true rfl, Nat.le_of_ble_eq_true rfl⟩ hcs dl_1468 (fun H locs hp => ?_)
  refine rl_icmp_eq (tgt := 1590) C heq dl_1471 (by decide) ?_
  exact kk Mx Mm H locs hp hrel
set_option maxRecDepth 100000 in
set_option maxHeartbeats 4000000 in
theorem l_case_42 (C : l_CX Vx Vm p s m meth c b L xs) (hcs : cells ≤ 600000 ∧ slots ≤ 7302250) {Rel : Nat → g_M → g_M → Prop} (hst : x_step_42 Rel) {i n : Nat} (hi : i + 6 ≤ L) (hn : n < 512) (hr : Rel n Mx Mm) (hp : l_PT Vx Vm Mx Mm s H locs) (hl : lv_has ls 4 [(3, .int (gI (i : Int))), (0, .ref b), (1, .ref (Vx.2.2 0)), (2, .ref (Vm.2.2 0))]) (kk : ∀ (Mx' Mm' : g_M) (H : Heap) (locs : List Loc), l_PT Vx Vm Mx' Mm' s H locs → Rel (n + 1) Mx' Mm' → W p l e room_1 s m #[Value.ref b] below meth c H locs cells slots Q (F0 m 1590 ls [])) : W p l e room_1 s m #[Value.ref b] below meth c H locs cells slots Q (F0 m 1476 ls []) := by
  obtain ⟨r, r', Mx', Mm', hcx, hcm, heq, hrel⟩ := hst n Mx Mm hr hn
  rw [hcx.2] at hrel
  rw [hcm.2] at hrel
  refine lv_aload_n C.1 C.2.1 dl_1476 rfl (lv_at hl 2 rfl) ?_
  refine rl_callxI (As := []) (rest := []) C hl.1 hp (c_X8_changed l C.2.2.2.2.2.2.2.2.2.2.2.1 hcx.1) gw_1218 gw_1219 gw_1220 xs_0 xc_8 cal_X8_changed rfl rfl (Nat.le_of_ble_eq_true rfl) ⟨Nat.le_of_ble_eq_true rfl, Nat.le_of_ble_eq_true rfl⟩ hcs dl_1477 (fun H locs hp => ?_)
  refine lv_aload_n C.1 C.2.1 dl_1480 rfl (lv_at hl 3 rfl) ?_
  refine rl_callmI (As := []) (rest := [.int (gI r)]) C hl.1 hp (c_X9_changed l C.2.2.2.2.2.2.2.2.2.2.2.2.1 hcm.1) gw_1754 gw_1755 gw_1756 ms_0 mc_0 cal_X9_changed rfl rfl (Nat.le_of_ble_eq_true rfl) ⟨Nat.le_of_ble_eq_true rfl, Nat.le_of_ble_eq_true rfl⟩ hcs dl_1481 (fun H locs hp => ?_)
  refine rl_icmp_eq (tgt := 1590) C heq dl_1484 (by decide) ?_
  exact kk Mx Mm H locs hp hrel
set_option maxRecDepth 100000 in
set_option maxHeartbeats 4000000 in
theorem l_case_43 (C : l_CX Vx Vm p s m meth c b L xs) (hcs : cells ≤ 600000 ∧ slots ≤ 7302250) {Rel : Nat → g_M → g_M → Prop} (hst : x_step_43 Rel) {i n : Nat} (hi : i + 6 ≤ L) (hn : n < 512) (hr : Rel n Mx Mm) (hp : l_PT Vx Vm Mx Mm s H locs) (hl : lv_has ls 4 [(3, .int (gI (i : Int))), (0, .ref b), (1, .ref (Vx.2.2 0)), (2, .ref (Vm.2.2 0))]) (kk : ∀ (Mx' Mm' : g_M) (H : Heap) (locs : List Loc), l_PT Vx Vm Mx' Mm' s H locs → Rel (n + 1) Mx' Mm' → W p l e room_1 s m #[Value.ref b] below meth c H locs cells slots Q (F0 m 1590 ls [])) : W p l e room_1 s m #[Value.ref b] below meth c H locs cells slots Q (F0 m 1489 ls []) := by
  obtain ⟨r, r', Mx', Mm', hcx, hcm, heq, hrel⟩ := hst n Mx Mm hr hn
  rw [hcx.2] at hrel
  rw [hcm.2] at hrel
  refine lv_aload_n C.1 C.2.1 dl_1489 rfl (lv_at hl 2 rfl) ?_
  refine rl_callxI (As := []) (rest := []) C hl.1 hp (c_X8_front l C.2.2.2.2.2.2.2.2.2.2.2.1 hcx.1) gw_1222 gw_1223 gw_1224 xs_0 xc_8 cal_X8_front rfl rfl (Nat.le_of_ble_eq_true rfl) ⟨Nat.le_of_ble_eq_true rfl, Nat.le_of_ble_eq_true rfl⟩ hcs dl_1490 (fun H locs hp => ?_)
  refine lv_aload_n C.1 C.2.1 dl_1493 rfl (lv_at hl 3 rfl) ?_
  refine rl_callmI (As := []) (rest := [.int (gI r)]) C hl.1 hp (c_X9_front l C.2.2.2.2.2.2.2.2.2.2.2.2.1 hcm.1) gw_1366 gw_1367 gw_1368 ms_0 mc_0 cal_X9_front rfl rfl (Nat.le_of_ble_eq_true rfl) ⟨Nat.le_of_ble_eq_true rfl, Nat.le_of_ble_eq_true rfl⟩ hcs dl_1494 (fun H locs hp => ?_)
  refine rl_icmp_eq (tgt := 1590) C heq dl_1497 (by decide) ?_
  exact kk Mx Mm H locs hp hrel
set_option maxRecDepth 100000 in
set_option maxHeartbeats 4000000 in
theorem l_case_44 (C : l_CX Vx Vm p s m meth c b L xs) (hcs : cells ≤ 600000 ∧ slots ≤ 7302250) {Rel : Nat → g_M → g_M → Prop} (hst : x_step_44 Rel) {i n : Nat} (hi : i + 6 ≤ L) (hn : n < 512) (hr : Rel n Mx Mm) (hp : l_PT Vx Vm Mx Mm s H locs) (hl : lv_has ls 4 [(3, .int (gI (i : Int))), (0, .ref b), (1, .ref (Vx.2.2 0)), (2, .ref (Vm.2.2 0))]) (kk : ∀ (Mx' Mm' : g_M) (H : Heap) (locs : List Loc), l_PT Vx Vm Mx' Mm' s H locs → Rel (n + 1) Mx' Mm' → W p l e room_1 s m #[Value.ref b] below meth c H locs cells slots Q (F0 m 1590 ls [])) : W p l e room_1 s m #[Value.ref b] below meth c H locs cells slots Q (F0 m 1502 ls []) := by
  by_cases hz1 : gs (xs (i + 1)).toInt = 0
  · obtain ⟨r, r', Mx', Mm', hcx, hcm, heq, hrel⟩ := hst n Mx Mm hr hn 0 (by decide)
    rw [hcx.2] at hrel
    rw [hcm.2] at hrel
    refine lv_aload_n C.1 C.2.1 dl_1502 rfl (lv_at hl 2 rfl) ?_
    refine lv_aload_n C.1 C.2.1 dl_1503 rfl (lv_at hl 1 rfl) ?_
    refine lv_iload_n C.1 C.2.1 dl_1504 rfl (lv_at hl 0 rfl) ?_
    refine rl_iconst C dl_1505 ?_
    refine rl_iadd C dl_1506 ?_
    refine rl_sld C hp (i := i) (k := 1) rfl (by omega) dl_1507 ?_
    refine rl_ifz (tgt := 1515) C hz1 dl_1508 (by decide) ?_
    refine rl_iconst C dl_1515 ?_
    refine rl_callxI (As := [.int (gI 0)]) (rest := []) C hl.1 hp (c_X8_ledger l C.2.2.2.2.2.2.2.2.2.2.2.1 hcx.1) gw_1227 gw_1228 gw_1229 xs_0 xc_8 cal_X8_ledger rfl rfl (Nat.le_of_ble_eq_true rfl) ⟨Nat.le_of_ble_eq_true rfl, Nat.le_of_ble_eq_true rfl⟩ hcs dl_1516 (fun H locs hp => ?_)
    refine lv_aload_n C.1 C.2.1 dl_1519 rfl (lv_at hl 3 rfl) ?_
    refine lv_aload_n C.1 C.2.1 dl_1520 rfl (lv_at hl 1 rfl) ?_
    refine lv_iload_n C.1 C.2.1 dl_1521 rfl (lv_at hl 0 rfl) ?_
    refine rl_iconst C dl_1522 ?_
    refine rl_iadd C dl_1523 ?_
    refine rl_sld C hp (i := i) (k := 1) rfl (by omega) dl_1524 ?_
    refine rl_ifz (tgt := 1532) C hz1 dl_1525 (by decide) ?_
    refine rl_iconst C dl_1532 ?_
    refine rl_callmI (As := [.int (gI 0)]) (rest := [.int (gI r)]) C hl.1 hp (c_X9_ledger l C.2.2.2.2.2.2.2.2.2.2.2.2.1 hcm.1) gw_1741 gw_1742 gw_1743 ms_0 mc_0 cal_X9_ledger rfl rfl (Nat.le_of_ble_eq_true rfl) ⟨Nat.le_of_ble_eq_true rfl, Nat.le_of_ble_eq_true rfl⟩ hcs dl_1533 (fun H locs hp => ?_)
    refine rl_icmp_eq (tgt := 1590) C heq dl_1536 (by decide) ?_
    exact kk Mx Mm H locs hp hrel
  · obtain ⟨r, r', Mx', Mm', hcx, hcm, heq, hrel⟩ := hst n Mx Mm hr hn 1 (by decide)
    rw [hcx.2] at hrel
    rw [hcm.2] at hrel
    refine lv_aload_n C.1 C.2.1 dl_1502 rfl (lv_at hl 2 rfl) ?_
    refine lv_aload_n C.1 C.2.1 dl_1503 rfl (lv_at hl 1 rfl) ?_
    refine lv_iload_n C.1 C.2.1 dl_1504 rfl (lv_at hl 0 rfl) ?_
    refine rl_iconst C dl_1505 ?_
    refine rl_iadd C dl_1506 ?_
    refine rl_sld C hp (i := i) (k := 1) rfl (by omega) dl_1507 ?_
    refine rl_ifnz (tgt := 1515) C hz1 dl_1508 (by decide) ?_
    refine rl_iconst C dl_1511 ?_
    refine rl_goto (tgt := 1516) C dl_1512 (by decide) ?_
    refine rl_callxI (As := [.int (gI 1)]) (rest := []) C hl.1 hp (c_X8_ledger l C.2.2.2.2.2.2.2.2.2.2.2.1 hcx.1) gw_1227 gw_1228 gw_1229 xs_0 xc_8 cal_X8_ledger rfl rfl (Nat.le_of_ble_eq_true rfl) ⟨Nat.le_of_ble_eq_true rfl, Nat.le_of_ble_eq_true rfl⟩ hcs dl_1516 (fun H locs hp => ?_)
    refine lv_aload_n C.1 C.2.1 dl_1519 rfl (lv_at hl 3 rfl) ?_
    refine lv_aload_n C.1 C.2.1 dl_1520 rfl (lv_at hl 1 rfl) ?_
    refine lv_iload_n C.1 C.2.1 dl_1521 rfl (lv_at hl 0 rfl) ?_
    refine rl_iconst C dl_1522 ?_
    refine rl_iadd C dl_1523 ?_
    refine rl_sld C hp (i := i) (k := 1) rfl (by omega) dl_1524 ?_
    refine rl_ifnz (tgt := 1532) C hz1 dl_1525 (by decide) ?_
    refine rl_iconst C dl_1528 ?_
    refine rl_goto (tgt := 1533) C dl_1529 (by decide) ?_
    refine rl_callmI (As := [.int (gI 1)]) (rest := [.int (gI r)]) C hl.1 hp (c_X9_ledger l C.2.2.2.2.2.2.2.2.2.2.2.2.1 hcm.1) gw_1741 gw_1742 gw_1743 ms_0 mc_0 cal_X9_ledger rfl rfl (Nat.le_of_ble_eq_true rfl) ⟨Nat.le_of_ble_eq_true rfl, Nat.le_of_ble_eq_true rfl⟩ hcs dl_1533 (fun H locs hp => ?_)
    refine rl_icmp_eq (tgt := 1590) C heq dl_1536 (by decide) ?_
    exact kk Mx Mm H locs hp hrel
set_option maxRecDepth 100000 in
set_option maxHeartbeats 4000000 in
theorem l_case_45 (C : l_CX Vx Vm p s m meth c b L xs) (hcs : cells ≤ 600000 ∧ slots ≤ 7302250) {Rel : Nat → g_M → g_M → Prop} (hst : x_step_45 Rel) {i n : Nat} (hi : i + 6 ≤ L) (hn : n < 512) (hr : Rel n Mx Mm) (hp : l_PT Vx Vm Mx Mm s H locs) (hl : lv_has ls 4 [(3, .int (gI (i : Int))), (0, .ref b), (1, .ref (Vx.2.2 0)), (2, .ref (Vm.2.2 0))]) (kk : ∀ (Mx' Mm' : g_M) (H : Heap) (locs : List Loc), l_PT Vx Vm Mx' Mm' s H locs → Rel (n + 1) Mx' Mm' → W p l e room_1 s m #[Value.ref b] below meth c H locs cells slots Q (F0 m 1590 ls [])) : W p l e room_1 s m #[Value.ref b] below meth c H locs cells slots Q (F0 m 1541 ls []) := by
  obtain ⟨r, r', Mx', Mm', hcx, hcm, heq, hrel⟩ := hst n Mx Mm hr hn
  refine lv_aload_n C.1 C.2.1 dl_1541 rfl (lv_at hl 2 rfl) ?_
  refine rl_callxI (As := []) (rest := []) C hl.1 hp (c_X8_image l C.2.2.2.2.2.2.2.2.2.2.2.1 hcx) gw_1231 gw_1232 gw_1233 xs_0 xc_8 cal_X8_image rfl rfl (Nat.le_of_ble_eq_true rfl) ⟨Nat.le_of_ble_eq_true rfl, Nat.le_of_ble_eq_true rfl⟩ hcs dl_1542 (fun H locs hp => ?_)
  refine lv_aload_n C.1 C.2.1 dl_1545 rfl (lv_at hl 3 rfl) ?_
  refine rl_callmI (As := []) (rest := [.int (gI r)]) C hl.1 hp (c_X9_image l C.2.2.2.2.2.2.2.2.2.2.2.2.1 hcm) gw_1896 gw_1897 gw_1898 ms_0 mc_0 cal_X9_image rfl rfl (Nat.le_of_ble_eq_true rfl) ⟨Nat.le_of_ble_eq_true rfl, Nat.le_of_ble_eq_true rfl⟩ hcs dl_1546 (fun H locs hp => ?_)
  refine rl_icmp_eq (tgt := 1590) C heq dl_1549 (by decide) ?_
  exact kk Mx' Mm' H locs hp hrel
set_option maxRecDepth 100000 in
set_option maxHeartbeats 4000000 in
theorem l_case_46 (C : l_CX Vx Vm p s m meth c b L xs) (hcs : cells ≤ 600000 ∧ slots ≤ 7302250) {Rel : Nat → g_M → g_M → Prop} (hst : x_step_46 Rel) {i n : Nat} (hi : i + 6 ≤ L) (hn : n < 512) (hr : Rel n Mx Mm) (hp : l_PT Vx Vm Mx Mm s H locs) (hl : lv_has ls 4 [(3, .int (gI (i : Int))), (0, .ref b), (1, .ref (Vx.2.2 0)), (2, .ref (Vm.2.2 0))]) (kk : ∀ (Mx' Mm' : g_M) (H : Heap) (locs : List Loc), l_PT Vx Vm Mx' Mm' s H locs → Rel (n + 1) Mx' Mm' → W p l e room_1 s m #[Value.ref b] below meth c H locs cells slots Q (F0 m 1590 ls [])) : W p l e room_1 s m #[Value.ref b] below meth c H locs cells slots Q (F0 m 1554 ls []) := by
  obtain ⟨r, r', Mx', Mm', hcx, hcm, heq, hrel⟩ := hst n Mx Mm hr hn
  refine lv_aload_n C.1 C.2.1 dl_1554 rfl (lv_at hl 2 rfl) ?_
  refine rl_callxI (As := []) (rest := []) C hl.1 hp (c_X8_back l C.2.2.2.2.2.2.2.2.2.2.2.1 hcx) gw_1239 gw_1240 gw_1241 xs_0 xc_8 cal_X8_back rfl rfl (Nat.le_of_ble_eq_true rfl) ⟨Nat.le_of_ble_eq_true rfl, Nat.le_of_ble_eq_true rfl⟩ hcs dl_1555 (fun H locs hp => ?_)
  refine lv_aload_n C.1 C.2.1 dl_1558 rfl (lv_at hl 3 rfl) ?_
  refine rl_callmI (As := []) (rest := [.int (gI r)]) C hl.1 hp (c_X9_back l C.2.2.2.2.2.2.2.2.2.2.2.2.1 hcm) gw_1900 gw_1901 gw_1902 ms_0 mc_0 cal_X9_back rfl rfl (Nat.le_of_ble_eq_true rfl) ⟨Nat.le_of_ble_eq_true rfl, Nat.le_of_ble_eq_true rfl⟩ hcs dl_1559 (fun H locs hp => ?_)
  refine rl_icmp_eq (tgt := 1590) C heq dl_1562 (by decide) ?_
  exact kk Mx' Mm' H locs hp hrel
set_option maxRecDepth 100000 in
set_option maxHeartbeats 4000000 in
theorem l_case_47 (C : l_CX Vx Vm p s m meth c b L xs) (hcs : cells ≤ 600000 ∧ slots ≤ 7302250) {Rel : Nat → g_M → g_M → Prop} (hst : x_step_47 Rel) {i n : Nat} (hi : i + 6 ≤ L) (hn : n < 512) (hr : Rel n Mx Mm) (hp : l_PT Vx Vm Mx Mm s H locs) (hl : lv_has ls 4 [(3, .int (gI (i : Int))), (0, .ref b), (1, .ref (Vx.2.2 0)), (2, .ref (Vm.2.2 0))]) (kk : ∀ (Mx' Mm' : g_M) (H : Heap) (locs : List Loc), l_PT Vx Vm Mx' Mm' s H locs → Rel (n + 1) Mx' Mm' → W p l e room_1 s m #[Value.ref b] below meth c H locs cells slots Q (F0 m 1590 ls [])) : W p l e room_1 s m #[Value.ref b] below meth c H locs cells slots Q (F0 m 1567 ls []) := by
  obtain ⟨r, r', Mx', Mm', hcx, hcm, heq, hrel⟩ := hst n Mx Mm hr hn (xs (i + 1)).toInt (g_rng _)
  rw [hcx.2] at hrel
  rw [hcm.2] at hrel
  refine lv_aload_n C.1 C.2.1 dl_1567 rfl (lv_at hl 2 rfl) ?_
  refine lv_aload_n C.1 C.2.1 dl_1568 rfl (lv_at hl 1 rfl) ?_
  refine lv_iload_n C.1 C.2.1 dl_1569 rfl (lv_at hl 0 rfl) ?_
  refine rl_iconst C dl_1570 ?_
  refine rl_iadd C dl_1571 ?_
  refine rl_sld C hp (i := i) (k := 1) rfl (by omega) dl_1572 ?_
  refine rl_callxI (As := [.int (gI (xs (i + 1)).toInt)]) (rest := []) C hl.1 hp (c_X8_about l C.2.2.2.2.2.2.2.2.2.2.2.1 hcx.1) gw_1243 gw_1244 gw_1245 xs_0 xc_8 cal_X8_about rfl rfl (Nat.le_of_ble_eq_true rfl) ⟨Nat.le_of_ble_eq_true rfl, Nat.le_of_ble_eq_true rfl⟩ hcs dl_1573 (fun H locs hp => ?_)
  refine lv_aload_n C.1 C.2.1 dl_1576 rfl (lv_at hl 3 rfl) ?_
  refine lv_aload_n C.1 C.2.1 dl_1577 rfl (lv_at hl 1 rfl) ?_
  refine lv_iload_n C.1 C.2.1 dl_1578 rfl (lv_at hl 0 rfl) ?_
  refine rl_iconst C dl_1579 ?_
  refine rl_iadd C dl_1580 ?_
  refine rl_sld C hp (i := i) (k := 1) rfl (by omega) dl_1581 ?_
  refine rl_callmI (As := [.int (gI (xs (i + 1)).toInt)]) (rest := [.int (gI r)]) C hl.1 hp (c_X9_about l C.2.2.2.2.2.2.2.2.2.2.2.2.1 hcm.1) gw_1904 gw_1905 gw_1906 ms_0 mc_0 cal_X9_about rfl rfl (Nat.le_of_ble_eq_true rfl) ⟨Nat.le_of_ble_eq_true rfl, Nat.le_of_ble_eq_true rfl⟩ hcs dl_1582 (fun H locs hp => ?_)
  refine rl_icmp_eq (tgt := 1590) C heq dl_1585 (by decide) ?_
  exact kk Mx Mm H locs hp hrel
end
