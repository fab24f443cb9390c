/-! THE LAW: cases -/
theorem hL_X11_text : yX11_text.cls ≠ "java/lang/invoke/MethodHandle" ∧ yX11_text.cls ≠ "java/lang/invoke/VarHandle" ∧ (parseMethodDescriptor yX11_text.desc).map (fun d => d.parameters.length) = some 1 := by decide +kernel
theorem hL_X12_text : yX12_text.cls ≠ "java/lang/invoke/MethodHandle" ∧ yX12_text.cls ≠ "java/lang/invoke/VarHandle" ∧ (parseMethodDescriptor yX12_text.desc).map (fun d => d.parameters.length) = some 1 := by decide +kernel
set_option maxHeartbeats 2000000 in
theorem lwc_0 (l : Launch) (hfl : l.flags = flags0) {p : Program} {e : Env} {s : State} {m : MethodId} {below : List Frame} {meth : Method} {c : Code} {b L j : Nat} {xs : Nat → Int32} {E : zE} {Z : zS} {H : Heap} {locs : List Loc} {ls : Array Slot} {Q : State → Prop} (hC : lwF p m c s b L xs E) (hj : 6 * j + 6 ≤ L) (hI : zInv Z) (hG : zG E Z s H locs) (hl : lv_has ls 8 (lwLV E b j)) (T : lwT p l e s m below meth c b j E Q) : W p l e room_1 s m #[Value.ref b] below meth c H locs (112 + j) (2948 + 6 * j) Q (F0 m 224 ls []) := by
  have hF := hC.1
  have hx := hF.1.1
  have hb := hF.1.2.1
  have hts := hF.1.2.2.2.2
  have hcc := lw_room hj hC.2.2.2.2.2
  refine lv_aload_n hx hb dL_law_224 rfl (lv_at hl 3 rfl) ?_
  refine lw_arg (lv := lwLV E b j) hC hG rfl (lv_at hl 4 rfl) (lv_at hl 0 rfl) hj 1 (by decide) dL_law_225 dL_law_226 dL_law_228 rfl dL_law_229 dL_law_230 ?_
  refine z_ci (va_runV (rest := []) hF.1 (kX11_text l E Z (xs (6 * j + 1)) (M_text hI) _) (cwV 1 hts gL_law_X11_text rfl rfl rfl ⟨rfl, hL_X11_text⟩ ⟨Nat.le_of_ble_eq_true rfl, Nat.le_of_ble_eq_true rfl⟩) (z_preV hF hG 96 (by decide) z_gs rfl) rfl rfl hl.1 rfl (lv_room (Nat.le_of_ble_eq_true rfl)) dL_law_231 ⟨Nat.le_of_succ_le hcc.1, Nat.le_trans (Nat.le_add_right _ 6) hcc.2⟩) hG (fun r Z1 H locs hw hG => ?_)
  refine lv_aload_n hx hb dL_law_234 rfl (lv_at hl 2 rfl) ?_
  refine lw_arg (lv := lwLV E b j) hC hG rfl (lv_at hl 4 rfl) (lv_at hl 0 rfl) hj 1 (by decide) dL_law_235 dL_law_236 dL_law_238 rfl dL_law_239 dL_law_240 ?_
  refine z_ci (va_runV (rest := [.int r]) hF.1 (kX12_text l E Z1 (xs (6 * j + 1)) hw _) (cwV 1 hts gL_law_X12_text rfl rfl rfl ⟨rfl, hL_X12_text⟩ ⟨Nat.le_of_ble_eq_true rfl, Nat.le_of_ble_eq_true rfl⟩) (z_preV hF hG 97 (by decide) z_md rfl) rfl rfl hl.1 rfl (lv_room (Nat.le_of_ble_eq_true rfl)) dL_law_241 ⟨Nat.le_of_succ_le hcc.1, Nat.le_trans (Nat.le_add_right _ 6) hcc.2⟩) hG (fun r2 Z2 H locs hw hG => ?_)
  refine lv_icmp_eq (tgt := 1835) hx hb dL_law_244 (by decide) (fun _ => ?_) (fun c => absurd hw.1.symm c)
  exact W.widen (by omega) (by omega) (T E.2.2.2 Z2 H locs ls hw.2 hG hl)
theorem hL_X11_server : yX11_server.cls ≠ "java/lang/invoke/MethodHandle" ∧ yX11_server.cls ≠ "java/lang/invoke/VarHandle" ∧ (parseMethodDescriptor yX11_server.desc).map (fun d => d.parameters.length) = some 2 := by decide +kernel
theorem hL_X12_server : yX12_server.cls ≠ "java/lang/invoke/MethodHandle" ∧ yX12_server.cls ≠ "java/lang/invoke/VarHandle" ∧ (parseMethodDescriptor yX12_server.desc).map (fun d => d.parameters.length) = some 2 := by decide +kernel
set_option maxHeartbeats 2000000 in
theorem lwc_1 (l : Launch) (hfl : l.flags = flags0) {p : Program} {e : Env} {s : State} {m : MethodId} {below : List Frame} {meth : Method} {c : Code} {b L j : Nat} {xs : Nat → Int32} {E : zE} {Z : zS} {H : Heap} {locs : List Loc} {ls : Array Slot} {Q : State → Prop} (hC : lwF p m c s b L xs E) (hj : 6 * j + 6 ≤ L) (hI : zInv Z) (hG : zG E Z s H locs) (hl : lv_has ls 8 (lwLV E b j)) (T : lwT p l e s m below meth c b j E Q) : W p l e room_1 s m #[Value.ref b] below meth c H locs (112 + j) (2948 + 6 * j) Q (F0 m 249 ls []) := by
  have hF := hC.1
  have hx := hF.1.1
  have hb := hF.1.2.1
  have hts := hF.1.2.2.2.2
  have hcc := lw_room hj hC.2.2.2.2.2
  refine lv_aload_n hx hb dL_law_249 rfl (lv_at hl 3 rfl) ?_
  refine lw_arg (lv := lwLV E b j) hC hG rfl (lv_at hl 4 rfl) (lv_at hl 0 rfl) hj 1 (by decide) dL_law_250 dL_law_251 dL_law_253 rfl dL_law_254 dL_law_255 ?_
  refine lw_arg (lv := lwLV E b j) hC hG rfl (lv_at hl 4 rfl) (lv_at hl 0 rfl) hj 2 (by decide) dL_law_256 dL_law_257 dL_law_259 rfl dL_law_260 dL_law_261 ?_
  refine z_ci (va_runV (rest := []) hF.1 (kX11_server l E Z (xs (6 * j + 1)) (xs (6 * j + 2)) (M_server hI) _) (cwV 2 hts gL_law_X11_server rfl rfl rfl ⟨rfl, hL_X11_server⟩ ⟨Nat.le_of_ble_eq_true rfl, Nat.le_of_ble_eq_true rfl⟩) (z_preV hF hG 96 (by decide) z_gs rfl) rfl rfl hl.1 rfl (lv_room (Nat.le_of_ble_eq_true rfl)) dL_law_262 ⟨Nat.le_of_succ_le hcc.1, Nat.le_trans (Nat.le_add_right _ 6) hcc.2⟩) hG (fun r Z1 H locs hw hG => ?_)
  refine lv_aload_n hx hb dL_law_265 rfl (lv_at hl 2 rfl) ?_
  refine lw_arg (lv := lwLV E b j) hC hG rfl (lv_at hl 4 rfl) (lv_at hl 0 rfl) hj 1 (by decide) dL_law_266 dL_law_267 dL_law_269 rfl dL_law_270 dL_law_271 ?_
  refine lw_arg (lv := lwLV E b j) hC hG rfl (lv_at hl 4 rfl) (lv_at hl 0 rfl) hj 2 (by decide) dL_law_272 dL_law_273 dL_law_275 rfl dL_law_276 dL_law_277 ?_
  refine z_ci (va_runV (rest := [.int r]) hF.1 (kX12_server l E Z1 (xs (6 * j + 1)) (xs (6 * j + 2)) hw _) (cwV 2 hts gL_law_X12_server rfl rfl rfl ⟨rfl, hL_X12_server⟩ ⟨Nat.le_of_ble_eq_true rfl, Nat.le_of_ble_eq_true rfl⟩) (z_preV hF hG 97 (by decide) z_md rfl) rfl rfl hl.1 rfl (lv_room (Nat.le_of_ble_eq_true rfl)) dL_law_278 ⟨Nat.le_of_succ_le hcc.1, Nat.le_trans (Nat.le_add_right _ 6) hcc.2⟩) hG (fun r2 Z2 H locs hw hG => ?_)
  refine lv_icmp_eq (tgt := 1835) hx hb dL_law_281 (by decide) (fun _ => ?_) (fun c => absurd hw.1.symm c)
  exact W.widen (by omega) (by omega) (T E.2.2.2 Z2 H locs ls hw.2 hG hl)
theorem hL_X11_job : yX11_job.cls ≠ "java/lang/invoke/MethodHandle" ∧ yX11_job.cls ≠ "java/lang/invoke/VarHandle" ∧ (parseMethodDescriptor yX11_job.desc).map (fun d => d.parameters.length) = some 3 := by decide +kernel
theorem hL_X12_job : yX12_job.cls ≠ "java/lang/invoke/MethodHandle" ∧ yX12_job.cls ≠ "java/lang/invoke/VarHandle" ∧ (parseMethodDescriptor yX12_job.desc).map (fun d => d.parameters.length) = some 3 := by decide +kernel
set_option maxHeartbeats 2000000 in
theorem lwc_2 (l : Launch) (hfl : l.flags = flags0) {p : Program} {e : Env} {s : State} {m : MethodId} {below : List Frame} {meth : Method} {c : Code} {b L j : Nat} {xs : Nat → Int32} {E : zE} {Z : zS} {H : Heap} {locs : List Loc} {ls : Array Slot} {Q : State → Prop} (hC : lwF p m c s b L xs E) (hj : 6 * j + 6 ≤ L) (hI : zInv Z) (hG : zG E Z s H locs) (hl : lv_has ls 8 (lwLV E b j)) (T : lwT p l e s m below meth c b j E Q) : W p l e room_1 s m #[Value.ref b] below meth c H locs (112 + j) (2948 + 6 * j) Q (F0 m 286 ls []) := by
  have hF := hC.1
  have hx := hF.1.1
  have hb := hF.1.2.1
  have hts := hF.1.2.2.2.2
  have hcc := lw_room hj hC.2.2.2.2.2
  refine lv_aload_n hx hb dL_law_286 rfl (lv_at hl 3 rfl) ?_
  refine lw_arg (lv := lwLV E b j) hC hG rfl (lv_at hl 4 rfl) (lv_at hl 0 rfl) hj 1 (by decide) dL_law_287 dL_law_288 dL_law_290 rfl dL_law_291 dL_law_292 ?_
  refine lw_arg (lv := lwLV E b j) hC hG rfl (lv_at hl 4 rfl) (lv_at hl 0 rfl) hj 2 (by decide) dL_law_293 dL_law_294 dL_law_296 rfl dL_law_297 dL_law_298 ?_
  refine lw_arg (lv := lwLV E b j) hC hG rfl (lv_at hl 4 rfl) (lv_at hl 0 rfl) hj 3 (by decide) dL_law_299 dL_law_300 dL_law_302 rfl dL_law_303 dL_law_304 ?_
  refine z_ci (va_runV (rest := []) hF.1 (kX11_job l E Z (xs (6 * j + 1)) (xs (6 * j + 2)) (xs (6 * j + 3)) (M_job hI) _) (cwV 3 hts gL_law_X11_job rfl rfl rfl ⟨rfl, hL_X11_job⟩ ⟨Nat.le_of_ble_eq_true rfl, Nat.le_of_ble_eq_true rfl⟩) (z_preV hF hG 96 (by decide) z_gs rfl) rfl rfl hl.1 rfl (lv_room (Nat.le_of_ble_eq_true rfl)) dL_law_305 ⟨Nat.le_of_succ_le hcc.1, Nat.le_trans (Nat.le_add_right _ 6) hcc.2⟩) hG (fun r Z1 H locs hw hG => ?_)
  refine lv_aload_n hx hb dL_law_308 rfl (lv_at hl 2 rfl) ?_
  refine lw_arg (lv := lwLV E b j) hC hG rfl (lv_at hl 4 rfl) (lv_at hl 0 rfl) hj 1 (by decide) dL_law_309 dL_law_310 dL_law_312 rfl dL_law_313 dL_law_314 ?_
  refine lw_arg (lv := lwLV E b j) hC hG rfl (lv_at hl 4 rfl) (lv_at hl 0 rfl) hj 2 (by decide) dL_law_315 dL_law_316 dL_law_318 rfl dL_law_319 dL_law_320 ?_
  refine lw_arg (lv := lwLV E b j) hC hG rfl (lv_at hl 4 rfl) (lv_at hl 0 rfl) hj 3 (by decide) dL_law_321 dL_law_322 dL_law_324 rfl dL_law_325 dL_law_326 ?_
  refine z_ci (va_runV (rest := [.int r]) hF.1 (kX12_job l E Z1 (xs (6 * j + 1)) (xs (6 * j + 2)) (xs (6 * j + 3)) hw _) (cwV 3 hts gL_law_X12_job rfl rfl rfl ⟨rfl, hL_X12_job⟩ ⟨Nat.le_of_ble_eq_true rfl, Nat.le_of_ble_eq_true rfl⟩) (z_preV hF hG 97 (by decide) z_md rfl) rfl rfl hl.1 rfl (lv_room (Nat.le_of_ble_eq_true rfl)) dL_law_327 ⟨Nat.le_of_succ_le hcc.1, Nat.le_trans (Nat.le_add_right _ 6) hcc.2⟩) hG (fun r2 Z2 H locs hw hG => ?_)
  refine lv_icmp_eq (tgt := 1835) hx hb dL_law_330 (by decide) (fun _ => ?_) (fun c => absurd hw.1.symm c)
  exact W.widen (by omega) (by omega) (T E.2.2.2 Z2 H locs ls hw.2 hG hl)
theorem hL_X11_comes : yX11_comes.cls ≠ "java/lang/invoke/MethodHandle" ∧ yX11_comes.cls ≠ "java/lang/invoke/VarHandle" ∧ (parseMethodDescriptor yX11_comes.desc).map (fun d => d.parameters.length) = some 3 := by decide +kernel
theorem hL_X12_comes : yX12_comes.cls ≠ "java/lang/invoke/MethodHandle" ∧ yX12_comes.cls ≠ "java/lang/invoke/VarHandle" ∧ (parseMethodDescriptor yX12_comes.desc).map (fun d => d.parameters.length) = some 3 := by decide +kernel
set_option maxHeartbeats 2000000 in
theorem lwc_3 (l : Launch) (hfl : l.flags = flags0) {p : Program} {e : Env} {s : State} {m : MethodId} {below : List Frame} {meth : Method} {c : Code} {b L j : Nat} {xs : Nat → Int32} {E : zE} {Z : zS} {H : Heap} {locs : List Loc} {ls : Array Slot} {Q : State → Prop} (hC : lwF p m c s b L xs E) (hj : 6 * j + 6 ≤ L) (hI : zInv Z) (hG : zG E Z s H locs) (hl : lv_has ls 8 (lwLV E b j)) (T : lwT p l e s m below meth c b j E Q) : W p l e room_1 s m #[Value.ref b] below meth c H locs (112 + j) (2948 + 6 * j) Q (F0 m 335 ls []) := by
  have hF := hC.1
  have hx := hF.1.1
  have hb := hF.1.2.1
  have hts := hF.1.2.2.2.2
  have hcc := lw_room hj hC.2.2.2.2.2
  refine lv_aload_n hx hb dL_law_335 rfl (lv_at hl 3 rfl) ?_
  refine lw_arg (lv := lwLV E b j) hC hG rfl (lv_at hl 4 rfl) (lv_at hl 0 rfl) hj 1 (by decide) dL_law_336 dL_law_337 dL_law_339 rfl dL_law_340 dL_law_341 ?_
  refine lw_arg (lv := lwLV E b j) hC hG rfl (lv_at hl 4 rfl) (lv_at hl 0 rfl) hj 2 (by decide) dL_law_342 dL_law_343 dL_law_345 rfl dL_law_346 dL_law_347 ?_
  refine lw_arg (lv := lwLV E b j) hC hG rfl (lv_at hl 4 rfl) (lv_at hl 0 rfl) hj 3 (by decide) dL_law_348 dL_law_349 dL_law_351 rfl dL_law_352 dL_law_353 ?_
  refine z_ci (va_runV (rest := []) hF.1 (kX11_comes l E Z (xs (6 * j + 1)) (xs (6 * j + 2)) (xs (6 * j + 3)) (M_comes hI) _) (cwV 3 hts gL_law_X11_comes rfl rfl rfl ⟨rfl, hL_X11_comes⟩ ⟨Nat.le_of_ble_eq_true rfl, Nat.le_of_ble_eq_true rfl⟩) (z_preV hF hG 96 (by decide) z_gs rfl) rfl rfl hl.1 rfl (lv_room (Nat.le_of_ble_eq_true rfl)) dL_law_354 ⟨Nat.le_of_succ_le hcc.1, Nat.le_trans (Nat.le_add_right _ 6) hcc.2⟩) hG (fun r Z1 H locs hw hG => ?_)
  refine lv_aload_n hx hb dL_law_357 rfl (lv_at hl 2 rfl) ?_
  refine lw_arg (lv := lwLV E b j) hC hG rfl (lv_at hl 4 rfl) (lv_at hl 0 rfl) hj 1 (by decide) dL_law_358 dL_law_359 dL_law_361 rfl dL_law_362 dL_law_363 ?_
  refine lw_arg (lv := lwLV E b j) hC hG rfl (lv_at hl 4 rfl) (lv_at hl 0 rfl) hj 2 (by decide) dL_law_364 dL_law_365 dL_law_367 rfl dL_law_368 dL_law_369 ?_
  refine lw_arg (lv := lwLV E b j) hC hG rfl (lv_at hl 4 rfl) (lv_at hl 0 rfl) hj 3 (by decide) dL_law_370 dL_law_371 dL_law_373 rfl dL_law_374 dL_law_375 ?_
  refine z_ci (va_runV (rest := [.int r]) hF.1 (kX12_comes l E Z1 (xs (6 * j + 1)) (xs (6 * j + 2)) (xs (6 * j + 3)) hw _) (cwV 3 hts gL_law_X12_comes rfl rfl rfl ⟨rfl, hL_X12_comes⟩ ⟨Nat.le_of_ble_eq_true rfl, Nat.le_of_ble_eq_true rfl⟩) (z_preV hF hG 97 (by decide) z_md rfl) rfl rfl hl.1 rfl (lv_room (Nat.le_of_ble_eq_true rfl)) dL_law_376 ⟨Nat.le_of_succ_le hcc.1, Nat.le_trans (Nat.le_add_right _ 6) hcc.2⟩) hG (fun r2 Z2 H locs hw hG => ?_)
  refine lv_icmp_eq (tgt := 1835) hx hb dL_law_379 (by decide) (fun _ => ?_) (fun c => absurd hw.1.symm c)
  exact W.widen (by omega) (by omega) (T E.2.2.2 Z2 H locs ls hw.2 hG hl)
theorem hL_X11_sends : yX11_sends.cls ≠ "java/lang/invoke/MethodHandle" ∧ yX11_sends.cls ≠ "java/lang/invoke/VarHandle" ∧ (parseMethodDescriptor yX11_sends.desc).map (fun d => d.parameters.length) = some 3 := by decide +kernel
theorem hL_X12_sends : yX12_sends.cls ≠ "java/lang/invoke/MethodHandle" ∧ yX12_sends.cls ≠ "java/lang/invoke/VarHandle" ∧ (parseMethodDescriptor yX12_sends.desc).map (fun d => d.parameters.length) = some 3 := by decide +kernel
set_option maxHeartbeats 2000000 in
theorem lwc_4 (l : Launch) (hfl : l.flags = flags0) {p : Program} {e : Env} {s : State} {m : MethodId} {below : List Frame} {meth : Method} {c : Code} {b L j : Nat} {xs : Nat → Int32} {E : zE} {Z : zS} {H : Heap} {locs : List Loc} {ls : Array Slot} {Q : State → Prop} (hC : lwF p m c s b L xs E) (hj : 6 * j + 6 ≤ L) (hI : zInv Z) (hG : zG E Z s H locs) (hl : lv_has ls 8 (lwLV E b j)) (T : lwT p l e s m below meth c b j E Q) : W p l e room_1 s m #[Value.ref b] below meth c H locs (112 + j) (2948 + 6 * j) Q (F0 m 384 ls []) := by
  have hF := hC.1
  have hx := hF.1.1
  have hb := hF.1.2.1
  have hts := hF.1.2.2.2.2
  have hcc := lw_room hj hC.2.2.2.2.2
  refine lv_aload_n hx hb dL_law_384 rfl (lv_at hl 3 rfl) ?_
  refine lw_arg (lv := lwLV E b j) hC hG rfl (lv_at hl 4 rfl) (lv_at hl 0 rfl) hj 1 (by decide) dL_law_385 dL_law_386 dL_law_388 rfl dL_law_389 dL_law_390 ?_
  refine lw_arg (lv := lwLV E b j) hC hG rfl (lv_at hl 4 rfl) (lv_at hl 0 rfl) hj 2 (by decide) dL_law_391 dL_law_392 dL_law_394 rfl dL_law_395 dL_law_396 ?_
  refine lw_arg (lv := lwLV E b j) hC hG rfl (lv_at hl 4 rfl) (lv_at hl 0 rfl) hj 3 (by decide) dL_law_397 dL_law_398 dL_law_400 rfl dL_law_401 dL_law_402 ?_
  refine z_ci (va_runV (rest := []) hF.1 (kX11_sends l E Z (xs (6 * j + 1)) (xs (6 * j + 2)) (xs (6 * j + 3)) (M_sends hI) _) (cwV 3 hts gL_law_X11_sends rfl rfl rfl ⟨rfl, hL_X11_sends⟩ ⟨Nat.le_of_ble_eq_true rfl, Nat.le_of_ble_eq_true rfl⟩) (z_preV hF hG 96 (by decide) z_gs rfl) rfl rfl hl.1 rfl (lv_room (Nat.le_of_ble_eq_true rfl)) dL_law_403 ⟨Nat.le_of_succ_le hcc.1, Nat.le_trans (Nat.le_add_right _ 6) hcc.2⟩) hG (fun r Z1 H locs hw hG => ?_)
  refine lv_aload_n hx hb dL_law_406 rfl (lv_at hl 2 rfl) ?_
  refine lw_arg (lv := lwLV E b j) hC hG rfl (lv_at hl 4 rfl) (lv_at hl 0 rfl) hj 1 (by decide) dL_law_407 dL_law_408 dL_law_410 rfl dL_law_411 dL_law_412 ?_
  refine lw_arg (lv := lwLV E b j) hC hG rfl (lv_at hl 4 rfl) (lv_at hl 0 rfl) hj 2 (by decide) dL_law_413 dL_law_414 dL_law_416 rfl dL_law_417 dL_law_418 ?_
  refine lw_arg (lv := lwLV E b j) hC hG rfl (lv_at hl 4 rfl) (lv_at hl 0 rfl) hj 3 (by decide) dL_law_419 dL_law_420 dL_law_422 rfl dL_law_423 dL_law_424 ?_
  refine z_ci (va_runV (rest := [.int r]) hF.1 (kX12_sends l E Z1 (xs (6 * j + 1)) (xs (6 * j + 2)) (xs (6 * j + 3)) hw _) (cwV 3 hts gL_law_X12_sends rfl rfl rfl ⟨rfl, hL_X12_sends⟩ ⟨Nat.le_of_ble_eq_true rfl, Nat.le_of_ble_eq_true rfl⟩) (z_preV hF hG 97 (by decide) z_md rfl) rfl rfl hl.1 rfl (lv_room (Nat.le_of_ble_eq_true rfl)) dL_law_425 ⟨Nat.le_of_succ_le hcc.1, Nat.le_trans (Nat.le_add_right _ 6) hcc.2⟩) hG (fun r2 Z2 H locs hw hG => ?_)
  refine lv_icmp_eq (tgt := 1835) hx hb dL_law_428 (by decide) (fun _ => ?_) (fun c => absurd hw.1.symm c)
  exact W.widen (by omega) (by omega) (T E.2.2.2 Z2 H locs ls hw.2 hG hl)
theorem hL_X11_drops : yX11_drops.cls ≠ "java/lang/invoke/MethodHandle" ∧ yX11_drops.cls ≠ "java/lang/invoke/VarHandle" ∧ (parseMethodDescriptor yX11_drops.desc).map (fun d => d.parameters.length) = some 1 := by decide +kernel
theorem hL_X12_drops : yX12_drops.cls ≠ "java/lang/invoke/MethodHandle" ∧ yX12_drops.cls ≠ "java/lang/invoke/VarHandle" ∧ (parseMethodDescriptor yX12_drops.desc).map (fun d => d.parameters.length) = some 1 := by decide +kernel
set_option maxHeartbeats 2000000 in
theorem lwc_5 (l : Launch) (hfl : l.flags = flags0) {p : Program} {e : Env} {s : State} {m : MethodId} {below : List Frame} {meth : Method} {c : Code} {b L j : Nat} {xs : Nat → Int32} {E : zE} {Z : zS} {H : Heap} {locs : List Loc} {ls : Array Slot} {Q : State → Prop} (hC : lwF p m c s b L xs E) (hj : 6 * j + 6 ≤ L) (hI : zInv Z) (hG : zG E Z s H locs) (hl : lv_has ls 8 (lwLV E b j)) (T : lwT p l e s m below meth c b j E Q) : W p l e room_1 s m #[Value.ref b] below meth c H locs (112 + j) (2948 + 6 * j) Q (F0 m 433 ls []) := by
  have hF := hC.1
  have hx := hF.1.1
  have hb := hF.1.2.1
  have hts := hF.1.2.2.2.2
  have hcc := lw_room hj hC.2.2.2.2.2
  refine lv_aload_n hx hb dL_law_433 rfl (lv_at hl 3 rfl) ?_
  refine lw_arg (lv := lwLV E b j) hC hG rfl (lv_at hl 4 rfl) (lv_at hl 0 rfl) hj 1 (by decide) dL_law_434 dL_law_435 dL_law_437 rfl dL_law_438 dL_law_439 ?_
  refine z_ci (va_runV (rest := []) hF.1 (kX11_drops l E Z (xs (6 * j + 1)) (M_drops hI) _) (cwV 1 hts gL_law_X11_drops rfl rfl rfl ⟨rfl, hL_X11_drops⟩ ⟨Nat.le_of_ble_eq_true rfl, Nat.le_of_ble_eq_true rfl⟩) (z_preV hF hG 96 (by decide) z_gs rfl) rfl rfl hl.1 rfl (lv_room (Nat.le_of_ble_eq_true rfl)) dL_law_440 ⟨Nat.le_of_succ_le hcc.1, Nat.le_trans (Nat.le_add_right _ 6) hcc.2⟩) hG (fun r Z1 H locs hw hG => ?_)
  refine lv_aload_n hx hb dL_law_443 rfl (lv_at hl 2 rfl) ?_
  refine lw_arg (lv := lwLV E b j) hC hG rfl (lv_at hl 4 rfl) (lv_at hl 0 rfl) hj 1 (by decide) dL_law_444 dL_law_445 dL_law_447 rfl dL_law_448 dL_law_449 ?_
  refine z_ci (va_runV (rest := [.int r]) hF.1 (kX12_drops l E Z1 (xs (6 * j + 1)) hw _) (cwV 1 hts gL_law_X12_drops rfl rfl rfl ⟨rfl, hL_X12_drops⟩ ⟨Nat.le_of_ble_eq_true rfl, Nat.le_of_ble_eq_true rfl⟩) (z_preV hF hG 97 (by decide) z_md rfl) rfl rfl hl.1 rfl (lv_room (Nat.le_of_ble_eq_true rfl)) dL_law_450 ⟨Nat.le_of_succ_le hcc.1, Nat.le_trans (Nat.le_add_right _ 6) hcc.2⟩) hG (fun r2 Z2 H locs hw hG => ?_)
  refine lv_icmp_eq (tgt := 1835) hx hb dL_law_453 (by decide) (fun _ => ?_) (fun c => absurd hw.1.symm c)
  exact W.widen (by omega) (by omega) (T E.2.2.2 Z2 H locs ls hw.2 hG hl)
theorem hL_X11_ticks : yX11_ticks.cls ≠ "java/lang/invoke/MethodHandle" ∧ yX11_ticks.cls ≠ "java/lang/invoke/VarHandle" ∧ (parseMethodDescriptor yX11_ticks.desc).map (fun d => d.parameters.length) = some 1 := by decide +kernel
theorem hL_X12_ticks : yX12_ticks.cls ≠ "java/lang/invoke/MethodHandle" ∧ yX12_ticks.cls ≠ "java/lang/invoke/VarHandle" ∧ (parseMethodDescriptor yX12_ticks.desc).map (fun d => d.parameters.length) = some 1 := by decide +kernel
set_option maxHeartbeats 2000000 in
theorem lwc_6 (l : Launch) (hfl : l.flags = flags0) {p : Program} {e : Env} {s : State} {m : MethodId} {below : List Frame} {meth : Method} {c : Code} {b L j : Nat} {xs : Nat → Int32} {E : zE} {Z : zS} {H : Heap} {locs : List Loc} {ls : Array Slot} {Q : State → Prop} (hC : lwF p m c s b L xs E) (hj : 6 * j + 6 ≤ L) (hI : zInv Z) (hG : zG E Z s H locs) (hl : lv_has ls 8 (lwLV E b j)) (T : lwT p l e s m below meth c b j E Q) : W p l e room_1 s m #[Value.ref b] below meth c H locs (112 + j) (2948 + 6 * j) Q (F0 m 458 ls []) := by
  have hF := hC.1
  have hx := hF.1.1
  have hb := hF.1.2.1
  have hts := hF.1.2.2.2.2
  have hcc := lw_room hj hC.2.2.2.2.2
  refine lv_aload_n hx hb dL_law_458 rfl (lv_at hl 3 rfl) ?_
  refine lw_arg (lv := lwLV E b j) hC hG rfl (lv_at hl 4 rfl) (lv_at hl 0 rfl) hj 1 (by decide) dL_law_459 dL_law_460 dL_law_462 rfl dL_law_463 dL_law_464 ?_
  refine z_ci (va_runV (rest := []) hF.1 (kX11_ticks l E Z (xs (6 * j + 1)) (M_ticks hI) _) (cwV 1 hts gL_law_X11_ticks rfl rfl rfl ⟨rfl, hL_X11_ticks⟩ ⟨Nat.le_of_ble_eq_true rfl, Nat.le_of_ble_eq_true rfl⟩) (z_preV hF hG 96 (by decide) z_gs rfl) rfl rfl hl.1 rfl (lv_room (Nat.le_of_ble_eq_true rfl)) dL_law_465 ⟨Nat.le_of_succ_le hcc.1, Nat.le_trans (Nat.le_add_right _ 6) hcc.2⟩) hG (fun r Z1 H locs hw hG => ?_)
  refine lv_aload_n hx hb dL_law_468 rfl (lv_at hl 2 rfl) ?_
  refine lw_arg (lv := lwLV E b j) hC hG rfl (lv_at hl 4 rfl) (lv_at hl 0 rfl) hj 1 (by decide) dL_law_469 dL_law_470 dL_law_472 rfl dL_law_473 dL_law_474 ?_
  refine z_ci (va_runV (rest := [.int r]) hF.1 (kX12_ticks l E Z1 (xs (6 * j + 1)) hw _) (cwV 1 hts gL_law_X12_ticks rfl rfl rfl ⟨rfl, hL_X12_ticks⟩ ⟨Nat.le_of_ble_eq_true rfl, Nat.le_of_ble_eq_true rfl⟩) (z_preV hF hG 97 (by decide) z_md rfl) rfl rfl hl.1 rfl (lv_room (Nat.le_of_ble_eq_true rfl)) dL_law_475 ⟨Nat.le_of_succ_le hcc.1, Nat.le_trans (Nat.le_add_right _ 6) hcc.2⟩) hG (fun r2 Z2 H locs hw hG => ?_)
  refine lv_icmp_eq (tgt := 1835) hx hb dL_law_478 (by decide) (fun _ => ?_) (fun c => absurd hw.1.symm c)
  exact W.widen (by omega) (by omega) (T E.2.2.2 Z2 H locs ls hw.2 hG hl)
theorem hL_X11_then : yX11_then.cls ≠ "java/lang/invoke/MethodHandle" ∧ yX11_then.cls ≠ "java/lang/invoke/VarHandle" ∧ (parseMethodDescriptor yX11_then.desc).map (fun d => d.parameters.length) = some 3 := by decide +kernel
theorem hL_X12_then : yX12_then.cls ≠ "java/lang/invoke/MethodHandle" ∧ yX12_then.cls ≠ "java/lang/invoke/VarHandle" ∧ (parseMethodDescriptor yX12_then.desc).map (fun d => d.parameters.length) = some 3 := by decide +kernel
set_option maxHeartbeats 2000000 in
theorem lwc_7 (l : Launch) (hfl : l.flags = flags0) {p : Program} {e : Env} {s : State} {m : MethodId} {below : List Frame} {meth : Method} {c : Code} {b L j : Nat} {xs : Nat → Int32} {E : zE} {Z : zS} {H : Heap} {locs : List Loc} {ls : Array Slot} {Q : State → Prop} (hC : lwF p m c s b L xs E) (hj : 6 * j + 6 ≤ L) (hI : zInv Z) (hG : zG E Z s H locs) (hl : lv_has ls 8 (lwLV E b j)) (T : lwT p l e s m below meth c b j E Q) : W p l e room_1 s m #[Value.ref b] below meth c H locs (112 + j) (2948 + 6 * j) Q (F0 m 483 ls []) := by
  have hF := hC.1
  have hx := hF.1.1
  have hb := hF.1.2.1
  have hts := hF.1.2.2.2.2
  have hcc := lw_room hj hC.2.2.2.2.2
  refine lv_aload_n hx hb dL_law_483 rfl (lv_at hl 3 rfl) ?_
  refine lw_arg (lv := lwLV E b j) hC hG rfl (lv_at hl 4 rfl) (lv_at hl 0 rfl) hj 1 (by decide) dL_law_484 dL_law_485 dL_law_487 rfl dL_law_488 dL_law_489 ?_
  refine lw_arg (lv := lwLV E b j) hC hG rfl (lv_at hl 4 rfl) (lv_at hl 0 rfl) hj 2 (by decide) dL_law_490 dL_law_491 dL_law_493 rfl dL_law_494 dL_law_495 ?_
  refine lw_arg (lv := lwLV E b j) hC hG rfl (lv_at hl 4 rfl) (lv_at hl 0 rfl) hj 3 (by decide) dL_law_496 dL_law_497 dL_law_499 rfl dL_law_500 dL_law_501 ?_
  refine z_ci (va_runV (rest := []) hF.1 (kX11_then l E Z (xs (6 * j + 1)) (xs (6 * j + 2)) (xs (6 * j + 3)) (M_then hI) _) (cwV 3 hts gL_law_X11_then rfl rfl rfl ⟨rfl, hL_X11_then⟩ ⟨Nat.le_of_ble_eq_true rfl, Nat.le_of_ble_eq_true rfl⟩) (z_preV hF hG 96 (by decide) z_gs rfl) rfl rfl hl.1 rfl (lv_room (Nat.le_of_ble_eq_true rfl)) dL_law_502 ⟨Nat.le_of_succ_le hcc.1, Nat.le_trans (Nat.le_add_right _ 6) hcc.2⟩) hG (fun r Z1 H locs hw hG => ?_)
  refine lv_aload_n hx hb dL_law_505 rfl (lv_at hl 2 rfl) ?_
  refine lw_arg (lv := lwLV E b j) hC hG rfl (lv_at hl 4 rfl) (lv_at hl 0 rfl) hj 1 (by decide) dL_law_506 dL_law_507 dL_law_509 rfl dL_law_510 dL_law_511 ?_
  refine lw_arg (lv := lwLV E b j) hC hG rfl (lv_at hl 4 rfl) (lv_at hl 0 rfl) hj 2 (by decide) dL_law_512 dL_law_513 dL_law_515 rfl dL_law_516 dL_law_517 ?_
  refine lw_arg (lv := lwLV E b j) hC hG rfl (lv_at hl 4 rfl) (lv_at hl 0 rfl) hj 3 (by decide) dL_law_518 dL_law_519 dL_law_521 rfl dL_law_522 dL_law_523 ?_
  refine z_ci (va_runV (rest := [.int r]) hF.1 (kX12_then l E Z1 (xs (6 * j + 1)) (xs (6 * j + 2)) (xs (6 * j + 3)) hw _) (cwV 3 hts gL_law_X12_then rfl rfl rfl ⟨rfl, hL_X12_then⟩ ⟨Nat.le_of_ble_eq_true rfl, Nat.le_of_ble_eq_true rfl⟩) (z_preV hF hG 97 (by decide) z_md rfl) rfl rfl hl.1 rfl (lv_room (Nat.le_of_ble_eq_true rfl)) dL_law_524 ⟨Nat.le_of_succ_le hcc.1, Nat.le_trans (Nat.le_add_right _ 6) hcc.2⟩) hG (fun r2 Z2 H locs hw hG => ?_)
  refine lv_icmp_eq (tgt := 1835) hx hb dL_law_527 (by decide) (fun _ => ?_) (fun c => absurd hw.1.symm c)
  exact W.widen (by omega) (by omega) (T E.2.2.2 Z2 H locs ls hw.2 hG hl)
theorem hL_X11_runs : yX11_runs.cls ≠ "java/lang/invoke/MethodHandle" ∧ yX11_runs.cls ≠ "java/lang/invoke/VarHandle" ∧ (parseMethodDescriptor yX11_runs.desc).map (fun d => d.parameters.length) = some 2 := by decide +kernel
theorem hL_X12_runs : yX12_runs.cls ≠ "java/lang/invoke/MethodHandle" ∧ yX12_runs.cls ≠ "java/lang/invoke/VarHandle" ∧ (parseMethodDescriptor yX12_runs.desc).map (fun d => d.parameters.length) = some 2 := by decide +kernel
set_option maxHeartbeats 2000000 in
theorem lwc_8 (l : Launch) (hfl : l.flags = flags0) {p : Program} {e : Env} {s : State} {m : MethodId} {below : List Frame} {meth : Method} {c : Code} {b L j : Nat} {xs : Nat → Int32} {E : zE} {Z : zS} {H : Heap} {locs : List Loc} {ls : Array Slot} {Q : State → Prop} (hC : lwF p m c s b L xs E) (hj : 6 * j + 6 ≤ L) (hI : zInv Z) (hG : zG E Z s H locs) (hl : lv_has ls 8 (lwLV E b j)) (T : lwT p l e s m below meth c b j E Q) : W p l e room_1 s m #[Value.ref b] below meth c H locs (112 + j) (2948 + 6 * j) Q (F0 m 532 ls []) := by
  have hF := hC.1
  have hx := hF.1.1
  have hb := hF.1.2.1
  have hts := hF.1.2.2.2.2
  have hcc := lw_room hj hC.2.2.2.2.2
  refine lv_aload_n hx hb dL_law_532 rfl (lv_at hl 3 rfl) ?_
  refine lw_arg (lv := lwLV E b j) hC hG rfl (lv_at hl 4 rfl) (lv_at hl 0 rfl) hj 1 (by decide) dL_law_533 dL_law_534 dL_law_536 rfl dL_law_537 dL_law_538 ?_
  refine lw_arg (lv := lwLV E b j) hC hG rfl (lv_at hl 4 rfl) (lv_at hl 0 rfl) hj 2 (by decide) dL_law_539 dL_law_540 dL_law_542 rfl dL_law_543 dL_law_544 ?_
  refine z_ci (va_runV (rest := []) hF.1 (kX11_runs l E Z (xs (6 * j + 1)) (xs (6 * j + 2)) (M_runs hI) _) (cwV 2 hts gL_law_X11_runs rfl rfl rfl ⟨rfl, hL_X11_runs⟩ ⟨Nat.le_of_ble_eq_true rfl, Nat.le_of_ble_eq_true rfl⟩) (z_preV hF hG 96 (by decide) z_gs rfl) rfl rfl hl.1 rfl (lv_room (Nat.le_of_ble_eq_true rfl)) dL_law_545 ⟨Nat.le_of_succ_le hcc.1, Nat.le_trans (Nat.le_add_right _ 6) hcc.2⟩) hG (fun r Z1 H locs hw hG => ?_)
  refine lv_aload_n hx hb dL_law_548 rfl (lv_at hl 2 rfl) ?_
  refine lw_arg (lv := lwLV E b j) hC hG rfl (lv_at hl 4 rfl) (lv_at hl 0 rfl) hj 1 (by decide) dL_law_549 dL_law_550 dL_law_552 rfl dL_law_553 dL_law_554 ?_
  refine lw_arg (lv := lwLV E b j) hC hG rfl (lv_at hl 4 rfl) (lv_at hl 0 rfl) hj 2 (by decide) dL_law_555 dL_law_556 dL_law_558 rfl dL_law_559 dL_law_560 ?_
  refine z_ci (va_runV (rest := [.int r]) hF.1 (kX12_runs l E Z1 (xs (6 * j + 1)) (xs (6 * j + 2)) hw _) (cwV 2 hts gL_law_X12_runs rfl rfl rfl ⟨rfl, hL_X12_runs⟩ ⟨Nat.le_of_ble_eq_true rfl, Nat.le_of_ble_eq_true rfl⟩) (z_preV hF hG 97 (by decide) z_md rfl) rfl rfl hl.1 rfl (lv_room (Nat.le_of_ble_eq_true rfl)) dL_law_561 ⟨Nat.le_of_succ_le hcc.1, Nat.le_trans (Nat.le_add_right _ 6) hcc.2⟩) hG (fun r2 Z2 H locs hw hG => ?_)
  refine lv_icmp_eq (tgt := 1835) hx hb dL_law_564 (by decide) (fun _ => ?_) (fun c => absurd hw.1.symm c)
  exact W.widen (by omega) (by omega) (T E.2.2.2 Z2 H locs ls hw.2 hG hl)
theorem hL_X11_quiet : yX11_quiet.cls ≠ "java/lang/invoke/MethodHandle" ∧ yX11_quiet.cls ≠ "java/lang/invoke/VarHandle" ∧ (parseMethodDescriptor yX11_quiet.desc).map (fun d => d.parameters.length) = some 1 := by decide +kernel
theorem hL_X12_quiet : yX12_quiet.cls ≠ "java/lang/invoke/MethodHandle" ∧ yX12_quiet.cls ≠ "java/lang/invoke/VarHandle" ∧ (parseMethodDescriptor yX12_quiet.desc).map (fun d => d.parameters.length) = some 1 := by decide +kernel
set_option maxHeartbeats 2000000 in
theorem lwc_9 (l : Launch) (hfl : l.flags = flags0) {p : Program} {e : Env} {s : State} {m : MethodId} {below : List Frame} {meth : Method} {c : Code} {b L j : Nat} {xs : Nat → Int32} {E : zE} {Z : zS} {H : Heap} {locs : List Loc} {ls : Array Slot} {Q : State → Prop} (hC : lwF p m c s b L xs E) (hj : 6 * j + 6 ≤ L) (hI : zInv Z) (hG : zG E Z s H locs) (hl : lv_has ls 8 (lwLV E b j)) (T : lwT p l e s m below meth c b j E Q) : W p l e room_1 s m #[Value.ref b] below meth c H locs (112 + j) (2948 + 6 * j) Q (F0 m 569 ls []) := by
  have hF := hC.1
  have hx := hF.1.1
  have hb := hF.1.2.1
  have hts := hF.1.2.2.2.2
  have hcc := lw_room hj hC.2.2.2.2.2
  refine lv_aload_n hx hb dL_law_569 rfl (lv_at hl 3 rfl) ?_
  refine lw_arg (lv := lwLV E b j) hC hG rfl (lv_at hl 4 rfl) (lv_at hl 0 rfl) hj 1 (by decide) dL_law_570 dL_law_571 dL_law_573 rfl dL_law_574 dL_law_575 ?_
  refine z_ci (va_runV (rest := []) hF.1 (kX11_quiet l E Z (xs (6 * j + 1)) (M_quiet hI) _) (cwV 1 hts gL_law_X11_quiet rfl rfl rfl ⟨rfl, hL_X11_quiet⟩ ⟨Nat.le_of_ble_eq_true rfl, Nat.le_of_ble_eq_true rfl⟩) (z_preV hF hG 96 (by decide) z_gs rfl) rfl rfl hl.1 rfl (lv_room (Nat.le_of_ble_eq_true rfl)) dL_law_576 ⟨Nat.le_of_succ_le hcc.1, Nat.le_trans (Nat.le_add_right _ 6) hcc.2⟩) hG (fun r Z1 H locs hw hG => ?_)
  refine lv_aload_n hx hb dL_law_579 rfl (lv_at hl 2 rfl) ?_
  refine lw_arg (lv := lwLV E b j) hC hG rfl (lv_at hl 4 rfl) (lv_at hl 0 rfl) hj 1 (by decide) dL_law_580 dL_law_581 dL_law_583 rfl dL_law_584 dL_law_585 ?_
  refine z_ci (va_runV (rest := [.int r]) hF.1 (kX12_quiet l E Z1 (xs (6 * j + 1)) hw _) (cwV 1 hts gL_law_X12_quiet rfl rfl rfl ⟨rfl, hL_X12_quiet⟩ ⟨Nat.le_of_ble_eq_true rfl, Nat.le_of_ble_eq_true rfl⟩) (z_preV hF hG 97 (by decide) z_md rfl) rfl rfl hl.1 rfl (lv_room (Nat.le_of_ble_eq_true rfl)) dL_law_586 ⟨Nat.le_of_succ_le hcc.1, Nat.le_trans (Nat.le_add_right _ 6) hcc.2⟩) hG (fun r2 Z2 H locs hw hG => ?_)
  refine lv_icmp_eq (tgt := 1835) hx hb dL_law_589 (by decide) (fun _ => ?_) (fun c => absurd hw.1.symm c)
  exact W.widen (by omega) (by omega) (T E.2.2.2 Z2 H locs ls hw.2 hG hl)
theorem hL_X11_misses : yX11_misses.cls ≠ "java/lang/invoke/MethodHandle" ∧ yX11_misses.cls ≠ "java/lang/invoke/VarHandle" ∧ (parseMethodDescriptor yX11_misses.desc).map (fun d => d.parameters.length) = some 1 := by decide +kernel
theorem hL_X12_misses : yX12_misses.cls ≠ "java/lang/invoke/MethodHandle" ∧ yX12_misses.cls ≠ "java/lang/invoke/VarHandle" ∧ (parseMethodDescriptor yX12_misses.desc).map (fun d => d.parameters.length) = some 1 := by decide +kernel
set_option maxHeartbeats 2000000 in
theorem lwc_10 (l : Launch) (hfl : l.flags = flags0) {p : Program} {e : Env} {s : State} {m : MethodId} {below : List Frame} {meth : Method} {c : Code} {b L j : Nat} {xs : Nat → Int32} {E : zE} {Z : zS} {H : Heap} {locs : List Loc} {ls : Array Slot} {Q : State → Prop} (hC : lwF p m c s b L xs E) (hj : 6 * j + 6 ≤ L) (hI : zInv Z) (hG : zG E Z s H locs) (hl : lv_has ls 8 (lwLV E b j)) (T : lwT p l e s m below meth c b j E Q) : W p l e room_1 s m #[Value.ref b] below meth c H locs (112 + j) (2948 + 6 * j) Q (F0 m 594 ls []) := by
  have hF := hC.1
  have hx := hF.1.1
  have hb := hF.1.2.1
  have hts := hF.1.2.2.2.2
  have hcc := lw_room hj hC.2.2.2.2.2
  refine lv_aload_n hx hb dL_law_594 rfl (lv_at hl 3 rfl) ?_
  refine lw_arg (lv := lwLV E b j) hC hG rfl (lv_at hl 4 rfl) (lv_at hl 0 rfl) hj 1 (by decide) dL_law_595 dL_law_596 dL_law_598 rfl dL_law_599 dL_law_600 ?_
  refine z_ci (va_runV (rest := []) hF.1 (kX11_misses l E Z (xs (6 * j + 1)) (M_misses hI) _) (cwV 1 hts gL_law_X11_misses rfl rfl rfl ⟨rfl, hL_X11_misses⟩ ⟨Nat.le_of_ble_eq_true rfl, Nat.le_of_ble_eq_true rfl⟩) (z_preV hF hG 96 (by decide) z_gs rfl) rfl rfl hl.1 rfl (lv_room (Nat.le_of_ble_eq_true rfl)) dL_law_601 ⟨Nat.le_of_succ_le hcc.1, Nat.le_trans (Nat.le_add_right _ 6) hcc.2⟩) hG (fun r Z1 H locs hw hG => ?_)
  refine lv_aload_n hx hb dL_law_604 rfl (lv_at hl 2 rfl) ?_
  refine lw_arg (lv := lwLV E b j) hC hG rfl (lv_at hl 4 rfl) (lv_at hl 0 rfl) hj 1 (by decide) dL_law_605 dL_law_606 dL_law_608 rfl dL_law_609 dL_law_610 ?_
  refine z_ci (va_runV (rest := [.int r]) hF.1 (kX12_misses l E Z1 (xs (6 * j + 1)) hw _) (cwV 1 hts gL_law_X12_misses rfl rfl rfl ⟨rfl, hL_X12_misses⟩ ⟨Nat.le_of_ble_eq_true rfl, Nat.le_of_ble_eq_true rfl⟩) (z_preV hF hG 97 (by decide) z_md rfl) rfl rfl hl.1 rfl (lv_room (Nat.le_of_ble_eq_true rfl)) dL_law_611 ⟨Nat.le_of_succ_le hcc.1, Nat.le_trans (Nat.le_add_right _ 6) hcc.2⟩) hG (fun r2 Z2 H locs hw hG => ?_)
  refine lv_icmp_eq (tgt := 1835) hx hb dL_law_614 (by decide) (fun _ => ?_) (fun c => absurd hw.1.symm c)
  exact W.widen (by omega) (by omega) (T E.2.2.2 Z2 H locs ls hw.2 hG hl)
theorem hL_X11_ran : yX11_ran.cls ≠ "java/lang/invoke/MethodHandle" ∧ yX11_ran.cls ≠ "java/lang/invoke/VarHandle" ∧ (parseMethodDescriptor yX11_ran.desc).map (fun d => d.parameters.length) = some 3 := by decide +kernel
theorem hL_X12_ran : yX12_ran.cls ≠ "java/lang/invoke/MethodHandle" ∧ yX12_ran.cls ≠ "java/lang/invoke/VarHandle" ∧ (parseMethodDescriptor yX12_ran.desc).map (fun d => d.parameters.length) = some 3 := by decide +kernel
set_option maxHeartbeats 2000000 in
theorem lwc_11 (l : Launch) (hfl : l.flags = flags0) {p : Program} {e : Env} {s : State} {m : MethodId} {below : List Frame} {meth : Method} {c : Code} {b L j : Nat} {xs : Nat → Int32} {E : zE} {Z : zS} {H : Heap} {locs : List Loc} {ls : Array Slot} {Q : State → Prop} (hC : lwF p m c s b L xs E) (hj : 6 * j + 6 ≤ L) (hI : zInv Z) (hG : zG E Z s H locs) (hl : lv_has ls 8 (lwLV E b j)) (T : lwT p l e s m below meth c b j E Q) : W p l e room_1 s m #[Value.ref b] below meth c H locs (112 + j) (2948 + 6 * j) Q (F0 m 619 ls []) := by
  have hF := hC.1
  have hx := hF.1.1
  have hb := hF.1.2.1
  have hts := hF.1.2.2.2.2
  have hcc := lw_room hj hC.2.2.2.2.2
  refine lv_aload_n hx hb dL_law_619 rfl (lv_at hl 3 rfl) ?_
  refine lw_arg (lv := lwLV E b j) hC hG rfl (lv_at hl 4 rfl) (lv_at hl 0 rfl) hj 1 (by decide) dL_law_620 dL_law_621 dL_law_623 rfl dL_law_624 dL_law_625 ?_
  refine lw_arg (lv := lwLV E b j) hC hG rfl (lv_at hl 4 rfl) (lv_at hl 0 rfl) hj 2 (by decide) dL_law_626 dL_law_627 dL_law_629 rfl dL_law_630 dL_law_631 ?_
  refine lw_arg (lv := lwLV E b j) hC hG rfl (lv_at hl 4 rfl) (lv_at hl 0 rfl) hj 3 (by decide) dL_law_632 dL_law_633 dL_law_635 rfl dL_law_636 dL_law_637 ?_
  refine z_ci (va_runV (rest := []) hF.1 (kX11_ran l E Z (xs (6 * j + 1)) (xs (6 * j + 2)) (xs (6 * j + 3)) (M_ran hI) _) (cwV 3 hts gL_law_X11_ran rfl rfl rfl ⟨rfl, hL_X11_ran⟩ ⟨Nat.le_of_ble_eq_true rfl, Nat.le_of_ble_eq_true rfl⟩) (z_preV hF hG 96 (by decide) z_gs rfl) rfl rfl hl.1 rfl (lv_room (Nat.le_of_ble_eq_true rfl)) dL_law_638 ⟨Nat.le_of_succ_le hcc.1, Nat.le_trans (Nat.le_add_right _ 6) hcc.2⟩) hG (fun r Z1 H locs hw hG => ?_)
  refine lv_aload_n hx hb dL_law_641 rfl (lv_at hl 2 rfl) ?_
  refine lw_arg (lv := lwLV E b j) hC hG rfl (lv_at hl 4 rfl) (lv_at hl 0 rfl) hj 1 (by decide) dL_law_642 dL_law_643 dL_law_645 rfl dL_law_646 dL_law_647 ?_
  refine lw_arg (lv := lwLV E b j) hC hG rfl (lv_at hl 4 rfl) (lv_at hl 0 rfl) hj 2 (by decide) dL_law_648 dL_law_649 dL_law_651 rfl dL_law_652 dL_law_653 ?_
  refine lw_arg (lv := lwLV E b j) hC hG rfl (lv_at hl 4 rfl) (lv_at hl 0 rfl) hj 3 (by decide) dL_law_654 dL_law_655 dL_law_657 rfl dL_law_658 dL_law_659 ?_
  refine z_ci (va_runV (rest := [.int r]) hF.1 (kX12_ran l E Z1 (xs (6 * j + 1)) (xs (6 * j + 2)) (xs (6 * j + 3)) hw _) (cwV 3 hts gL_law_X12_ran rfl rfl rfl ⟨rfl, hL_X12_ran⟩ ⟨Nat.le_of_ble_eq_true rfl, Nat.le_of_ble_eq_true rfl⟩) (z_preV hF hG 97 (by decide) z_md rfl) rfl rfl hl.1 rfl (lv_room (Nat.le_of_ble_eq_true rfl)) dL_law_660 ⟨Nat.le_of_succ_le hcc.1, Nat.le_trans (Nat.le_add_right _ 6) hcc.2⟩) hG (fun r2 Z2 H locs hw hG => ?_)
  refine lv_icmp_eq (tgt := 1835) hx hb dL_law_663 (by decide) (fun _ => ?_) (fun c => absurd hw.1.symm c)
  exact W.widen (by omega) (by omega) (T E.2.2.2 Z2 H locs ls hw.2 hG hl)
theorem hL_X11_admitted : yX11_admitted.cls ≠ "java/lang/invoke/MethodHandle" ∧ yX11_admitted.cls ≠ "java/lang/invoke/VarHandle" ∧ (parseMethodDescriptor yX11_admitted.desc).map (fun d => d.parameters.length) = some 2 := by decide +kernel
theorem hL_X12_admitted : yX12_admitted.cls ≠ "java/lang/invoke/MethodHandle" ∧ yX12_admitted.cls ≠ "java/lang/invoke/VarHandle" ∧ (parseMethodDescriptor yX12_admitted.desc).map (fun d => d.parameters.length) = some 2 := by decide +kernel
set_option maxHeartbeats 2000000 in
theorem lwc_12 (l : Launch) (hfl : l.flags = flags0) {p : Program} {e : Env} {s : State} {m : MethodId} {below : List Frame} {meth : Method} {c : Code} {b L j : Nat} {xs : Nat → Int32} {E : zE} {Z : zS} {H : Heap} {locs : List Loc} {ls : Array Slot} {Q : State → Prop} (hC : lwF p m c s b L xs E) (hj : 6 * j + 6 ≤ L) (hI : zInv Z) (hG : zG E Z s H locs) (hl : lv_has ls 8 (lwLV E b j)) (T : lwT p l e s m below meth c b j E Q) : W p l e room_1 s m #[Value.ref b] below meth c H locs (112 + j) (2948 + 6 * j) Q (F0 m 668 ls []) := by
  have hF := hC.1
  have hx := hF.1.1
  have hb := hF.1.2.1
  have hts := hF.1.2.2.2.2
  have hcc := lw_room hj hC.2.2.2.2.2
  refine lv_aload_n hx hb dL_law_668 rfl (lv_at hl 3 rfl) ?_
  refine lw_arg (lv := lwLV E b j) hC hG rfl (lv_at hl 4 rfl) (lv_at hl 0 rfl) hj 1 (by decide) dL_law_669 dL_law_670 dL_law_672 rfl dL_law_673 dL_law_674 ?_
  refine lw_arg (lv := lwLV E b j) hC hG rfl (lv_at hl 4 rfl) (lv_at hl 0 rfl) hj 2 (by decide) dL_law_675 dL_law_676 dL_law_678 rfl dL_law_679 dL_law_680 ?_
  refine z_ci (va_runV (rest := []) hF.1 (kX11_admitted l E Z (xs (6 * j + 1)) (xs (6 * j + 2)) (M_admitted hI) _) (cwV 2 hts gL_law_X11_admitted rfl rfl rfl ⟨rfl, hL_X11_admitted⟩ ⟨Nat.le_of_ble_eq_true rfl, Nat.le_of_ble_eq_true rfl⟩) (z_preV hF hG 96 (by decide) z_gs rfl) rfl rfl hl.1 rfl (lv_room (Nat.le_of_ble_eq_true rfl)) dL_law_681 ⟨Nat.le_of_succ_le hcc.1, Nat.le_trans (Nat.le_add_right _ 6) hcc.2⟩) hG (fun r Z1 H locs hw hG => ?_)
  refine lv_aload_n hx hb dL_law_684 rfl (lv_at hl 2 rfl) ?_
  refine lw_arg (lv := lwLV E b j) hC hG rfl (lv_at hl 4 rfl) (lv_at hl 0 rfl) hj 1 (by decide) dL_law_685 dL_law_686 dL_law_688 rfl dL_law_689 dL_law_690 ?_
  refine lw_arg (lv := lwLV E b j) hC hG rfl (lv_at hl 4 rfl) (lv_at hl 0 rfl) hj 2 (by decide) dL_law_691 dL_law_692 dL_law_694 rfl dL_law_695 dL_law_696 ?_
  refine z_ci (va_runV (rest := [.int r]) hF.1 (kX12_admitted l E Z1 (xs (6 * j + 1)) (xs (6 * j + 2)) hw _) (cwV 2 hts gL_law_X12_admitted rfl rfl rfl ⟨rfl, hL_X12_admitted⟩ ⟨Nat.le_of_ble_eq_true rfl, Nat.le_of_ble_eq_true rfl⟩) (z_preV hF hG 97 (by decide) z_md rfl) rfl rfl hl.1 rfl (lv_room (Nat.le_of_ble_eq_true rfl)) dL_law_697 ⟨Nat.le_of_succ_le hcc.1, Nat.le_trans (Nat.le_add_right _ 6) hcc.2⟩) hG (fun r2 Z2 H locs hw hG => ?_)
  refine lv_icmp_eq (tgt := 1835) hx hb dL_law_700 (by decide) (fun _ => ?_) (fun c => absurd hw.1.symm c)
  exact W.widen (by omega) (by omega) (T E.2.2.2 Z2 H locs ls hw.2 hG hl)
theorem hL_X11_demand : yX11_demand.cls ≠ "java/lang/invoke/MethodHandle" ∧ yX11_demand.cls ≠ "java/lang/invoke/VarHandle" ∧ (parseMethodDescriptor yX11_demand.desc).map (fun d => d.parameters.length) = some 2 := by decide +kernel
theorem hL_X12_demand : yX12_demand.cls ≠ "java/lang/invoke/MethodHandle" ∧ yX12_demand.cls ≠ "java/lang/invoke/VarHandle" ∧ (parseMethodDescriptor yX12_demand.desc).map (fun d => d.parameters.length) = some 2 := by decide +kernel
set_option maxHeartbeats 2000000 in
theorem lwc_13 (l : Launch) (hfl : l.flags = flags0) {p : Program} {e : Env} {s : State} {m : MethodId} {below : List Frame} {meth : Method} {c : Code} {b L j : Nat} {xs : Nat → Int32} {E : zE} {Z : zS} {H : Heap} {locs : List Loc} {ls : Array Slot} {Q : State → Prop} (hC : lwF p m c s b L xs E) (hj : 6 * j + 6 ≤ L) (hI : zInv Z) (hG : zG E Z s H locs) (hl : lv_has ls 8 (lwLV E b j)) (T : lwT p l e s m below meth c b j E Q) : W p l e room_1 s m #[Value.ref b] below meth c H locs (112 + j) (2948 + 6 * j) Q (F0 m 705 ls []) := by
  have hF := hC.1
  have hx := hF.1.1
  have hb := hF.1.2.1
  have hts := hF.1.2.2.2.2
  have hcc := lw_room hj hC.2.2.2.2.2
  refine lv_aload_n hx hb dL_law_705 rfl (lv_at hl 3 rfl) ?_
  refine lw_arg (lv := lwLV E b j) hC hG rfl (lv_at hl 4 rfl) (lv_at hl 0 rfl) hj 1 (by decide) dL_law_706 dL_law_707 dL_law_709 rfl dL_law_710 dL_law_711 ?_
  refine lw_arg (lv := lwLV E b j) hC hG rfl (lv_at hl 4 rfl) (lv_at hl 0 rfl) hj 2 (by decide) dL_law_712 dL_law_713 dL_law_715 rfl dL_law_716 dL_law_717 ?_
  refine z_ci (va_runV (rest := []) hF.1 (kX11_demand l E Z (xs (6 * j + 1)) (xs (6 * j + 2)) (M_demand hI) _) (cwV 2 hts gL_law_X11_demand rfl rfl rfl ⟨rfl, hL_X11_demand⟩ ⟨Nat.le_of_ble_eq_true rfl, Nat.le_of_ble_eq_true rfl⟩) (z_preV hF hG 96 (by decide) z_gs rfl) rfl rfl hl.1 rfl (lv_room (Nat.le_of_ble_eq_true rfl)) dL_law_718 ⟨Nat.le_of_succ_le hcc.1, Nat.le_trans (Nat.le_add_right _ 6) hcc.2⟩) hG (fun r Z1 H locs hw hG => ?_)
  refine lv_aload_n hx hb dL_law_721 rfl (lv_at hl 2 rfl) ?_
  refine lw_arg (lv := lwLV E b j) hC hG rfl (lv_at hl 4 rfl) (lv_at hl 0 rfl) hj 1 (by decide) dL_law_722 dL_law_723 dL_law_725 rfl dL_law_726 dL_law_727 ?_
  refine lw_arg (lv := lwLV E b j) hC hG rfl (lv_at hl 4 rfl) (lv_at hl 0 rfl) hj 2 (by decide) dL_law_728 dL_law_729 dL_law_731 rfl dL_law_732 dL_law_733 ?_
  refine z_ci (va_runV (rest := [.int r]) hF.1 (kX12_demand l E Z1 (xs (6 * j + 1)) (xs (6 * j + 2)) hw _) (cwV 2 hts gL_law_X12_demand rfl rfl rfl ⟨rfl, hL_X12_demand⟩ ⟨Nat.le_of_ble_eq_true rfl, Nat.le_of_ble_eq_true rfl⟩) (z_preV hF hG 97 (by decide) z_md rfl) rfl rfl hl.1 rfl (lv_room (Nat.le_of_ble_eq_true rfl)) dL_law_734 ⟨Nat.le_of_succ_le hcc.1, Nat.le_trans (Nat.le_add_right _ 6) hcc.2⟩) hG (fun r2 Z2 H locs hw hG => ?_)
  refine lv_icmp_eq (tgt := 1835) hx hb dL_law_737 (by decide) (fun _ => ?_) (fun c => absurd hw.1.symm c)
  exact W.widen (by omega) (by omega) (T E.2.2.2 Z2 H locs ls hw.2 hG hl)
