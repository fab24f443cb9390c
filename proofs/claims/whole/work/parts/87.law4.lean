/-! THE LAW: cases -/
theorem hL_X11_image : yX11_image.cls ≠ "java/lang/invoke/MethodHandle" ∧ yX11_image.cls ≠ "java/lang/invoke/VarHandle" ∧ (parseMethodDescriptor yX11_image.desc).map (fun d => d.parameters.length) = some 0 := by decide +kernel
theorem hL_X12_image : yX12_image.cls ≠ "java/lang/invoke/MethodHandle" ∧ yX12_image.cls ≠ "java/lang/invoke/VarHandle" ∧ (parseMethodDescriptor yX12_image.desc).map (fun d => d.parameters.length) = some 0 := by decide +kernel
set_option maxHeartbeats 2000000 in
theorem lwc_28 (l : Launch) (hfl : l.flags = flags0) {p : Program} {e : Env} {s : State} {m : MethodId} {below : List Frame} {meth : Method} {c : Code} {b L j : Nat} {xs : Nat → Int32} {E : zE} {Z : zS} {H : Heap} {locs : List Loc} {ls : Array Slot} {Q : State → Prop} (hC : lwF p m c s b L xs E) (hj : 6 * j + 6 ≤ L) (hI : zInv Z) (hG : zG E Z s H locs) (hl : lv_has ls 8 (lwLV E b j)) (T : lwT p l e s m below meth c b j E Q) : W p l e room_1 s m #[Value.ref b] below meth c H locs (112 + j) (2948 + 6 * j) Q (F0 m 1263 ls []) := by
  have hF := hC.1
  have hx := hF.1.1
  have hb := hF.1.2.1
  have hts := hF.1.2.2.2.2
  have hcc := lw_room hj hC.2.2.2.2.2
  refine lv_aload_n hx hb dL_law_1263 rfl (lv_at hl 3 rfl) ?_
  refine z_ci (va_runV (rest := []) hF.1 (kX11_image l E Z  (M_image hI) _) (cwV 0 hts gL_law_X11_image rfl rfl rfl ⟨rfl, hL_X11_image⟩ ⟨Nat.le_of_ble_eq_true rfl, Nat.le_of_ble_eq_true rfl⟩) (z_preV hF hG 96 (by decide) z_gs rfl) rfl rfl hl.1 rfl (lv_room (Nat.le_of_ble_eq_true rfl)) dL_law_1264 ⟨Nat.le_of_succ_le hcc.1, Nat.le_trans (Nat.le_add_right _ 6) hcc.2⟩) hG (fun r Z1 H locs hw hG => ?_)
  refine lv_aload_n hx hb dL_law_1267 rfl (lv_at hl 2 rfl) ?_
  refine z_ci (va_runV (rest := [.int r]) hF.1 (kX12_image l E Z1  hw _) (cwV 0 hts gL_law_X12_image rfl rfl rfl ⟨rfl, hL_X12_image⟩ ⟨Nat.le_of_ble_eq_true rfl, Nat.le_of_ble_eq_true rfl⟩) (z_preV hF hG 97 (by decide) z_md rfl) rfl rfl hl.1 rfl (lv_room (Nat.le_of_ble_eq_true rfl)) dL_law_1268 ⟨Nat.le_of_succ_le hcc.1, Nat.le_trans (Nat.le_add_right _ 6) hcc.2⟩) hG (fun r2 Z2 H locs hw hG => ?_)
  refine lv_icmp_eq (tgt := 1835) hx hb dL_law_1271 (by decide) (fun _ => ?_) (fun c => absurd hw.1.symm c)
  exact W.widen (by omega) (by omega) (T E.2.2.2 Z2 H locs ls hw.2 hG hl)
theorem hL_X11_restore : yX11_restore.cls ≠ "java/lang/invoke/MethodHandle" ∧ yX11_restore.cls ≠ "java/lang/invoke/VarHandle" ∧ (parseMethodDescriptor yX11_restore.desc).map (fun d => d.parameters.length) = some 0 := by decide +kernel
theorem hL_X12_restore : yX12_restore.cls ≠ "java/lang/invoke/MethodHandle" ∧ yX12_restore.cls ≠ "java/lang/invoke/VarHandle" ∧ (parseMethodDescriptor yX12_restore.desc).map (fun d => d.parameters.length) = some 0 := by decide +kernel
set_option maxHeartbeats 2000000 in
theorem lwc_29 (l : Launch) (hfl : l.flags = flags0) {p : Program} {e : Env} {s : State} {m : MethodId} {below : List Frame} {meth : Method} {c : Code} {b L j : Nat} {xs : Nat → Int32} {E : zE} {Z : zS} {H : Heap} {locs : List Loc} {ls : Array Slot} {Q : State → Prop} (hC : lwF p m c s b L xs E) (hj : 6 * j + 6 ≤ L) (hI : zInv Z) (hG : zG E Z s H locs) (hl : lv_has ls 8 (lwLV E b j)) (T : lwT p l e s m below meth c b j E Q) : W p l e room_1 s m #[Value.ref b] below meth c H locs (112 + j) (2948 + 6 * j) Q (F0 m 1276 ls []) := by
  have hF := hC.1
  have hx := hF.1.1
  have hb := hF.1.2.1
  have hts := hF.1.2.2.2.2
  have hcc := lw_room hj hC.2.2.2.2.2
  refine lv_aload_n hx hb dL_law_1276 rfl (lv_at hl 3 rfl) ?_
  refine z_ci (va_runV (rest := []) hF.1 (kX11_restore l E Z  (M_restore hI) _) (cwV 0 hts gL_law_X11_restore rfl rfl rfl ⟨rfl, hL_X11_restore⟩ ⟨Nat.le_of_ble_eq_true rfl, Nat.le_of_ble_eq_true rfl⟩) (z_preV hF hG 96 (by decide) z_gs rfl) rfl rfl hl.1 rfl (lv_room (Nat.le_of_ble_eq_true rfl)) dL_law_1277 ⟨Nat.le_of_succ_le hcc.1, Nat.le_trans (Nat.le_add_right _ 6) hcc.2⟩) hG (fun r Z1 H locs hw hG => ?_)
  refine lv_aload_n hx hb dL_law_1280 rfl (lv_at hl 2 rfl) ?_
  refine z_ci (va_runV (rest := [.int r]) hF.1 (kX12_restore l E Z1  hw _) (cwV 0 hts gL_law_X12_restore rfl rfl rfl ⟨rfl, hL_X12_restore⟩ ⟨Nat.le_of_ble_eq_true rfl, Nat.le_of_ble_eq_true rfl⟩) (z_preV hF hG 97 (by decide) z_md rfl) rfl rfl hl.1 rfl (lv_room (Nat.le_of_ble_eq_true rfl)) dL_law_1281 ⟨Nat.le_of_succ_le hcc.1, Nat.le_trans (Nat.le_add_right _ 6) hcc.2⟩) hG (fun r2 Z2 H locs hw hG => ?_)
  refine lv_icmp_eq (tgt := 1835) hx hb dL_law_1284 (by decide) (fun _ => ?_) (fun c => absurd hw.1.symm c)
  exact W.widen (by omega) (by omega) (T E.2.2.2 Z2 H locs ls hw.2 hG hl)
theorem hL_X11_count : yX11_count.cls ≠ "java/lang/invoke/MethodHandle" ∧ yX11_count.cls ≠ "java/lang/invoke/VarHandle" ∧ (parseMethodDescriptor yX11_count.desc).map (fun d => d.parameters.length) = some 1 := by decide +kernel
theorem hL_X12_count : yX12_count.cls ≠ "java/lang/invoke/MethodHandle" ∧ yX12_count.cls ≠ "java/lang/invoke/VarHandle" ∧ (parseMethodDescriptor yX12_count.desc).map (fun d => d.parameters.length) = some 1 := by decide +kernel
set_option maxHeartbeats 2000000 in
theorem lwc_30 (l : Launch) (hfl : l.flags = flags0) {p : Program} {e : Env} {s : State} {m : MethodId} {below : List Frame} {meth : Method} {c : Code} {b L j : Nat} {xs : Nat → Int32} {E : zE} {Z : zS} {H : Heap} {locs : List Loc} {ls : Array Slot} {Q : State → Prop} (hC : lwF p m c s b L xs E) (hj : 6 * j + 6 ≤ L) (hI : zInv Z) (hG : zG E Z s H locs) (hl : lv_has ls 8 (lwLV E b j)) (T : lwT p l e s m below meth c b j E Q) : W p l e room_1 s m #[Value.ref b] below meth c H locs (112 + j) (2948 + 6 * j) Q (F0 m 1289 ls []) := by
  have hF := hC.1
  have hx := hF.1.1
  have hb := hF.1.2.1
  have hts := hF.1.2.2.2.2
  have hcc := lw_room hj hC.2.2.2.2.2
  refine lv_aload_n hx hb dL_law_1289 rfl (lv_at hl 3 rfl) ?_
  refine lw_arg (lv := lwLV E b j) hC hG rfl (lv_at hl 4 rfl) (lv_at hl 0 rfl) hj 1 (by decide) dL_law_1290 dL_law_1291 dL_law_1293 rfl dL_law_1294 dL_law_1295 ?_
  refine z_ci (va_runV (rest := []) hF.1 (kX11_count l E Z (xs (6 * j + 1)) (M_count hI) _) (cwV 1 hts gL_law_X11_count rfl rfl rfl ⟨rfl, hL_X11_count⟩ ⟨Nat.le_of_ble_eq_true rfl, Nat.le_of_ble_eq_true rfl⟩) (z_preV hF hG 96 (by decide) z_gs rfl) rfl rfl hl.1 rfl (lv_room (Nat.le_of_ble_eq_true rfl)) dL_law_1296 ⟨Nat.le_of_succ_le hcc.1, Nat.le_trans (Nat.le_add_right _ 6) hcc.2⟩) hG (fun r Z1 H locs hw hG => ?_)
  refine lv_aload_n hx hb dL_law_1299 rfl (lv_at hl 2 rfl) ?_
  refine lw_arg (lv := lwLV E b j) hC hG rfl (lv_at hl 4 rfl) (lv_at hl 0 rfl) hj 1 (by decide) dL_law_1300 dL_law_1301 dL_law_1303 rfl dL_law_1304 dL_law_1305 ?_
  refine z_ci (va_runV (rest := [.int r]) hF.1 (kX12_count l E Z1 (xs (6 * j + 1)) hw _) (cwV 1 hts gL_law_X12_count rfl rfl rfl ⟨rfl, hL_X12_count⟩ ⟨Nat.le_of_ble_eq_true rfl, Nat.le_of_ble_eq_true rfl⟩) (z_preV hF hG 97 (by decide) z_md rfl) rfl rfl hl.1 rfl (lv_room (Nat.le_of_ble_eq_true rfl)) dL_law_1306 ⟨Nat.le_of_succ_le hcc.1, Nat.le_trans (Nat.le_add_right _ 6) hcc.2⟩) hG (fun r2 Z2 H locs hw hG => ?_)
  refine lv_icmp_eq (tgt := 1835) hx hb dL_law_1309 (by decide) (fun _ => ?_) (fun c => absurd hw.1.symm c)
  exact W.widen (by omega) (by omega) (T E.2.2.2 Z2 H locs ls hw.2 hG hl)
theorem hL_X11_tray : yX11_tray.cls ≠ "java/lang/invoke/MethodHandle" ∧ yX11_tray.cls ≠ "java/lang/invoke/VarHandle" ∧ (parseMethodDescriptor yX11_tray.desc).map (fun d => d.parameters.length) = some 3 := by decide +kernel
theorem hL_X12_tray : yX12_tray.cls ≠ "java/lang/invoke/MethodHandle" ∧ yX12_tray.cls ≠ "java/lang/invoke/VarHandle" ∧ (parseMethodDescriptor yX12_tray.desc).map (fun d => d.parameters.length) = some 3 := by decide +kernel
set_option maxHeartbeats 2000000 in
theorem lwc_31 (l : Launch) (hfl : l.flags = flags0) {p : Program} {e : Env} {s : State} {m : MethodId} {below : List Frame} {meth : Method} {c : Code} {b L j : Nat} {xs : Nat → Int32} {E : zE} {Z : zS} {H : Heap} {locs : List Loc} {ls : Array Slot} {Q : State → Prop} (hC : lwF p m c s b L xs E) (hj : 6 * j + 6 ≤ L) (hI : zInv Z) (hG : zG E Z s H locs) (hl : lv_has ls 8 (lwLV E b j)) (T : lwT p l e s m below meth c b j E Q) : W p l e room_1 s m #[Value.ref b] below meth c H locs (112 + j) (2948 + 6 * j) Q (F0 m 1314 ls []) := by
  have hF := hC.1
  have hx := hF.1.1
  have hb := hF.1.2.1
  have hts := hF.1.2.2.2.2
  have hcc := lw_room hj hC.2.2.2.2.2
  refine lv_aload_n hx hb dL_law_1314 rfl (lv_at hl 3 rfl) ?_
  refine lw_arg (lv := lwLV E b j) hC hG rfl (lv_at hl 4 rfl) (lv_at hl 0 rfl) hj 1 (by decide) dL_law_1315 dL_law_1316 dL_law_1318 rfl dL_law_1319 dL_law_1320 ?_
  refine lw_arg (lv := lwLV E b j) hC hG rfl (lv_at hl 4 rfl) (lv_at hl 0 rfl) hj 2 (by decide) dL_law_1321 dL_law_1322 dL_law_1324 rfl dL_law_1325 dL_law_1326 ?_
  refine lw_arg (lv := lwLV E b j) hC hG rfl (lv_at hl 4 rfl) (lv_at hl 0 rfl) hj 3 (by decide) dL_law_1327 dL_law_1328 dL_law_1330 rfl dL_law_1331 dL_law_1332 ?_
  refine z_ci (va_runV (rest := []) hF.1 (kX11_tray l E Z (xs (6 * j + 1)) (xs (6 * j + 2)) (xs (6 * j + 3)) (M_tray hI) _) (cwV 3 hts gL_law_X11_tray rfl rfl rfl ⟨rfl, hL_X11_tray⟩ ⟨Nat.le_of_ble_eq_true rfl, Nat.le_of_ble_eq_true rfl⟩) (z_preV hF hG 96 (by decide) z_gs rfl) rfl rfl hl.1 rfl (lv_room (Nat.le_of_ble_eq_true rfl)) dL_law_1333 ⟨Nat.le_of_succ_le hcc.1, Nat.le_trans (Nat.le_add_right _ 6) hcc.2⟩) hG (fun r Z1 H locs hw hG => ?_)
  refine lv_aload_n hx hb dL_law_1336 rfl (lv_at hl 2 rfl) ?_
  refine lw_arg (lv := lwLV E b j) hC hG rfl (lv_at hl 4 rfl) (lv_at hl 0 rfl) hj 1 (by decide) dL_law_1337 dL_law_1338 dL_law_1340 rfl dL_law_1341 dL_law_1342 ?_
  refine lw_arg (lv := lwLV E b j) hC hG rfl (lv_at hl 4 rfl) (lv_at hl 0 rfl) hj 2 (by decide) dL_law_1343 dL_law_1344 dL_law_1346 rfl dL_law_1347 dL_law_1348 ?_
  refine lw_arg (lv := lwLV E b j) hC hG rfl (lv_at hl 4 rfl) (lv_at hl 0 rfl) hj 3 (by decide) dL_law_1349 dL_law_1350 dL_law_1352 rfl dL_law_1353 dL_law_1354 ?_
  refine z_ci (va_runV (rest := [.int r]) hF.1 (kX12_tray l E Z1 (xs (6 * j + 1)) (xs (6 * j + 2)) (xs (6 * j + 3)) hw _) (cwV 3 hts gL_law_X12_tray rfl rfl rfl ⟨rfl, hL_X12_tray⟩ ⟨Nat.le_of_ble_eq_true rfl, Nat.le_of_ble_eq_true rfl⟩) (z_preV hF hG 97 (by decide) z_md rfl) rfl rfl hl.1 rfl (lv_room (Nat.le_of_ble_eq_true rfl)) dL_law_1355 ⟨Nat.le_of_succ_le hcc.1, Nat.le_trans (Nat.le_add_right _ 6) hcc.2⟩) hG (fun r2 Z2 H locs hw hG => ?_)
  refine lv_icmp_eq (tgt := 1835) hx hb dL_law_1358 (by decide) (fun _ => ?_) (fun c => absurd hw.1.symm c)
  exact W.widen (by omega) (by omega) (T E.2.2.2 Z2 H locs ls hw.2 hG hl)
theorem hL_X11_lays : yX11_lays.cls ≠ "java/lang/invoke/MethodHandle" ∧ yX11_lays.cls ≠ "java/lang/invoke/VarHandle" ∧ (parseMethodDescriptor yX11_lays.desc).map (fun d => d.parameters.length) = some 3 := by decide +kernel
theorem hL_X12_lays : yX12_lays.cls ≠ "java/lang/invoke/MethodHandle" ∧ yX12_lays.cls ≠ "java/lang/invoke/VarHandle" ∧ (parseMethodDescriptor yX12_lays.desc).map (fun d => d.parameters.length) = some 3 := by decide +kernel
set_option maxHeartbeats 2000000 in
theorem lwc_32 (l : Launch) (hfl : l.flags = flags0) {p : Program} {e : Env} {s : State} {m : MethodId} {below : List Frame} {meth : Method} {c : Code} {b L j : Nat} {xs : Nat → Int32} {E : zE} {Z : zS} {H : Heap} {locs : List Loc} {ls : Array Slot} {Q : State → Prop} (hC : lwF p m c s b L xs E) (hj : 6 * j + 6 ≤ L) (hI : zInv Z) (hG : zG E Z s H locs) (hl : lv_has ls 8 (lwLV E b j)) (T : lwT p l e s m below meth c b j E Q) : W p l e room_1 s m #[Value.ref b] below meth c H locs (112 + j) (2948 + 6 * j) Q (F0 m 1363 ls []) := by
  have hF := hC.1
  have hx := hF.1.1
  have hb := hF.1.2.1
  have hts := hF.1.2.2.2.2
  have hcc := lw_room hj hC.2.2.2.2.2
  refine lv_aload_n hx hb dL_law_1363 rfl (lv_at hl 3 rfl) ?_
  refine lw_arg (lv := lwLV E b j) hC hG rfl (lv_at hl 4 rfl) (lv_at hl 0 rfl) hj 1 (by decide) dL_law_1364 dL_law_1365 dL_law_1367 rfl dL_law_1368 dL_law_1369 ?_
  refine lw_arg (lv := lwLV E b j) hC hG rfl (lv_at hl 4 rfl) (lv_at hl 0 rfl) hj 2 (by decide) dL_law_1370 dL_law_1371 dL_law_1373 rfl dL_law_1374 dL_law_1375 ?_
  refine lw_arg (lv := lwLV E b j) hC hG rfl (lv_at hl 4 rfl) (lv_at hl 0 rfl) hj 3 (by decide) dL_law_1376 dL_law_1377 dL_law_1379 rfl dL_law_1380 dL_law_1381 ?_
  refine z_ci (va_runV (rest := []) hF.1 (kX11_lays l E Z (xs (6 * j + 1)) (xs (6 * j + 2)) (xs (6 * j + 3)) (M_lays hI) _) (cwV 3 hts gL_law_X11_lays rfl rfl rfl ⟨rfl, hL_X11_lays⟩ ⟨Nat.le_of_ble_eq_true rfl, Nat.le_of_ble_eq_true rfl⟩) (z_preV hF hG 96 (by decide) z_gs rfl) rfl rfl hl.1 rfl (lv_room (Nat.le_of_ble_eq_true rfl)) dL_law_1382 ⟨Nat.le_of_succ_le hcc.1, Nat.le_trans (Nat.le_add_right _ 6) hcc.2⟩) hG (fun r Z1 H locs hw hG => ?_)
  refine lv_aload_n hx hb dL_law_1385 rfl (lv_at hl 2 rfl) ?_
  refine lw_arg (lv := lwLV E b j) hC hG rfl (lv_at hl 4 rfl) (lv_at hl 0 rfl) hj 1 (by decide) dL_law_1386 dL_law_1387 dL_law_1389 rfl dL_law_1390 dL_law_1391 ?_
  refine lw_arg (lv := lwLV E b j) hC hG rfl (lv_at hl 4 rfl) (lv_at hl 0 rfl) hj 2 (by decide) dL_law_1392 dL_law_1393 dL_law_1395 rfl dL_law_1396 dL_law_1397 ?_
  refine lw_arg (lv := lwLV E b j) hC hG rfl (lv_at hl 4 rfl) (lv_at hl 0 rfl) hj 3 (by decide) dL_law_1398 dL_law_1399 dL_law_1401 rfl dL_law_1402 dL_law_1403 ?_
  refine z_ci (va_runV (rest := [.int r]) hF.1 (kX12_lays l E Z1 (xs (6 * j + 1)) (xs (6 * j + 2)) (xs (6 * j + 3)) hw _) (cwV 3 hts gL_law_X12_lays rfl rfl rfl ⟨rfl, hL_X12_lays⟩ ⟨Nat.le_of_ble_eq_true rfl, Nat.le_of_ble_eq_true rfl⟩) (z_preV hF hG 97 (by decide) z_md rfl) rfl rfl hl.1 rfl (lv_room (Nat.le_of_ble_eq_true rfl)) dL_law_1404 ⟨Nat.le_of_succ_le hcc.1, Nat.le_trans (Nat.le_add_right _ 6) hcc.2⟩) hG (fun r2 Z2 H locs hw hG => ?_)
  refine lv_icmp_eq (tgt := 1835) hx hb dL_law_1407 (by decide) (fun _ => ?_) (fun c => absurd hw.1.symm c)
  exact W.widen (by omega) (by omega) (T E.2.2.2 Z2 H locs ls hw.2 hG hl)
theorem hL_X11_laid : yX11_laid.cls ≠ "java/lang/invoke/MethodHandle" ∧ yX11_laid.cls ≠ "java/lang/invoke/VarHandle" ∧ (parseMethodDescriptor yX11_laid.desc).map (fun d => d.parameters.length) = some 2 := by decide +kernel
theorem hL_X12_laid : yX12_laid.cls ≠ "java/lang/invoke/MethodHandle" ∧ yX12_laid.cls ≠ "java/lang/invoke/VarHandle" ∧ (parseMethodDescriptor yX12_laid.desc).map (fun d => d.parameters.length) = some 2 := by decide +kernel
set_option maxHeartbeats 2000000 in
theorem lwc_33 (l : Launch) (hfl : l.flags = flags0) {p : Program} {e : Env} {s : State} {m : MethodId} {below : List Frame} {meth : Method} {c : Code} {b L j : Nat} {xs : Nat → Int32} {E : zE} {Z : zS} {H : Heap} {locs : List Loc} {ls : Array Slot} {Q : State → Prop} (hC : lwF p m c s b L xs E) (hj : 6 * j + 6 ≤ L) (hI : zInv Z) (hG : zG E Z s H locs) (hl : lv_has ls 8 (lwLV E b j)) (T : lwT p l e s m below meth c b j E Q) : W p l e room_1 s m #[Value.ref b] below meth c H locs (112 + j) (2948 + 6 * j) Q (F0 m 1412 ls []) := by
  have hF := hC.1
  have hx := hF.1.1
  have hb := hF.1.2.1
  have hts := hF.1.2.2.2.2
  have hcc := lw_room hj hC.2.2.2.2.2
  refine lv_aload_n hx hb dL_law_1412 rfl (lv_at hl 3 rfl) ?_
  refine lw_arg (lv := lwLV E b j) hC hG rfl (lv_at hl 4 rfl) (lv_at hl 0 rfl) hj 1 (by decide) dL_law_1413 dL_law_1414 dL_law_1416 rfl dL_law_1417 dL_law_1418 ?_
  refine lw_arg (lv := lwLV E b j) hC hG rfl (lv_at hl 4 rfl) (lv_at hl 0 rfl) hj 2 (by decide) dL_law_1419 dL_law_1420 dL_law_1422 rfl dL_law_1423 dL_law_1424 ?_
  refine z_ci (va_runV (rest := []) hF.1 (kX11_laid l E Z (xs (6 * j + 1)) (xs (6 * j + 2)) (M_laid hI) _) (cwV 2 hts gL_law_X11_laid rfl rfl rfl ⟨rfl, hL_X11_laid⟩ ⟨Nat.le_of_ble_eq_true rfl, Nat.le_of_ble_eq_true rfl⟩) (z_preV hF hG 96 (by decide) z_gs rfl) rfl rfl hl.1 rfl (lv_room (Nat.le_of_ble_eq_true rfl)) dL_law_1425 ⟨Nat.le_of_succ_le hcc.1, Nat.le_trans (Nat.le_add_right _ 6) hcc.2⟩) hG (fun r Z1 H locs hw hG => ?_)
  refine lv_aload_n hx hb dL_law_1428 rfl (lv_at hl 2 rfl) ?_
  refine lw_arg (lv := lwLV E b j) hC hG rfl (lv_at hl 4 rfl) (lv_at hl 0 rfl) hj 1 (by decide) dL_law_1429 dL_law_1430 dL_law_1432 rfl dL_law_1433 dL_law_1434 ?_
  refine lw_arg (lv := lwLV E b j) hC hG rfl (lv_at hl 4 rfl) (lv_at hl 0 rfl) hj 2 (by decide) dL_law_1435 dL_law_1436 dL_law_1438 rfl dL_law_1439 dL_law_1440 ?_
  refine z_ci (va_runV (rest := [.int r]) hF.1 (kX12_laid l E Z1 (xs (6 * j + 1)) (xs (6 * j + 2)) hw _) (cwV 2 hts gL_law_X12_laid rfl rfl rfl ⟨rfl, hL_X12_laid⟩ ⟨Nat.le_of_ble_eq_true rfl, Nat.le_of_ble_eq_true rfl⟩) (z_preV hF hG 97 (by decide) z_md rfl) rfl rfl hl.1 rfl (lv_room (Nat.le_of_ble_eq_true rfl)) dL_law_1441 ⟨Nat.le_of_succ_le hcc.1, Nat.le_trans (Nat.le_add_right _ 6) hcc.2⟩) hG (fun r2 Z2 H locs hw hG => ?_)
  refine lv_icmp_eq (tgt := 1835) hx hb dL_law_1444 (by decide) (fun _ => ?_) (fun c => absurd hw.1.symm c)
  exact W.widen (by omega) (by omega) (T E.2.2.2 Z2 H locs ls hw.2 hG hl)
theorem hL_X11_like : yX11_like.cls ≠ "java/lang/invoke/MethodHandle" ∧ yX11_like.cls ≠ "java/lang/invoke/VarHandle" ∧ (parseMethodDescriptor yX11_like.desc).map (fun d => d.parameters.length) = some 2 := by decide +kernel
theorem hL_X12_like : yX12_like.cls ≠ "java/lang/invoke/MethodHandle" ∧ yX12_like.cls ≠ "java/lang/invoke/VarHandle" ∧ (parseMethodDescriptor yX12_like.desc).map (fun d => d.parameters.length) = some 2 := by decide +kernel
set_option maxHeartbeats 2000000 in
theorem lwc_34 (l : Launch) (hfl : l.flags = flags0) {p : Program} {e : Env} {s : State} {m : MethodId} {below : List Frame} {meth : Method} {c : Code} {b L j : Nat} {xs : Nat → Int32} {E : zE} {Z : zS} {H : Heap} {locs : List Loc} {ls : Array Slot} {Q : State → Prop} (hC : lwF p m c s b L xs E) (hj : 6 * j + 6 ≤ L) (hI : zInv Z) (hG : zG E Z s H locs) (hl : lv_has ls 8 (lwLV E b j)) (T : lwT p l e s m below meth c b j E Q) : W p l e room_1 s m #[Value.ref b] below meth c H locs (112 + j) (2948 + 6 * j) Q (F0 m 1449 ls []) := by
  have hF := hC.1
  have hx := hF.1.1
  have hb := hF.1.2.1
  have hts := hF.1.2.2.2.2
  have hcc := lw_room hj hC.2.2.2.2.2
  refine lv_aload_n hx hb dL_law_1449 rfl (lv_at hl 3 rfl) ?_
  refine lw_arg (lv := lwLV E b j) hC hG rfl (lv_at hl 4 rfl) (lv_at hl 0 rfl) hj 1 (by decide) dL_law_1450 dL_law_1451 dL_law_1453 rfl dL_law_1454 dL_law_1455 ?_
  refine lw_arg (lv := lwLV E b j) hC hG rfl (lv_at hl 4 rfl) (lv_at hl 0 rfl) hj 2 (by decide) dL_law_1456 dL_law_1457 dL_law_1459 rfl dL_law_1460 dL_law_1461 ?_
  refine z_ci (va_runV (rest := []) hF.1 (kX11_like l E Z (xs (6 * j + 1)) (xs (6 * j + 2)) (M_like hI) _) (cwV 2 hts gL_law_X11_like rfl rfl rfl ⟨rfl, hL_X11_like⟩ ⟨Nat.le_of_ble_eq_true rfl, Nat.le_of_ble_eq_true rfl⟩) (z_preV hF hG 96 (by decide) z_gs rfl) rfl rfl hl.1 rfl (lv_room (Nat.le_of_ble_eq_true rfl)) dL_law_1462 ⟨Nat.le_of_succ_le hcc.1, Nat.le_trans (Nat.le_add_right _ 6) hcc.2⟩) hG (fun r Z1 H locs hw hG => ?_)
  refine lv_aload_n hx hb dL_law_1465 rfl (lv_at hl 2 rfl) ?_
  refine lw_arg (lv := lwLV E b j) hC hG rfl (lv_at hl 4 rfl) (lv_at hl 0 rfl) hj 1 (by decide) dL_law_1466 dL_law_1467 dL_law_1469 rfl dL_law_1470 dL_law_1471 ?_
  refine lw_arg (lv := lwLV E b j) hC hG rfl (lv_at hl 4 rfl) (lv_at hl 0 rfl) hj 2 (by decide) dL_law_1472 dL_law_1473 dL_law_1475 rfl dL_law_1476 dL_law_1477 ?_
  refine z_ci (va_runV (rest := [.int r]) hF.1 (kX12_like l E Z1 (xs (6 * j + 1)) (xs (6 * j + 2)) hw _) (cwV 2 hts gL_law_X12_like rfl rfl rfl ⟨rfl, hL_X12_like⟩ ⟨Nat.le_of_ble_eq_true rfl, Nat.le_of_ble_eq_true rfl⟩) (z_preV hF hG 97 (by decide) z_md rfl) rfl rfl hl.1 rfl (lv_room (Nat.le_of_ble_eq_true rfl)) dL_law_1478 ⟨Nat.le_of_succ_le hcc.1, Nat.le_trans (Nat.le_add_right _ 6) hcc.2⟩) hG (fun r2 Z2 H locs hw hG => ?_)
  refine lv_icmp_eq (tgt := 1835) hx hb dL_law_1481 (by decide) (fun _ => ?_) (fun c => absurd hw.1.symm c)
  exact W.widen (by omega) (by omega) (T E.2.2.2 Z2 H locs ls hw.2 hG hl)
theorem hL_X11_keep : yX11_keep.cls ≠ "java/lang/invoke/MethodHandle" ∧ yX11_keep.cls ≠ "java/lang/invoke/VarHandle" ∧ (parseMethodDescriptor yX11_keep.desc).map (fun d => d.parameters.length) = some 4 := by decide +kernel
theorem hL_X12_keep_ : yX12_keep_.cls ≠ "java/lang/invoke/MethodHandle" ∧ yX12_keep_.cls ≠ "java/lang/invoke/VarHandle" ∧ (parseMethodDescriptor yX12_keep_.desc).map (fun d => d.parameters.length) = some 4 := by decide +kernel
set_option maxHeartbeats 2000000 in
theorem lwc_35 (l : Launch) (hfl : l.flags = flags0) {p : Program} {e : Env} {s : State} {m : MethodId} {below : List Frame} {meth : Method} {c : Code} {b L j : Nat} {xs : Nat → Int32} {E : zE} {Z : zS} {H : Heap} {locs : List Loc} {ls : Array Slot} {Q : State → Prop} (hC : lwF p m c s b L xs E) (hj : 6 * j + 6 ≤ L) (hI : zInv Z) (hG : zG E Z s H locs) (hl : lv_has ls 8 (lwLV E b j)) (T : lwT p l e s m below meth c b j E Q) : W p l e room_1 s m #[Value.ref b] below meth c H locs (112 + j) (2948 + 6 * j) Q (F0 m 1486 ls []) := by
  have hF := hC.1
  have hx := hF.1.1
  have hb := hF.1.2.1
  have hts := hF.1.2.2.2.2
  have hcc := lw_room hj hC.2.2.2.2.2
  refine lv_aload_n hx hb dL_law_1486 rfl (lv_at hl 3 rfl) ?_
  refine lw_arg (lv := lwLV E b j) hC hG rfl (lv_at hl 4 rfl) (lv_at hl 0 rfl) hj 1 (by decide) dL_law_1487 dL_law_1488 dL_law_1490 rfl dL_law_1491 dL_law_1492 ?_
  refine lw_arg (lv := lwLV E b j) hC hG rfl (lv_at hl 4 rfl) (lv_at hl 0 rfl) hj 2 (by decide) dL_law_1493 dL_law_1494 dL_law_1496 rfl dL_law_1497 dL_law_1498 ?_
  refine lw_arg (lv := lwLV E b j) hC hG rfl (lv_at hl 4 rfl) (lv_at hl 0 rfl) hj 3 (by decide) dL_law_1499 dL_law_1500 dL_law_1502 rfl dL_law_1503 dL_law_1504 ?_
  refine lw_arg (lv := lwLV E b j) hC hG rfl (lv_at hl 4 rfl) (lv_at hl 0 rfl) hj 4 (by decide) dL_law_1505 dL_law_1506 dL_law_1508 rfl dL_law_1509 dL_law_1510 ?_
  refine z_ci (va_runV (rest := []) hF.1 (kX11_keep l E Z (xs (6 * j + 1)) (xs (6 * j + 2)) (xs (6 * j + 3)) (xs (6 * j + 4)) (M_keep hI) _) (cwV 4 hts gL_law_X11_keep rfl rfl rfl ⟨rfl, hL_X11_keep⟩ ⟨Nat.le_of_ble_eq_true rfl, Nat.le_of_ble_eq_true rfl⟩) (z_preV hF hG 96 (by decide) z_gs rfl) rfl rfl hl.1 rfl (lv_room (Nat.le_of_ble_eq_true rfl)) dL_law_1511 ⟨Nat.le_of_succ_le hcc.1, Nat.le_trans (Nat.le_add_right _ 6) hcc.2⟩) hG (fun r Z1 H locs hw hG => ?_)
  refine lv_aload_n hx hb dL_law_1514 rfl (lv_at hl 2 rfl) ?_
  refine lw_arg (lv := lwLV E b j) hC hG rfl (lv_at hl 4 rfl) (lv_at hl 0 rfl) hj 1 (by decide) dL_law_1515 dL_law_1516 dL_law_1518 rfl dL_law_1519 dL_law_1520 ?_
  refine lw_arg (lv := lwLV E b j) hC hG rfl (lv_at hl 4 rfl) (lv_at hl 0 rfl) hj 2 (by decide) dL_law_1521 dL_law_1522 dL_law_1524 rfl dL_law_1525 dL_law_1526 ?_
  refine lw_arg (lv := lwLV E b j) hC hG rfl (lv_at hl 4 rfl) (lv_at hl 0 rfl) hj 3 (by decide) dL_law_1527 dL_law_1528 dL_law_1530 rfl dL_law_1531 dL_law_1532 ?_
  refine lw_arg (lv := lwLV E b j) hC hG rfl (lv_at hl 4 rfl) (lv_at hl 0 rfl) hj 4 (by decide) dL_law_1533 dL_law_1534 dL_law_1536 rfl dL_law_1537 dL_law_1538 ?_
  refine z_ci (va_runV (rest := [.int r]) hF.1 (kX12_keep_ l E Z1 (xs (6 * j + 1)) (xs (6 * j + 2)) (xs (6 * j + 3)) (xs (6 * j + 4)) hw _) (cwV 4 hts gL_law_X12_keep_ rfl rfl rfl ⟨rfl, hL_X12_keep_⟩ ⟨Nat.le_of_ble_eq_true rfl, Nat.le_of_ble_eq_true rfl⟩) (z_preV hF hG 97 (by decide) z_md rfl) rfl rfl hl.1 rfl (lv_room (Nat.le_of_ble_eq_true rfl)) dL_law_1539 ⟨Nat.le_of_succ_le hcc.1, Nat.le_trans (Nat.le_add_right _ 6) hcc.2⟩) hG (fun r2 Z2 H locs hw hG => ?_)
  refine lv_icmp_eq (tgt := 1835) hx hb dL_law_1542 (by decide) (fun _ => ?_) (fun c => absurd hw.1.symm c)
  exact W.widen (by omega) (by omega) (T E.2.2.2 Z2 H locs ls hw.2 hG hl)
theorem hL_X11_row : yX11_row.cls ≠ "java/lang/invoke/MethodHandle" ∧ yX11_row.cls ≠ "java/lang/invoke/VarHandle" ∧ (parseMethodDescriptor yX11_row.desc).map (fun d => d.parameters.length) = some 3 := by decide +kernel
theorem hL_X12_row : yX12_row.cls ≠ "java/lang/invoke/MethodHandle" ∧ yX12_row.cls ≠ "java/lang/invoke/VarHandle" ∧ (parseMethodDescriptor yX12_row.desc).map (fun d => d.parameters.length) = some 3 := by decide +kernel
set_option maxHeartbeats 2000000 in
theorem lwc_36 (l : Launch) (hfl : l.flags = flags0) {p : Program} {e : Env} {s : State} {m : MethodId} {below : List Frame} {meth : Method} {c : Code} {b L j : Nat} {xs : Nat → Int32} {E : zE} {Z : zS} {H : Heap} {locs : List Loc} {ls : Array Slot} {Q : State → Prop} (hC : lwF p m c s b L xs E) (hj : 6 * j + 6 ≤ L) (hI : zInv Z) (hG : zG E Z s H locs) (hl : lv_has ls 8 (lwLV E b j)) (T : lwT p l e s m below meth c b j E Q) : W p l e room_1 s m #[Value.ref b] below meth c H locs (112 + j) (2948 + 6 * j) Q (F0 m 1547 ls []) := by
  have hF := hC.1
  have hx := hF.1.1
  have hb := hF.1.2.1
  have hts := hF.1.2.2.2.2
  have hcc := lw_room hj hC.2.2.2.2.2
  refine lv_aload_n hx hb dL_law_1547 rfl (lv_at hl 3 rfl) ?_
  refine lw_arg (lv := lwLV E b j) hC hG rfl (lv_at hl 4 rfl) (lv_at hl 0 rfl) hj 1 (by decide) dL_law_1548 dL_law_1549 dL_law_1551 rfl dL_law_1552 dL_law_1553 ?_
  refine lw_arg (lv := lwLV E b j) hC hG rfl (lv_at hl 4 rfl) (lv_at hl 0 rfl) hj 2 (by decide) dL_law_1554 dL_law_1555 dL_law_1557 rfl dL_law_1558 dL_law_1559 ?_
  refine lw_arg (lv := lwLV E b j) hC hG rfl (lv_at hl 4 rfl) (lv_at hl 0 rfl) hj 3 (by decide) dL_law_1560 dL_law_1561 dL_law_1563 rfl dL_law_1564 dL_law_1565 ?_
  refine z_ci (va_runV (rest := []) hF.1 (kX11_row l E Z (xs (6 * j + 1)) (xs (6 * j + 2)) (xs (6 * j + 3)) (M_row hI) _) (cwV 3 hts gL_law_X11_row rfl rfl rfl ⟨rfl, hL_X11_row⟩ ⟨Nat.le_of_ble_eq_true rfl, Nat.le_of_ble_eq_true rfl⟩) (z_preV hF hG 96 (by decide) z_gs rfl) rfl rfl hl.1 rfl (lv_room (Nat.le_of_ble_eq_true rfl)) dL_law_1566 ⟨Nat.le_of_succ_le hcc.1, Nat.le_trans (Nat.le_add_right _ 6) hcc.2⟩) hG (fun r Z1 H locs hw hG => ?_)
  refine lv_aload_n hx hb dL_law_1569 rfl (lv_at hl 2 rfl) ?_
  refine lw_arg (lv := lwLV E b j) hC hG rfl (lv_at hl 4 rfl) (lv_at hl 0 rfl) hj 1 (by decide) dL_law_1570 dL_law_1571 dL_law_1573 rfl dL_law_1574 dL_law_1575 ?_
  refine lw_arg (lv := lwLV E b j) hC hG rfl (lv_at hl 4 rfl) (lv_at hl 0 rfl) hj 2 (by decide) dL_law_1576 dL_law_1577 dL_law_1579 rfl dL_law_1580 dL_law_1581 ?_
  refine lw_arg (lv := lwLV E b j) hC hG rfl (lv_at hl 4 rfl) (lv_at hl 0 rfl) hj 3 (by decide) dL_law_1582 dL_law_1583 dL_law_1585 rfl dL_law_1586 dL_law_1587 ?_
  refine z_ci (va_runV (rest := [.int r]) hF.1 (kX12_row l E Z1 (xs (6 * j + 1)) (xs (6 * j + 2)) (xs (6 * j + 3)) hw _) (cwV 3 hts gL_law_X12_row rfl rfl rfl ⟨rfl, hL_X12_row⟩ ⟨Nat.le_of_ble_eq_true rfl, Nat.le_of_ble_eq_true rfl⟩) (z_preV hF hG 97 (by decide) z_md rfl) rfl rfl hl.1 rfl (lv_room (Nat.le_of_ble_eq_true rfl)) dL_law_1588 ⟨Nat.le_of_succ_le hcc.1, Nat.le_trans (Nat.le_add_right _ 6) hcc.2⟩) hG (fun r2 Z2 H locs hw hG => ?_)
  refine lv_icmp_eq (tgt := 1835) hx hb dL_law_1591 (by decide) (fun _ => ?_) (fun c => absurd hw.1.symm c)
  exact W.widen (by omega) (by omega) (T E.2.2.2 Z2 H locs ls hw.2 hG hl)
theorem hL_X11_put : yX11_put.cls ≠ "java/lang/invoke/MethodHandle" ∧ yX11_put.cls ≠ "java/lang/invoke/VarHandle" ∧ (parseMethodDescriptor yX11_put.desc).map (fun d => d.parameters.length) = some 3 := by decide +kernel
theorem hL_X12_put : yX12_put.cls ≠ "java/lang/invoke/MethodHandle" ∧ yX12_put.cls ≠ "java/lang/invoke/VarHandle" ∧ (parseMethodDescriptor yX12_put.desc).map (fun d => d.parameters.length) = some 3 := by decide +kernel
set_option maxHeartbeats 2000000 in
theorem lwc_37 (l : Launch) (hfl : l.flags = flags0) {p : Program} {e : Env} {s : State} {m : MethodId} {below : List Frame} {meth : Method} {c : Code} {b L j : Nat} {xs : Nat → Int32} {E : zE} {Z : zS} {H : Heap} {locs : List Loc} {ls : Array Slot} {Q : State → Prop} (hC : lwF p m c s b L xs E) (hj : 6 * j + 6 ≤ L) (hI : zInv Z) (hG : zG E Z s H locs) (hl : lv_has ls 8 (lwLV E b j)) (T : lwT p l e s m below meth c b j E Q) : W p l e room_1 s m #[Value.ref b] below meth c H locs (112 + j) (2948 + 6 * j) Q (F0 m 1596 ls []) := by
  have hF := hC.1
  have hx := hF.1.1
  have hb := hF.1.2.1
  have hts := hF.1.2.2.2.2
  have hcc := lw_room hj hC.2.2.2.2.2
  refine lv_aload_n hx hb dL_law_1596 rfl (lv_at hl 3 rfl) ?_
  refine lw_arg (lv := lwLV E b j) hC hG rfl (lv_at hl 4 rfl) (lv_at hl 0 rfl) hj 1 (by decide) dL_law_1597 dL_law_1598 dL_law_1600 rfl dL_law_1601 dL_law_1602 ?_
  refine lw_arg (lv := lwLV E b j) hC hG rfl (lv_at hl 4 rfl) (lv_at hl 0 rfl) hj 2 (by decide) dL_law_1603 dL_law_1604 dL_law_1606 rfl dL_law_1607 dL_law_1608 ?_
  refine lw_arg (lv := lwLV E b j) hC hG rfl (lv_at hl 4 rfl) (lv_at hl 0 rfl) hj 3 (by decide) dL_law_1609 dL_law_1610 dL_law_1612 rfl dL_law_1613 dL_law_1614 ?_
  refine z_ci (va_runV (rest := []) hF.1 (kX11_put l E Z (xs (6 * j + 1)) (xs (6 * j + 2)) (xs (6 * j + 3)) (M_put hI) _) (cwV 3 hts gL_law_X11_put rfl rfl rfl ⟨rfl, hL_X11_put⟩ ⟨Nat.le_of_ble_eq_true rfl, Nat.le_of_ble_eq_true rfl⟩) (z_preV hF hG 96 (by decide) z_gs rfl) rfl rfl hl.1 rfl (lv_room (Nat.le_of_ble_eq_true rfl)) dL_law_1615 ⟨Nat.le_of_succ_le hcc.1, Nat.le_trans (Nat.le_add_right _ 6) hcc.2⟩) hG (fun r Z1 H locs hw hG => ?_)
  refine lv_aload_n hx hb dL_law_1618 rfl (lv_at hl 2 rfl) ?_
  refine lw_arg (lv := lwLV E b j) hC hG rfl (lv_at hl 4 rfl) (lv_at hl 0 rfl) hj 1 (by decide) dL_law_1619 dL_law_1620 dL_law_1622 rfl dL_law_1623 dL_law_1624 ?_
  refine lw_arg (lv := lwLV E b j) hC hG rfl (lv_at hl 4 rfl) (lv_at hl 0 rfl) hj 2 (by decide) dL_law_1625 dL_law_1626 dL_law_1628 rfl dL_law_1629 dL_law_1630 ?_
  refine lw_arg (lv := lwLV E b j) hC hG rfl (lv_at hl 4 rfl) (lv_at hl 0 rfl) hj 3 (by decide) dL_law_1631 dL_law_1632 dL_law_1634 rfl dL_law_1635 dL_law_1636 ?_
  refine z_ci (va_runV (rest := [.int r]) hF.1 (kX12_put l E Z1 (xs (6 * j + 1)) (xs (6 * j + 2)) (xs (6 * j + 3)) hw _) (cwV 3 hts gL_law_X12_put rfl rfl rfl ⟨rfl, hL_X12_put⟩ ⟨Nat.le_of_ble_eq_true rfl, Nat.le_of_ble_eq_true rfl⟩) (z_preV hF hG 97 (by decide) z_md rfl) rfl rfl hl.1 rfl (lv_room (Nat.le_of_ble_eq_true rfl)) dL_law_1637 ⟨Nat.le_of_succ_le hcc.1, Nat.le_trans (Nat.le_add_right _ 6) hcc.2⟩) hG (fun r2 Z2 H locs hw hG => ?_)
  refine lv_icmp_eq (tgt := 1835) hx hb dL_law_1640 (by decide) (fun _ => ?_) (fun c => absurd hw.1.symm c)
  exact W.widen (by omega) (by omega) (T E.2.2.2 Z2 H locs ls hw.2 hG hl)
theorem hL_X11_copy : yX11_copy.cls ≠ "java/lang/invoke/MethodHandle" ∧ yX11_copy.cls ≠ "java/lang/invoke/VarHandle" ∧ (parseMethodDescriptor yX11_copy.desc).map (fun d => d.parameters.length) = some 5 := by decide +kernel
theorem hL_X12_copy : yX12_copy.cls ≠ "java/lang/invoke/MethodHandle" ∧ yX12_copy.cls ≠ "java/lang/invoke/VarHandle" ∧ (parseMethodDescriptor yX12_copy.desc).map (fun d => d.parameters.length) = some 5 := by decide +kernel
set_option maxHeartbeats 2000000 in
theorem lwc_39 (l : Launch) (hfl : l.flags = flags0) {p : Program} {e : Env} {s : State} {m : MethodId} {below : List Frame} {meth : Method} {c : Code} {b L j : Nat} {xs : Nat → Int32} {E : zE} {Z : zS} {H : Heap} {locs : List Loc} {ls : Array Slot} {Q : State → Prop} (hC : lwF p m c s b L xs E) (hj : 6 * j + 6 ≤ L) (hI : zInv Z) (hG : zG E Z s H locs) (hl : lv_has ls 8 (lwLV E b j)) (T : lwT p l e s m below meth c b j E Q) : W p l e room_1 s m #[Value.ref b] below meth c H locs (112 + j) (2948 + 6 * j) Q (F0 m 1712 ls []) := by
  have hF := hC.1
  have hx := hF.1.1
  have hb := hF.1.2.1
  have hts := hF.1.2.2.2.2
  have hcc := lw_room hj hC.2.2.2.2.2
  refine lv_aload_n hx hb dL_law_1712 rfl (lv_at hl 3 rfl) ?_
  refine lw_arg (lv := lwLV E b j) hC hG rfl (lv_at hl 4 rfl) (lv_at hl 0 rfl) hj 1 (by decide) dL_law_1713 dL_law_1714 dL_law_1716 rfl dL_law_1717 dL_law_1718 ?_
  refine lw_arg (lv := lwLV E b j) hC hG rfl (lv_at hl 4 rfl) (lv_at hl 0 rfl) hj 2 (by decide) dL_law_1719 dL_law_1720 dL_law_1722 rfl dL_law_1723 dL_law_1724 ?_
  refine lw_arg (lv := lwLV E b j) hC hG rfl (lv_at hl 4 rfl) (lv_at hl 0 rfl) hj 3 (by decide) dL_law_1725 dL_law_1726 dL_law_1728 rfl dL_law_1729 dL_law_1730 ?_
  refine lw_arg (lv := lwLV E b j) hC hG rfl (lv_at hl 4 rfl) (lv_at hl 0 rfl) hj 4 (by decide) dL_law_1731 dL_law_1732 dL_law_1734 rfl dL_law_1735 dL_law_1736 ?_
  refine lw_arg (lv := lwLV E b j) hC hG rfl (lv_at hl 4 rfl) (lv_at hl 0 rfl) hj 5 (by decide) dL_law_1737 dL_law_1738 dL_law_1740 rfl dL_law_1741 dL_law_1742 ?_
  refine z_ci (va_runV (rest := []) hF.1 (kX11_copy l E Z (xs (6 * j + 1)) (xs (6 * j + 2)) (xs (6 * j + 3)) (xs (6 * j + 4)) (xs (6 * j + 5)) (M_copy hI) _) (cwV 5 hts gL_law_X11_copy rfl rfl rfl ⟨rfl, hL_X11_copy⟩ ⟨Nat.le_of_ble_eq_true rfl, Nat.le_of_ble_eq_true rfl⟩) (z_preV hF hG 96 (by decide) z_gs rfl) rfl rfl hl.1 rfl (lv_room (Nat.le_of_ble_eq_true rfl)) dL_law_1743 ⟨Nat.le_of_succ_le hcc.1, Nat.le_trans (Nat.le_add_right _ 6) hcc.2⟩) hG (fun r Z1 H locs hw hG => ?_)
  refine lv_aload_n hx hb dL_law_1746 rfl (lv_at hl 2 rfl) ?_
  refine lw_arg (lv := lwLV E b j) hC hG rfl (lv_at hl 4 rfl) (lv_at hl 0 rfl) hj 1 (by decide) dL_law_1747 dL_law_1748 dL_law_1750 rfl dL_law_1751 dL_law_1752 ?_
  refine lw_arg (lv := lwLV E b j) hC hG rfl (lv_at hl 4 rfl) (lv_at hl 0 rfl) hj 2 (by decide) dL_law_1753 dL_law_1754 dL_law_1756 rfl dL_law_1757 dL_law_1758 ?_
  refine lw_arg (lv := lwLV E b j) hC hG rfl (lv_at hl 4 rfl) (lv_at hl 0 rfl) hj 3 (by decide) dL_law_1759 dL_law_1760 dL_law_1762 rfl dL_law_1763 dL_law_1764 ?_
  refine lw_arg (lv := lwLV E b j) hC hG rfl (lv_at hl 4 rfl) (lv_at hl 0 rfl) hj 4 (by decide) dL_law_1765 dL_law_1766 dL_law_1768 rfl dL_law_1769 dL_law_1770 ?_
  refine lw_arg (lv := lwLV E b j) hC hG rfl (lv_at hl 4 rfl) (lv_at hl 0 rfl) hj 5 (by decide) dL_law_1771 dL_law_1772 dL_law_1774 rfl dL_law_1775 dL_law_1776 ?_
  refine z_ci (va_runV (rest := [.int r]) hF.1 (kX12_copy l E Z1 (xs (6 * j + 1)) (xs (6 * j + 2)) (xs (6 * j + 3)) (xs (6 * j + 4)) (xs (6 * j + 5)) hw _) (cwV 5 hts gL_law_X12_copy rfl rfl rfl ⟨rfl, hL_X12_copy⟩ ⟨Nat.le_of_ble_eq_true rfl, Nat.le_of_ble_eq_true rfl⟩) (z_preV hF hG 97 (by decide) z_md rfl) rfl rfl hl.1 rfl (lv_room (Nat.le_of_ble_eq_true rfl)) dL_law_1777 ⟨Nat.le_of_succ_le hcc.1, Nat.le_trans (Nat.le_add_right _ 6) hcc.2⟩) hG (fun r2 Z2 H locs hw hG => ?_)
  refine lv_icmp_eq (tgt := 1835) hx hb dL_law_1780 (by decide) (fun _ => ?_) (fun c => absurd hw.1.symm c)
  exact W.widen (by omega) (by omega) (T E.2.2.2 Z2 H locs ls hw.2 hG hl)
theorem hL_X11_cost : yX11_cost.cls ≠ "java/lang/invoke/MethodHandle" ∧ yX11_cost.cls ≠ "java/lang/invoke/VarHandle" ∧ (parseMethodDescriptor yX11_cost.desc).map (fun d => d.parameters.length) = some 1 := by decide +kernel
theorem hL_X12_cost : yX12_cost.cls ≠ "java/lang/invoke/MethodHandle" ∧ yX12_cost.cls ≠ "java/lang/invoke/VarHandle" ∧ (parseMethodDescriptor yX12_cost.desc).map (fun d => d.parameters.length) = some 1 := by decide +kernel
set_option maxHeartbeats 2000000 in
theorem lwc_40 (l : Launch) (hfl : l.flags = flags0) {p : Program} {e : Env} {s : State} {m : MethodId} {below : List Frame} {meth : Method} {c : Code} {b L j : Nat} {xs : Nat → Int32} {E : zE} {Z : zS} {H : Heap} {locs : List Loc} {ls : Array Slot} {Q : State → Prop} (hC : lwF p m c s b L xs E) (hj : 6 * j + 6 ≤ L) (hI : zInv Z) (hG : zG E Z s H locs) (hl : lv_has ls 8 (lwLV E b j)) (T : lwT p l e s m below meth c b j E Q) : W p l e room_1 s m #[Value.ref b] below meth c H locs (112 + j) (2948 + 6 * j) Q (F0 m 1785 ls []) := by
  have hF := hC.1
  have hx := hF.1.1
  have hb := hF.1.2.1
  have hts := hF.1.2.2.2.2
  have hcc := lw_room hj hC.2.2.2.2.2
  refine lv_aload_n hx hb dL_law_1785 rfl (lv_at hl 3 rfl) ?_
  refine lw_arg (lv := lwLV E b j) hC hG rfl (lv_at hl 4 rfl) (lv_at hl 0 rfl) hj 1 (by decide) dL_law_1786 dL_law_1787 dL_law_1789 rfl dL_law_1790 dL_law_1791 ?_
  refine z_ci (va_runV (rest := []) hF.1 (kX11_cost l E Z (xs (6 * j + 1)) (M_cost hI) _) (cwV 1 hts gL_law_X11_cost rfl rfl rfl ⟨rfl, hL_X11_cost⟩ ⟨Nat.le_of_ble_eq_true rfl, Nat.le_of_ble_eq_true rfl⟩) (z_preV hF hG 96 (by decide) z_gs rfl) rfl rfl hl.1 rfl (lv_room (Nat.le_of_ble_eq_true rfl)) dL_law_1792 ⟨Nat.le_of_succ_le hcc.1, Nat.le_trans (Nat.le_add_right _ 6) hcc.2⟩) hG (fun r Z1 H locs hw hG => ?_)
  refine lv_aload_n hx hb dL_law_1795 rfl (lv_at hl 2 rfl) ?_
  refine lw_arg (lv := lwLV E b j) hC hG rfl (lv_at hl 4 rfl) (lv_at hl 0 rfl) hj 1 (by decide) dL_law_1796 dL_law_1797 dL_law_1799 rfl dL_law_1800 dL_law_1801 ?_
  refine z_ci (va_runV (rest := [.int r]) hF.1 (kX12_cost l E Z1 (xs (6 * j + 1)) hw _) (cwV 1 hts gL_law_X12_cost rfl rfl rfl ⟨rfl, hL_X12_cost⟩ ⟨Nat.le_of_ble_eq_true rfl, Nat.le_of_ble_eq_true rfl⟩) (z_preV hF hG 97 (by decide) z_md rfl) rfl rfl hl.1 rfl (lv_room (Nat.le_of_ble_eq_true rfl)) dL_law_1802 ⟨Nat.le_of_succ_le hcc.1, Nat.le_trans (Nat.le_add_right _ 6) hcc.2⟩) hG (fun r2 Z2 H locs hw hG => ?_)
  refine lv_icmp_eq (tgt := 1835) hx hb dL_law_1805 (by decide) (fun _ => ?_) (fun c => absurd hw.1.symm c)
  exact W.widen (by omega) (by omega) (T E.2.2.2 Z2 H locs ls hw.2 hG hl)
theorem hL_X11_toss : yX11_toss.cls ≠ "java/lang/invoke/MethodHandle" ∧ yX11_toss.cls ≠ "java/lang/invoke/VarHandle" ∧ (parseMethodDescriptor yX11_toss.desc).map (fun d => d.parameters.length) = some 1 := by decide +kernel
theorem hL_X12_toss : yX12_toss.cls ≠ "java/lang/invoke/MethodHandle" ∧ yX12_toss.cls ≠ "java/lang/invoke/VarHandle" ∧ (parseMethodDescriptor yX12_toss.desc).map (fun d => d.parameters.length) = some 1 := by decide +kernel
set_option maxHeartbeats 2000000 in
theorem lwc_41 (l : Launch) (hfl : l.flags = flags0) {p : Program} {e : Env} {s : State} {m : MethodId} {below : List Frame} {meth : Method} {c : Code} {b L j : Nat} {xs : Nat → Int32} {E : zE} {Z : zS} {H : Heap} {locs : List Loc} {ls : Array Slot} {Q : State → Prop} (hC : lwF p m c s b L xs E) (hj : 6 * j + 6 ≤ L) (hI : zInv Z) (hG : zG E Z s H locs) (hl : lv_has ls 8 (lwLV E b j)) (T : lwT p l e s m below meth c b j E Q) : W p l e room_1 s m #[Value.ref b] below meth c H locs (112 + j) (2948 + 6 * j) Q (F0 m 1810 ls []) := by
  have hF := hC.1
  have hx := hF.1.1
  have hb := hF.1.2.1
  have hts := hF.1.2.2.2.2
  have hcc := lw_room hj hC.2.2.2.2.2
  refine lv_aload_n hx hb dL_law_1810 rfl (lv_at hl 3 rfl) ?_
  refine lw_arg (lv := lwLV E b j) hC hG rfl (lv_at hl 4 rfl) (lv_at hl 0 rfl) hj 1 (by decide) dL_law_1811 dL_law_1812 dL_law_1814 rfl dL_law_1815 dL_law_1816 ?_
  refine zx_ci (vx_runVW (rest := []) hF.1 (kX11_toss l hfl E Z (xs (6 * j + 1)) (K := fun r Z1 => wX12_toss (xs (6 * j + 1)) Z1 (zD r)) (M_tossK hI) _) (vx_cwVW 1 hts gL_law_X11_toss rfl rfl rfl ⟨rfl, hL_X11_toss⟩ ⟨Nat.le_of_ble_eq_true rfl, Nat.le_of_ble_eq_true rfl⟩) (zx_preV hF hC.2.1 hG 96 (by decide) z_gs rfl) rfl rfl hl.1 rfl (lv_room (Nat.le_of_ble_eq_true rfl)) dL_law_1817 hcc) hG (fun r Z1 H locs hw hG => ?_)
  refine lv_aload_n hx hb dL_law_1820 rfl (lv_at hl 2 rfl) ?_
  refine lw_arg (lv := lwLV E b j) hC hG rfl (lv_at hl 4 rfl) (lv_at hl 0 rfl) hj 1 (by decide) dL_law_1821 dL_law_1822 dL_law_1824 rfl dL_law_1825 dL_law_1826 ?_
  refine z_ci (va_runV (rest := [.int r]) hF.1 (kX12_toss l E Z1 (xs (6 * j + 1)) hw _) (cwV 1 hts gL_law_X12_toss rfl rfl rfl ⟨rfl, hL_X12_toss⟩ ⟨Nat.le_of_ble_eq_true rfl, Nat.le_of_ble_eq_true rfl⟩) (z_preV hF hG 97 (by decide) z_md rfl) rfl rfl hl.1 rfl (lv_room (Nat.le_of_ble_eq_true rfl)) dL_law_1827 hcc) hG (fun r2 Z2 H locs hw hG => ?_)
  refine lv_icmp_eq (tgt := 1835) hx hb dL_law_1830 (by decide) (fun _ => ?_) (fun c => absurd hw.1.symm c)
  exact W.widen (by omega) (by omega) (T E.2.2.2 Z2 H locs ls hw.2 hG hl)
theorem hL_L_element : yL_element.cls ≠ "java/lang/invoke/MethodHandle" ∧ yL_element.cls ≠ "java/lang/invoke/VarHandle" ∧ (parseMethodDescriptor yL_element.desc).map (fun d => d.parameters.length) = some 4 := by decide +kernel
theorem hL_X12_element : yX12_element.cls ≠ "java/lang/invoke/MethodHandle" ∧ yX12_element.cls ≠ "java/lang/invoke/VarHandle" ∧ (parseMethodDescriptor yX12_element.desc).map (fun d => d.parameters.length) = some 2 := by decide +kernel
theorem hL_X12_thrown : yX12_thrown.cls ≠ "java/lang/invoke/MethodHandle" ∧ yX12_thrown.cls ≠ "java/lang/invoke/VarHandle" ∧ (parseMethodDescriptor yX12_thrown.desc).map (fun d => d.parameters.length) = some 0 := by decide +kernel
set_option maxHeartbeats 2000000 in
theorem lwc_38 (l : Launch) (hfl : l.flags = flags0) {p : Program} {e : Env} {s : State} {m : MethodId} {below : List Frame} {meth : Method} {c : Code} {b L j : Nat} {xs : Nat → Int32} {E : zE} {Z : zS} {H : Heap} {locs : List Loc} {ls : Array Slot} {Q : State → Prop} (hC : lwF p m c s b L xs E) (hj : 6 * j + 6 ≤ L) (hI : zInv Z) (hG : zG E Z s H locs) (hl : lv_has ls 8 (lwLV E b j)) (T : lwT p l e s m below meth c b j E Q) : W p l e room_1 s m #[Value.ref b] below meth c H locs (112 + j) (2948 + 6 * j) Q (F0 m 1645 ls []) := by
  have hF := hC.1
  have hx := hF.1.1
  have hb := hF.1.2.1
  have hts := hF.1.2.2.2.2
  have hcc := lw_room hj hC.2.2.2.2.2
  refine lv_aload_n hx hb dL_law_1645 rfl (lv_at hl 3 rfl) ?_
  refine lw_arg (lv := lwLV E b j) hC hG rfl (lv_at hl 4 rfl) (lv_at hl 0 rfl) hj 1 (by decide) dL_law_1646 dL_law_1647 dL_law_1649 rfl dL_law_1650 dL_law_1651 ?_
  refine lw_arg (lv := lwLV E b j) hC hG rfl (lv_at hl 4 rfl) (lv_at hl 0 rfl) hj 2 (by decide) dL_law_1652 dL_law_1653 dL_law_1655 rfl dL_law_1656 dL_law_1657 ?_
  refine lv_aload_n hx hb dL_law_1658 rfl (lv_at hl 1 rfl) ?_
  refine va_calli (vx_runSW (rest := []) hF.1 (kL_element l hfl E Z (xs (6 * j + 1)) (xs (6 * j + 2)) (K := eK (xs (6 * j + 1)) (xs (6 * j + 2))) (M_elemK hI) _) (vx_cwSW 4 hts gL_law_L_element rfl rfl rfl hL_L_element ⟨Nat.le_of_ble_eq_true rfl, Nat.le_of_ble_eq_true rfl⟩) (zx_preS hF hC.2.1 hG) rfl rfl hl.1 rfl (lv_room (Nat.le_of_ble_eq_true rfl)) dL_law_1659 hcc) hG.2 (fun q _ h => zA_free hG q h) (zA_free hG) (fun k u t H locs ht _ hw hB _ _ hS => ?_)
  obtain ⟨x, Z1⟩ := u
  have hw : wX12_element (xs (6 * j + 1)) (xs (6 * j + 2)) Z1 (zDE (if k = 0 then x else 0) k) := hw
  have hG : zG (zEo E x) Z1 s H locs := ⟨by rw [← ht]; exact hB, hS⟩
  have hF : zFx p m c cL_law 8 s #[Value.ref b] wsL_law RL (zEo E x) := hF
  refine lv_istore (lv' := [(5, .int k), (4, .int (nI (6 * j))), (3, .ref (E.2.1 111)), (2, .ref (E.2.1 97)), (1, .ref (E.2.1 96)), (0, .ref b)]) hx hb dL_law_1662 hl (by decide) rfl (fun ls hl => ?_)
  refine lv_aload_n hx hb dL_law_1664 rfl (lv_at hl 3 rfl) ?_
  refine lw_arg (lv := lwLV E b j) hC hG rfl (lv_at hl 5 rfl) (lv_at hl 1 rfl) hj 1 (by decide) dL_law_1665 dL_law_1666 dL_law_1668 rfl dL_law_1669 dL_law_1670 ?_
  refine lw_arg (lv := lwLV E b j) hC hG rfl (lv_at hl 5 rfl) (lv_at hl 1 rfl) hj 2 (by decide) dL_law_1671 dL_law_1672 dL_law_1674 rfl dL_law_1675 dL_law_1676 ?_
  refine z_cl (va_runV (rest := []) hF.1 (kX12_element l (zEo E x) Z1 (xs (6 * j + 1)) (xs (6 * j + 2)) hw _) (cwV 2 hts gL_law_X12_element rfl rfl rfl ⟨rfl, hL_X12_element⟩ ⟨Nat.le_of_ble_eq_true rfl, Nat.le_of_ble_eq_true rfl⟩) (z_preV hF hG 97 (by decide) z_md rfl) rfl rfl hl.1 rfl (lv_room (Nat.le_of_ble_eq_true rfl)) dL_law_1677 hcc) hG (fun r2 Z2 H locs hw hG => ?_)
  obtain ⟨hr2, hth, hI⟩ := hw
  refine lv_lstore (lv' := [(6, .long r2), (5, .int k), (4, .int (nI (6 * j))), (3, .ref (E.2.1 111)), (2, .ref (E.2.1 97)), (1, .ref (E.2.1 96)), (0, .ref b)]) hx hb dL_law_1680 hl (by decide) rfl (fun ls hl => ?_)
  refine lv_aload_n hx hb dL_law_1682 rfl (lv_at hl 4 rfl) ?_
  have hwt : wX12_thrown Z2 (fun r Z3 => r = Z2 97 21 ∧ Z3 = Z2) := ⟨rfl, rfl⟩
  refine z_ci (va_runV (rest := []) hF.1 (kX12_thrown l (zEo E x) Z2 hwt _) (cwV 0 hts gL_law_X12_thrown rfl rfl rfl ⟨rfl, hL_X12_thrown⟩ ⟨Nat.le_of_ble_eq_true rfl, Nat.le_of_ble_eq_true rfl⟩) (z_preV hF hG 97 (by decide) z_md rfl) rfl rfl hl.1 rfl (lv_room (Nat.le_of_ble_eq_true rfl)) dL_law_1683 hcc) hG (fun r3 Z3 H locs hw hG => ?_)
  obtain ⟨e3, eZ⟩ := hw
  rw [eZ] at hG
  refine lv_iload hx hb dL_law_1686 (lv_at hl 1 rfl) ?_
  refine lv_icmp_eq (tgt := 1693) hx hb dL_law_1688 (by decide) (fun _ => ?_) (fun c => absurd (e3.trans hth) c)
  have fin : ∀ (pc : Nat), pc = 1835 → W p l e room_1 s m #[Value.ref b] below meth c H locs (112 + j + 1) (2948 + 6 * j + 6) Q (F0 m pc ls []) := fun pc hp => by subst hp; exact T x Z2 H locs ls hI hG (lv_sub hl [2, 3, 4, 5, 6] rfl)
  refine lv_iload hx hb dL_law_1693 (lv_at hl 1 rfl) ?_
  refine lv_if_ne (tgt := 1709) hx hb dL_law_1695 (by decide) (fun _ => ?_) (fun c => ?_)
  · refine lv_goto (tgt := 1835) hx hb dL_law_1709 (by decide) ?_
    exact fin _ rfl
  · have k0 : k = 0 := c
    refine lv_aload_n hx hb dL_law_1698 rfl (lv_at hl 3 rfl) ?_
    refine lv_iconst (v := 0) hx hb dL_law_1699 (by decide) ?_
    refine va_lald hx hb hF.2.1 hG.1 111 5 (n := 1) (f := fun _ => x) (by rw [zw_at (by decide)]; rfl) rfl (show vp_in 0 1 by unfold vp_in; decide) dL_law_1700 ?_
    refine lv_lload hx hb dL_law_1701 (lv_at hl 0 rfl) ?_
    refine W.lcmp hx hb dL_law_1703 ?_
    refine lv_if_eq (tgt := 1709) hx hb dL_law_1704 (by decide) (fun _ => ?_) (fun c => absurd ((lg_cmp_eq _ _).mpr ?_) c)
    · refine lv_goto (tgt := 1835) hx hb dL_law_1709 (by decide) ?_
      exact fin _ rfl
    · rw [hr2, if_pos k0]
