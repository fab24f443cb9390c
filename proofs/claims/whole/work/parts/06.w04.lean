theorem hS_yX5_workOfAll : yX5_workOfAll.cls ≠ "java/lang/invoke/MethodHandle" ∧ yX5_workOfAll.cls ≠ "java/lang/invoke/VarHandle" ∧ (parseMethodDescriptor yX5_workOfAll.desc).map (fun d => d.parameters.length) = some 0 := by decide +kernel
set_option maxHeartbeats 4000000 in
set_option maxRecDepth 100000 in
theorem kX11_then (l : Launch) (E : zE) (Z : zS) (a1 : Int32) (a2 : Int32) (a3 : Int32) {K : Int32 → zS → Prop} (hw : wX11_then a1 a2 a3 Z K) : zCi l yX11_then wsX11_then ({ frames := 6, cells := 0, slots := 0, locals := 122 } : Room) E Z [.ref (E.2.1 96), .int a1, .int a2, .int a3] K := by
  refine z_bodyi (cc := cX11_then) (nL := 5) (ret := .int) (by decide) rfl (Nat.le_of_ble_eq_true rfl) ?_
  intro p e R s m args below meth c ls hfr hlo hF hr hlk hG hl
  have hx := hF.1.1
  have hb := hF.1.2.1
  have hown := hF.1.2.2.2.1
  have hts := hF.1.2.2.2.2
  have in3 : ∀ w ∈ u_ws RX3 TX3 5, w ∈ wsX11_then := fun _ h => List.mem_cons_of_mem _ (List.mem_append_left _ (List.mem_append_right _ h))
  have in5 : ∀ w ∈ u_ws RX5 TX5 15, w ∈ wsX11_then := fun _ h => List.mem_cons_of_mem _ (List.mem_append_right _ h)
  have in11 : ∀ w ∈ u_ws RX11 TX11 11, w ∈ wsX11_then := fun _ h => List.mem_cons_of_mem _ (List.mem_append_left _ (List.mem_append_left _ (List.mem_append_right _ h)))
  have hl : lv_has ls 5 [(0, .ref (E.2.1 96)), (1, .int a1), (2, .int a2), (3, .int a3)] := hl
  unfold wX11_then at hw
  refine lv_aload_n hx hb dX11_then_0 rfl (lv_at hl 0 rfl) ?_
  refine z_get hF hG 96 (by decide) z_gs rfl in11 1 (by decide) (List.mem_of_getElem? (i := 1) rfl) rfl rfl dX11_then_1 ?_
  refine lv_iload_n hx hb dX11_then_4 rfl (lv_at hl 1 rfl) ?_
  refine z_ci (va_runV (rest := []) hF.1 (kX3_has l E Z 0 a1 (by decide) hw _) (cwV 1 hts gX11_then_X3_has rfl rfl rfl ⟨rfl, hS_yX3_has⟩ ⟨Nat.le_trans (Nat.le_of_ble_eq_true rfl) hfr, Nat.le_trans (Nat.le_of_ble_eq_true rfl) hlo⟩) (z_preV hF hG (54 + 0) (zc_pl (by decide)) (z_pl (by decide)) rfl) rfl rfl hl.1 rfl (lv_room (Nat.le_of_ble_eq_true rfl)) dX11_then_5 ⟨Nat.zero_le _, Nat.zero_le _⟩) hG (fun r2 Z1 H locs hw hG => ?_)
  refine lv_if_eq (tgt := 30) hx hb dX11_then_8 (by decide) (fun c3 => ?_) (fun c3 => ?_)
  · replace hw := hw.1 c3
    refine lv_iconst (v := (-1)) hx hb dX11_then_30 (by decide) ?_
    exact z_iret hF hG hr hlk hw dX11_then_31
  replace hw := hw.2 c3
  refine lv_iload_n hx hb dX11_then_11 rfl (lv_at hl 2 rfl) ?_
  refine lv_iconst (v := 0) hx hb dX11_then_12 (by decide) ?_
  refine lv_bipush (v := 99) hx hb dX11_then_13 (by decide) ?_
  refine z_ci (va_runS (rest := []) hF.1 (kX11_within l E Z1 a2 0 99  hw _) (va_cwS 3 hts gX11_then_X11_within rfl rfl rfl hS_yX11_within ⟨Nat.le_trans (Nat.le_of_ble_eq_true rfl) hfr, Nat.le_trans (Nat.le_of_ble_eq_true rfl) hlo⟩) (z_preS hF hG) rfl rfl hl.1 rfl (lv_room (Nat.le_of_ble_eq_true rfl)) dX11_then_15 ⟨Nat.zero_le _, Nat.zero_le _⟩) hG (fun r5 Z4 H locs hw hG => ?_)
  refine lv_if_eq (tgt := 30) hx hb dX11_then_18 (by decide) (fun c6 => ?_) (fun c6 => ?_)
  · replace hw := hw.1 c6
    refine lv_iconst (v := (-1)) hx hb dX11_then_30 (by decide) ?_
    exact z_iret hF hG hr hlk hw dX11_then_31
  replace hw := hw.2 c6
  refine lv_iload_n hx hb dX11_then_21 rfl (lv_at hl 3 rfl) ?_
  refine lv_iconst (v := 0) hx hb dX11_then_22 (by decide) ?_
  refine lv_iconst (v := 5) hx hb dX11_then_23 (by decide) ?_
  refine z_ci (va_runS (rest := []) hF.1 (kX11_within l E Z4 a3 0 5  hw _) (va_cwS 3 hts gX11_then_X11_within rfl rfl rfl hS_yX11_within ⟨Nat.le_trans (Nat.le_of_ble_eq_true rfl) hfr, Nat.le_trans (Nat.le_of_ble_eq_true rfl) hlo⟩) (z_preS hF hG) rfl rfl hl.1 rfl (lv_room (Nat.le_of_ble_eq_true rfl)) dX11_then_24 ⟨Nat.zero_le _, Nat.zero_le _⟩) hG (fun r8 Z7 H locs hw hG => ?_)
  refine lv_if_ne (tgt := 32) hx hb dX11_then_27 (by decide) (fun c9 => ?_) (fun c9 => ?_)
  · replace hw := hw.1 c9
    refine lv_aload_n hx hb dX11_then_32 rfl (lv_at hl 0 rfl) ?_
    refine z_get hF hG 96 (by decide) z_gs rfl in11 2 (by decide) (List.mem_of_getElem? (i := 2) rfl) rfl rfl dX11_then_33 ?_
    refine lv_aload_n hx hb dX11_then_36 rfl (lv_at hl 0 rfl) ?_
    refine z_get hF hG 96 (by decide) z_gs rfl in11 1 (by decide) (List.mem_of_getElem? (i := 1) rfl) rfl rfl dX11_then_37 ?_
    refine z_cv (va_runV (rest := []) hF.1 (kX3_becomes l E Z7 1 0 (by decide) (by decide) hw _) (cwV 1 hts gX11_then_X3_becomes rfl rfl rfl ⟨rfl, hS_yX3_becomes⟩ ⟨Nat.le_trans (Nat.le_of_ble_eq_true rfl) hfr, Nat.le_trans (Nat.le_of_ble_eq_true rfl) hlo⟩) (z_preV hF hG (54 + 1) (zc_pl (by decide)) (z_pl (by decide)) rfl) rfl rfl hl.1 rfl (lv_room (Nat.le_of_ble_eq_true rfl)) dX11_then_40 ⟨Nat.zero_le _, Nat.zero_le _⟩) hG (fun Z10 H locs hw hG => ?_)
    refine lv_aload_n hx hb dX11_then_43 rfl (lv_at hl 0 rfl) ?_
    refine z_get hF hG 96 (by decide) z_gs rfl in11 2 (by decide) (List.mem_of_getElem? (i := 2) rfl) rfl rfl dX11_then_44 ?_
    refine lv_iload_n hx hb dX11_then_47 rfl (lv_at hl 2 rfl) ?_
    refine z_cv (va_runV (rest := []) hF.1 (kX3_goOnFor l E Z10 1 a2 (by decide) hw _) (cwV 1 hts gX11_then_X3_goOnFor rfl rfl rfl ⟨rfl, hS_yX3_goOnFor⟩ ⟨Nat.le_trans (Nat.le_of_ble_eq_true rfl) hfr, Nat.le_trans (Nat.le_of_ble_eq_true rfl) hlo⟩) (z_preV hF hG (54 + 1) (zc_pl (by decide)) (z_pl (by decide)) rfl) rfl rfl hl.1 rfl (lv_room (Nat.le_of_ble_eq_true rfl)) dX11_then_48 ⟨Nat.zero_le _, Nat.zero_le _⟩) hG (fun Z11 H locs hw hG => ?_)
    refine lv_aload_n hx hb dX11_then_51 rfl (lv_at hl 0 rfl) ?_
    refine z_get hF hG 96 (by decide) z_gs rfl in11 2 (by decide) (List.mem_of_getElem? (i := 2) rfl) rfl rfl dX11_then_52 ?_
    refine z_get hF hG (54 + 1) (zc_pl (by decide)) (z_pl (by decide)) rfl in3 0 (by decide) (List.mem_of_getElem? (i := 3) rfl) rfl rfl dX11_then_55 ?_
    refine lv_iload_n hx hb dX11_then_58 rfl (lv_at hl 1 rfl) ?_
    obtain ⟨q12, hw⟩ := hw
    refine z_aald hF hG (57 + 1) 1 (zc_pr (by decide)) (z_pr (by decide)) rfl q12 rfl dX11_then_59 ?_
    refine z_topr (fun vv13 evv13 => ?_)
    replace hw := hw vv13 evv13
    have hvv13 : vv13 < 18 := by rw [evv13]; exact (z_vb (by decide) q12)
    refine lv_astore (lv' := [(4, .ref (E.2.1 vv13)), (0, .ref (E.2.1 96)), (1, .int a1), (2, .int a2), (3, .int a3)]) hx hb dX11_then_60 hl (by decide) rfl (fun ls hl => ?_)
    refine lv_iload_n hx hb dX11_then_62 rfl (lv_at hl 4 rfl) ?_
    refine lv_topi (fun y14 ey14 => ?_)
    replace hw := hw y14 ey14
    by_cases c15 : y14 = 0
    · replace hw := hw.1 c15
      refine lv_tableIn (tgt := 96) (off := 33) hx hb dX11_then_63 (by rw [c15]; decide) (by rw [c15]; decide) (by rw [c15]; decide) (by decide) ?_
      refine lv_aload hx hb dX11_then_96 (lv_at hl 0 rfl) ?_
      refine z_ci (va_runV (rest := []) hF.1 (kX5_workOfAll l E Z11 vv13 hvv13 hw _) (cwV 0 hts gX11_then_X5_workOfAll rfl rfl rfl ⟨rfl, hS_yX5_workOfAll⟩ ⟨Nat.le_trans (Nat.le_of_ble_eq_true rfl) hfr, Nat.le_trans (Nat.le_of_ble_eq_true rfl) hlo⟩) (z_preV hF hG vv13 (zc_sv hvv13) (z_sv hvv13) rfl) rfl rfl hl.1 rfl (lv_room (Nat.le_of_ble_eq_true rfl)) dX11_then_98 ⟨Nat.zero_le _, Nat.zero_le _⟩) hG (fun r17 Z16 H locs hw hG => ?_)
      exact z_iret hF hG hr hlk hw dX11_then_101
    replace hw := hw.2 c15
    by_cases c18 : y14 = 1
    · replace hw := hw.1 c18
      refine lv_tableIn (tgt := 102) (off := 39) hx hb dX11_then_63 (by rw [c18]; decide) (by rw [c18]; decide) (by rw [c18]; decide) (by decide) ?_
      refine lv_aload hx hb dX11_then_102 (lv_at hl 0 rfl) ?_
      refine z_get hF hG vv13 (zc_sv hvv13) (z_sv hvv13) rfl in5 5 (by decide) (List.mem_of_getElem? (i := 4) rfl) rfl rfl dX11_then_104 ?_
      refine lv_sipush (v := 10000) hx hb dX11_then_107 (by decide) ?_
      refine lv_iadd hx hb dX11_then_110 ?_
      exact z_iret hF hG hr hlk hw dX11_then_111
    replace hw := hw.2 c18
    by_cases c19 : y14 = 2
    · replace hw := hw.1 c19
      refine lv_tableIn (tgt := 112) (off := 49) hx hb dX11_then_63 (by rw [c19]; decide) (by rw [c19]; decide) (by rw [c19]; decide) (by decide) ?_
      refine lv_aload hx hb dX11_then_112 (lv_at hl 0 rfl) ?_
      refine z_get hF hG vv13 (zc_sv hvv13) (z_sv hvv13) rfl in5 6 (by decide) (List.mem_of_getElem? (i := 5) rfl) rfl rfl dX11_then_114 ?_
      exact z_iret hF hG hr hlk hw dX11_then_117
    replace hw := hw.2 c19
    by_cases c20 : y14 = 3
    · replace hw := hw.1 c20
      refine lv_tableIn (tgt := 118) (off := 55) hx hb dX11_then_63 (by rw [c20]; decide) (by rw [c20]; decide) (by rw [c20]; decide) (by decide) ?_
      refine lv_aload hx hb dX11_then_118 (lv_at hl 0 rfl) ?_
      refine z_get hF hG vv13 (zc_sv hvv13) (z_sv hvv13) rfl in5 7 (by decide) (List.mem_of_getElem? (i := 6) rfl) rfl rfl dX11_then_120 ?_
      exact z_iret hF hG hr hlk hw dX11_then_123
    replace hw := hw.2 c20
    by_cases c21 : y14 = 4
    · replace hw := hw.1 c21
      refine lv_tableIn (tgt := 124) (off := 61) hx hb dX11_then_63 (by rw [c21]; decide) (by rw [c21]; decide) (by rw [c21]; decide) (by decide) ?_
      refine lv_aload hx hb dX11_then_124 (lv_at hl 0 rfl) ?_
      refine z_get hF hG vv13 (zc_sv hvv13) (z_sv hvv13) rfl in5 8 (by decide) (List.mem_of_getElem? (i := 7) rfl) rfl rfl dX11_then_126 ?_
      exact z_iret hF hG hr hlk hw dX11_then_129
    replace hw := hw.2 c21
    refine lv_tableOut (tgt := 130) hx hb dX11_then_63 (by have t0 := lv_neT c15 (a := 0) (by decide); have t1 := lv_neT c18 (a := 1) (by decide); have t2 := lv_neT c19 (a := 2) (by decide); have t3 := lv_neT c20 (a := 3) (by decide); have t4 := lv_neT c21 (a := 4) (by decide); omega) (by decide) ?_
    refine lv_aload hx hb dX11_then_130 (lv_at hl 0 rfl) ?_
    refine z_get hF hG vv13 (zc_sv hvv13) (z_sv hvv13) rfl in5 9 (by decide) (List.mem_of_getElem? (i := 8) rfl) rfl rfl dX11_then_132 ?_
    exact z_iret hF hG hr hlk hw dX11_then_135
  replace hw := hw.2 (fun h => h c9)
  refine lv_iconst (v := (-1)) hx hb dX11_then_30 (by decide) ?_
  exact z_iret hF hG hr hlk hw dX11_then_31
set_option maxHeartbeats 4000000 in
set_option maxRecDepth 100000 in
theorem kX11_runs (l : Launch) (E : zE) (Z : zS) (a1 : Int32) (a2 : Int32) {K : Int32 → zS → Prop} (hw : wX11_runs a1 a2 Z K) : zCi l yX11_runs wsX11_runs ({ frames := 6, cells := 0, slots := 0, locals := 122 } : Room) E Z [.ref (E.2.1 96), .int a1, .int a2] K := by
  refine z_bodyi (cc := cX11_runs) (nL := 3) (ret := .int) (by decide) rfl (Nat.le_of_ble_eq_true rfl) ?_
  intro p e R s m args below meth c ls hfr hlo hF hr hlk hG hl
  have hx := hF.1.1
  have hb := hF.1.2.1
  have hown := hF.1.2.2.2.1
  have hts := hF.1.2.2.2.2
  have in3 : ∀ w ∈ u_ws RX3 TX3 5, w ∈ wsX11_runs := fun _ h => List.mem_cons_of_mem _ (List.mem_append_left _ (List.mem_append_right _ h))
  have in11 : ∀ w ∈ u_ws RX11 TX11 11, w ∈ wsX11_runs := fun _ h => List.mem_cons_of_mem _ (List.mem_append_left _ (List.mem_append_left _ (List.mem_append_right _ h)))
  have hl : lv_has ls 3 [(0, .ref (E.2.1 96)), (1, .int a1), (2, .int a2)] := hl
  unfold wX11_runs at hw
  refine lv_iload_n hx hb dX11_runs_0 rfl (lv_at hl 1 rfl) ?_
  refine lv_iconst (v := 1) hx hb dX11_runs_1 (by decide) ?_
  refine lv_bipush (v := 99) hx hb dX11_runs_2 (by decide) ?_
  refine z_ci (va_runS (rest := []) hF.1 (kX11_within l E Z a1 1 99  hw _) (va_cwS 3 hts gX11_runs_X11_within rfl rfl rfl hS_yX11_within ⟨Nat.le_trans (Nat.le_of_ble_eq_true rfl) hfr, Nat.le_trans (Nat.le_of_ble_eq_true rfl) hlo⟩) (z_preS hF hG) rfl rfl hl.1 rfl (lv_room (Nat.le_of_ble_eq_true rfl)) dX11_runs_4 ⟨Nat.zero_le _, Nat.zero_le _⟩) hG (fun r2 Z1 H locs hw hG => ?_)
  refine lv_if_eq (tgt := 19) hx hb dX11_runs_7 (by decide) (fun c3 => ?_) (fun c3 => ?_)
  · replace hw := hw.1 c3
    refine lv_iconst (v := (-1)) hx hb dX11_runs_19 (by decide) ?_
    exact z_iret hF hG hr hlk hw dX11_runs_20
  replace hw := hw.2 c3
  refine lv_iload_n hx hb dX11_runs_10 rfl (lv_at hl 2 rfl) ?_
  refine lv_iconst (v := 0) hx hb dX11_runs_11 (by decide) ?_
  refine lv_iconst (v := 1) hx hb dX11_runs_12 (by decide) ?_
  refine z_ci (va_runS (rest := []) hF.1 (kX11_within l E Z1 a2 0 1  hw _) (va_cwS 3 hts gX11_runs_X11_within rfl rfl rfl hS_yX11_within ⟨Nat.le_trans (Nat.le_of_ble_eq_true rfl) hfr, Nat.le_trans (Nat.le_of_ble_eq_true rfl) hlo⟩) (z_preS hF hG) rfl rfl hl.1 rfl (lv_room (Nat.le_of_ble_eq_true rfl)) dX11_runs_13 ⟨Nat.zero_le _, Nat.zero_le _⟩) hG (fun r5 Z4 H locs hw hG => ?_)
  refine lv_if_ne (tgt := 21) hx hb dX11_runs_16 (by decide) (fun c6 => ?_) (fun c6 => ?_)
  · replace hw := hw.1 c6
    refine lv_aload_n hx hb dX11_runs_21 rfl (lv_at hl 0 rfl) ?_
    refine z_get hF hG 96 (by decide) z_gs rfl in11 2 (by decide) (List.mem_of_getElem? (i := 1) rfl) rfl rfl dX11_runs_22 ?_
    refine lv_aload_n hx hb dX11_runs_25 rfl (lv_at hl 0 rfl) ?_
    refine z_get hF hG 96 (by decide) z_gs rfl in11 1 (by decide) (List.mem_of_getElem? (i := 2) rfl) rfl rfl dX11_runs_26 ?_
    refine z_cv (va_runV (rest := []) hF.1 (kX3_becomes l E Z4 1 0 (by decide) (by decide) hw _) (cwV 1 hts gX11_runs_X3_becomes rfl rfl rfl ⟨rfl, hS_yX3_becomes⟩ ⟨Nat.le_trans (Nat.le_of_ble_eq_true rfl) hfr, Nat.le_trans (Nat.le_of_ble_eq_true rfl) hlo⟩) (z_preV hF hG (54 + 1) (zc_pl (by decide)) (z_pl (by decide)) rfl) rfl rfl hl.1 rfl (lv_room (Nat.le_of_ble_eq_true rfl)) dX11_runs_29 ⟨Nat.zero_le _, Nat.zero_le _⟩) hG (fun Z7 H locs hw hG => ?_)
    refine lv_aload_n hx hb dX11_runs_32 rfl (lv_at hl 0 rfl) ?_
    refine z_get hF hG 96 (by decide) z_gs rfl in11 2 (by decide) (List.mem_of_getElem? (i := 1) rfl) rfl rfl dX11_runs_33 ?_
    refine lv_iload_n hx hb dX11_runs_36 rfl (lv_at hl 1 rfl) ?_
    refine z_cv (va_runV (rest := []) hF.1 (kX3_goOnFor l E Z7 1 a1 (by decide) hw _) (cwV 1 hts gX11_runs_X3_goOnFor rfl rfl rfl ⟨rfl, hS_yX3_goOnFor⟩ ⟨Nat.le_trans (Nat.le_of_ble_eq_true rfl) hfr, Nat.le_trans (Nat.le_of_ble_eq_true rfl) hlo⟩) (z_preV hF hG (54 + 1) (zc_pl (by decide)) (z_pl (by decide)) rfl) rfl rfl hl.1 rfl (lv_room (Nat.le_of_ble_eq_true rfl)) dX11_runs_37 ⟨Nat.zero_le _, Nat.zero_le _⟩) hG (fun Z8 H locs hw hG => ?_)
    refine lv_iload_n hx hb dX11_runs_40 rfl (lv_at hl 2 rfl) ?_
    refine lv_if_ne (tgt := 54) hx hb dX11_runs_41 (by decide) (fun c9 => ?_) (fun c9 => ?_)
    · replace hw := hw.1 c9
      refine lv_aload_n hx hb dX11_runs_54 rfl (lv_at hl 0 rfl) ?_
      refine z_get hF hG 96 (by decide) z_gs rfl in11 2 (by decide) (List.mem_of_getElem? (i := 1) rfl) rfl rfl dX11_runs_55 ?_
      refine z_get hF hG (54 + 1) (zc_pl (by decide)) (z_pl (by decide)) rfl in3 4 (by decide) (List.mem_of_getElem? (i := 4) rfl) rfl rfl dX11_runs_58 ?_
      exact z_iret hF hG hr hlk hw dX11_runs_61
    replace hw := hw.2 (fun h => h c9)
    refine lv_aload_n hx hb dX11_runs_44 rfl (lv_at hl 0 rfl) ?_
    refine z_get hF hG 96 (by decide) z_gs rfl in11 2 (by decide) (List.mem_of_getElem? (i := 1) rfl) rfl rfl dX11_runs_45 ?_
    refine z_get hF hG (54 + 1) (zc_pl (by decide)) (z_pl (by decide)) rfl in3 3 (by decide) (List.mem_of_getElem? (i := 3) rfl) rfl rfl dX11_runs_48 ?_
    refine lv_goto (tgt := 61) hx hb dX11_runs_51 (by decide) ?_
    exact z_iret hF hG hr hlk hw dX11_runs_61
  replace hw := hw.2 (fun h => h c6)
  refine lv_iconst (v := (-1)) hx hb dX11_runs_19 (by decide) ?_
  exact z_iret hF hG hr hlk hw dX11_runs_20
theorem hS_yX3_isAllIdle : yX3_isAllIdle.cls ≠ "java/lang/invoke/MethodHandle" ∧ yX3_isAllIdle.cls ≠ "java/lang/invoke/VarHandle" ∧ (parseMethodDescriptor yX3_isAllIdle.desc).map (fun d => d.parameters.length) = some 0 := by decide +kernel
theorem hS_yX3_jobsOfAll : yX3_jobsOfAll.cls ≠ "java/lang/invoke/MethodHandle" ∧ yX3_jobsOfAll.cls ≠ "java/lang/invoke/VarHandle" ∧ (parseMethodDescriptor yX3_jobsOfAll.desc).map (fun d => d.parameters.length) = some 0 := by decide +kernel
set_option maxHeartbeats 4000000 in
set_option maxRecDepth 100000 in
theorem kX11_quiet (l : Launch) (E : zE) (Z : zS) (a1 : Int32) {K : Int32 → zS → Prop} (hw : wX11_quiet a1 Z K) : zCi l yX11_quiet wsX11_quiet ({ frames := 5, cells := 0, slots := 0, locals := 100 } : Room) E Z [.ref (E.2.1 96), .int a1] K := by
  refine z_bodyi (cc := cX11_quiet) (nL := 3) (ret := .int) (by decide) rfl (Nat.le_of_ble_eq_true rfl) ?_
  intro p e R s m args below meth c ls hfr hlo hF hr hlk hG hl
  have hx := hF.1.1
  have hb := hF.1.2.1
  have hown := hF.1.2.2.2.1
  have hts := hF.1.2.2.2.2
  have in11 : ∀ w ∈ u_ws RX11 TX11 11, w ∈ wsX11_quiet := fun _ h => List.mem_cons_of_mem _ (List.mem_append_left _ (List.mem_append_left _ (List.mem_append_right _ h)))
  have hl : lv_has ls 3 [(0, .ref (E.2.1 96)), (1, .int a1)] := hl
  have S24 : ∀ (L24 : Int32 → zS → Prop), (∀ (x2 : Int32) (Z : zS) (H : Heap) (locs : List Loc) (ls : Array Slot), zG E Z s H locs → lv_has ls 3 [(0, .ref (E.2.1 96)), (1, .int a1), (2, .int x2)] → L24 x2 Z → W p l e R s m args below meth c H locs 0 0 (zQi E K below args s) (F0 m 24 ls [])) → ∀ (x2 : Int32) (Z : zS) (H : Heap) (locs : List Loc) (ls : Array Slot), zG E Z s H locs → lv_has ls 3 [(0, .ref (E.2.1 96)), (1, .int a1), (2, .int x2)] → wX11_quiet_24b L24 a1 x2 Z K → W p l e R s m args below meth c H locs 0 0 (zQi E K below args s) (F0 m 24 ls []) := by
    intro L24 ih24
    have J59 : ∀ (x2 : Int32) (Z : zS) (H : Heap) (locs : List Loc) (ls : Array Slot), zG E Z s H locs → lv_has ls 3 [(0, .ref (E.2.1 96)), (1, .int a1), (2, .int x2)] → wX11_quiet_59 L24 a1 x2 Z K → W p l e R s m args below meth c H locs 0 0 (zQi E K below args s) (F0 m 59 ls []) := by
      intro x2 Z H locs ls hG hl hw
      unfold wX11_quiet_59 at hw
      refine lv_aload_n hx hb dX11_quiet_59 rfl (lv_at hl 0 rfl) ?_
      refine z_get hF hG 96 (by decide) z_gs rfl in11 2 (by decide) (List.mem_of_getElem? (i := 1) rfl) rfl rfl dX11_quiet_60 ?_
      refine lv_iconst (v := 0) hx hb dX11_quiet_63 (by decide) ?_
      refine z_cv (va_runV (rest := []) hF.1 (kX3_goOn l E Z 1 0 (by decide) hw _) (cwV 1 hts gX11_quiet_X3_goOn rfl rfl rfl ⟨rfl, hS_yX3_goOn⟩ ⟨Nat.le_trans (Nat.le_of_ble_eq_true rfl) hfr, Nat.le_trans (Nat.le_of_ble_eq_true rfl) hlo⟩) (z_preV hF hG (54 + 1) (zc_pl (by decide)) (z_pl (by decide)) rfl) rfl rfl hl.1 rfl (lv_room (Nat.le_of_ble_eq_true rfl)) dX11_quiet_64 ⟨Nat.zero_le _, Nat.zero_le _⟩) hG (fun Z14 H locs hw hG => ?_)
      obtain ⟨y15, ey15⟩ : ∃ y : Int32, y = x2 + 1 := ⟨_, rfl⟩
      replace hw := hw y15 ey15
      refine lv_iinc (v := y15) (lv' := [(2, .int y15), (0, .ref (E.2.1 96)), (1, .int a1)]) hx hb dX11_quiet_67 hl (k := 2) rfl (by rw [ey15]; rfl) (by decide) rfl (fun ls hl => ?_)
      refine lv_goto (tgt := 24) hx hb dX11_quiet_70 (by decide) ?_
      exact ih24 y15 Z14 _ _ _ hG (lv_sub hl [1, 2, 0] rfl) hw
    intro x2 Z H locs ls hG hl hw
    unfold wX11_quiet_24b at hw
    refine lv_iload_n hx hb dX11_quiet_24 rfl (lv_at hl 2 rfl) ?_
    refine lv_bipush (v := 99) hx hb dX11_quiet_25 (by decide) ?_
    refine lv_icmp_gt (tgt := 73) hx hb dX11_quiet_27 (by decide) (fun c6 => ?_) (fun c6 => ?_)
    · replace hw := hw.1 c6
      refine lv_bipush (v := (-4)) hx hb dX11_quiet_73 (by decide) ?_
      exact z_iret hF hG hr hlk hw dX11_quiet_75
    replace hw := hw.2 c6
    refine lv_iload_n hx hb dX11_quiet_30 rfl (lv_at hl 1 rfl) ?_
    refine lv_if_ne (tgt := 47) hx hb dX11_quiet_31 (by decide) (fun c7 => ?_) (fun c7 => ?_)
    · replace hw := hw.1 c7
      refine lv_aload_n hx hb dX11_quiet_47 rfl (lv_at hl 0 rfl) ?_
      refine z_get hF hG 96 (by decide) z_gs rfl in11 2 (by decide) (List.mem_of_getElem? (i := 1) rfl) rfl rfl dX11_quiet_48 ?_
      refine z_ci (va_runV (rest := []) hF.1 (kX3_isAllIdle l E Z 1 (by decide) hw _) (cwV 0 hts gX11_quiet_X3_isAllIdle rfl rfl rfl ⟨rfl, hS_yX3_isAllIdle⟩ ⟨Nat.le_trans (Nat.le_of_ble_eq_true rfl) hfr, Nat.le_trans (Nat.le_of_ble_eq_true rfl) hlo⟩) (z_preV hF hG (54 + 1) (zc_pl (by decide)) (z_pl (by decide)) rfl) rfl rfl hl.1 rfl (lv_room (Nat.le_of_ble_eq_true rfl)) dX11_quiet_51 ⟨Nat.zero_le _, Nat.zero_le _⟩) hG (fun r9 Z8 H locs hw hG => ?_)
      refine lv_if_eq (tgt := 59) hx hb dX11_quiet_54 (by decide) (fun c10 => ?_) (fun c10 => ?_)
      · replace hw := hw.1 c10
        exact J59 x2 Z8 _ _ _ hG (lv_sub hl [0, 1, 2] rfl) hw
      replace hw := hw.2 c10
      refine lv_iload_n hx hb dX11_quiet_57 rfl (lv_at hl 2 rfl) ?_
      exact z_iret hF hG hr hlk hw dX11_quiet_58
    replace hw := hw.2 (fun h => h c7)
    refine lv_aload_n hx hb dX11_quiet_34 rfl (lv_at hl 0 rfl) ?_
    refine z_get hF hG 96 (by decide) z_gs rfl in11 2 (by decide) (List.mem_of_getElem? (i := 1) rfl) rfl rfl dX11_quiet_35 ?_
    refine z_ci (va_runV (rest := []) hF.1 (kX3_jobsOfAll l E Z 1 (by decide) hw _) (cwV 0 hts gX11_quiet_X3_jobsOfAll rfl rfl rfl ⟨rfl, hS_yX3_jobsOfAll⟩ ⟨Nat.le_trans (Nat.le_of_ble_eq_true rfl) hfr, Nat.le_trans (Nat.le_of_ble_eq_true rfl) hlo⟩) (z_preV hF hG (54 + 1) (zc_pl (by decide)) (z_pl (by decide)) rfl) rfl rfl hl.1 rfl (lv_room (Nat.le_of_ble_eq_true rfl)) dX11_quiet_38 ⟨Nat.zero_le _, Nat.zero_le _⟩) hG (fun r12 Z11 H locs hw hG => ?_)
    refine lv_if_ne (tgt := 59) hx hb dX11_quiet_41 (by decide) (fun c13 => ?_) (fun c13 => ?_)
    · replace hw := hw.1 c13
      exact J59 x2 Z11 _ _ _ hG (lv_sub hl [0, 1, 2] rfl) hw
    replace hw := hw.2 (fun h => h c13)
    refine lv_goto (tgt := 57) hx hb dX11_quiet_44 (by decide) ?_
    refine lv_iload_n hx hb dX11_quiet_57 rfl (lv_at hl 2 rfl) ?_
    exact z_iret hF hG hr hlk hw dX11_quiet_58
  have J24 : ∀ n : Nat, ∀ (x2 : Int32) (Z : zS) (H : Heap) (locs : List Loc) (ls : Array Slot), zG E Z s H locs → lv_has ls 3 [(0, .ref (E.2.1 96)), (1, .int a1), (2, .int x2)] → wX11_quiet_24 a1 K n x2 Z → W p l e R s m args below meth c H locs 0 0 (zQi E K below args s) (F0 m 24 ls []) := by
    intro n
    induction n with
    | zero => intro x2 Z H locs ls hG hl hw; exact hw.elim
    | succ n ih => intro x2 Z H locs ls hG hl hw; exact S24 _ ih x2 Z H locs ls hG hl hw
  unfold wX11_quiet at hw
  refine lv_iload_n hx hb dX11_quiet_0 rfl (lv_at hl 1 rfl) ?_
  refine lv_iconst (v := 0) hx hb dX11_quiet_1 (by decide) ?_
  refine lv_iconst (v := 1) hx hb dX11_quiet_2 (by decide) ?_
  refine z_ci (va_runS (rest := []) hF.1 (kX11_within l E Z a1 0 1  hw _) (va_cwS 3 hts gX11_quiet_X11_within rfl rfl rfl hS_yX11_within ⟨Nat.le_trans (Nat.le_of_ble_eq_true rfl) hfr, Nat.le_trans (Nat.le_of_ble_eq_true rfl) hlo⟩) (z_preS hF hG) rfl rfl hl.1 rfl (lv_room (Nat.le_of_ble_eq_true rfl)) dX11_quiet_3 ⟨Nat.zero_le _, Nat.zero_le _⟩) hG (fun r2 Z1 H locs hw hG => ?_)
  refine lv_if_ne (tgt := 11) hx hb dX11_quiet_6 (by decide) (fun c3 => ?_) (fun c3 => ?_)
  · replace hw := hw.1 c3
    refine lv_aload_n hx hb dX11_quiet_11 rfl (lv_at hl 0 rfl) ?_
    refine z_get hF hG 96 (by decide) z_gs rfl in11 2 (by decide) (List.mem_of_getElem? (i := 1) rfl) rfl rfl dX11_quiet_12 ?_
    refine lv_aload_n hx hb dX11_quiet_15 rfl (lv_at hl 0 rfl) ?_
    refine z_get hF hG 96 (by decide) z_gs rfl in11 1 (by decide) (List.mem_of_getElem? (i := 2) rfl) rfl rfl dX11_quiet_16 ?_
    refine z_cv (va_runV (rest := []) hF.1 (kX3_becomes l E Z1 1 0 (by decide) (by decide) hw _) (cwV 1 hts gX11_quiet_X3_becomes rfl rfl rfl ⟨rfl, hS_yX3_becomes⟩ ⟨Nat.le_trans (Nat.le_of_ble_eq_true rfl) hfr, Nat.le_trans (Nat.le_of_ble_eq_true rfl) hlo⟩) (z_preV hF hG (54 + 1) (zc_pl (by decide)) (z_pl (by decide)) rfl) rfl rfl hl.1 rfl (lv_room (Nat.le_of_ble_eq_true rfl)) dX11_quiet_19 ⟨Nat.zero_le _, Nat.zero_le _⟩) hG (fun Z4 H locs hw hG => ?_)
    refine lv_iconst (v := 0) hx hb dX11_quiet_22 (by decide) ?_
    refine lv_topi (fun y5 ey5 => ?_)
    replace hw := hw y5 ey5
    refine lv_istore_n (lv' := [(2, .int y5), (0, .ref (E.2.1 96)), (1, .int a1)]) hx hb dX11_quiet_23 rfl hl (by decide) rfl (fun ls hl => ?_)
    obtain ⟨n24, hw⟩ := hw
    exact J24 n24 y5 Z4 _ _ _ hG (lv_sub hl [1, 2, 0] rfl) hw
  replace hw := hw.2 (fun h => h c3)
  refine lv_iconst (v := (-1)) hx hb dX11_quiet_9 (by decide) ?_
  exact z_iret hF hG hr hlk hw dX11_quiet_10
set_option maxHeartbeats 4000000 in
set_option maxRecDepth 100000 in
theorem kX11_lateMore (l : Launch) (E : zE) (Z : zS) (a1 : Int32) {K : Int32 → zS → Prop} (hw : wX11_lateMore a1 Z K) : zCi l yX11_lateMore wsX11_lateMore ({ frames := 0, cells := 0, slots := 0, locals := 0 } : Room) E Z [.ref (E.2.1 96), .int a1] K := by
  refine z_bodyi (cc := cX11_lateMore) (nL := 2) (ret := .int) (by decide) rfl (Nat.le_of_ble_eq_true rfl) ?_
  intro p e R s m args below meth c ls hfr hlo hF hr hlk hG hl
  have hx := hF.1.1
  have hb := hF.1.2.1
  have hown := hF.1.2.2.2.1
  have hts := hF.1.2.2.2.2
  have in3 : ∀ w ∈ u_ws RX3 TX3 5, w ∈ wsX11_lateMore := fun _ h => List.mem_cons_of_mem _ (List.mem_append_left _ (List.mem_append_right _ h))
  have in5 : ∀ w ∈ u_ws RX5 TX5 15, w ∈ wsX11_lateMore := fun _ h => List.mem_cons_of_mem _ (List.mem_append_right _ h)
  have in11 : ∀ w ∈ u_ws RX11 TX11 11, w ∈ wsX11_lateMore := fun _ h => List.mem_cons_of_mem _ (List.mem_append_left _ (List.mem_append_left _ (List.mem_append_right _ h)))
  have hl : lv_has ls 2 [(0, .ref (E.2.1 96)), (1, .int a1)] := hl
  unfold wX11_lateMore at hw
  refine lv_aload_n hx hb dX11_lateMore_0 rfl (lv_at hl 0 rfl) ?_
  refine z_get hF hG 96 (by decide) z_gs rfl in11 2 (by decide) (List.mem_of_getElem? (i := 1) rfl) rfl rfl dX11_lateMore_1 ?_
  refine z_get hF hG (54 + 1) (zc_pl (by decide)) (z_pl (by decide)) rfl in3 0 (by decide) (List.mem_of_getElem? (i := 2) rfl) rfl rfl dX11_lateMore_4 ?_
  refine lv_iload_n hx hb dX11_lateMore_7 rfl (lv_at hl 1 rfl) ?_
  obtain ⟨q1, hw⟩ := hw
  refine z_aald hF hG (57 + 1) 1 (zc_pr (by decide)) (z_pr (by decide)) rfl q1 rfl dX11_lateMore_8 ?_
  refine z_get hF hG (6 * 1 + (a1 : Int32).toNatClampNeg) (zc_sv (z_vb (by decide) q1)) (z_sv (z_vb (by decide) q1)) rfl in5 8 (by decide) (List.mem_of_getElem? (i := 3) rfl) rfl rfl dX11_lateMore_9 ?_
  refine lv_aload_n hx hb dX11_lateMore_12 rfl (lv_at hl 0 rfl) ?_
  refine z_get hF hG 96 (by decide) z_gs rfl in11 1 (by decide) (List.mem_of_getElem? (i := 4) rfl) rfl rfl dX11_lateMore_13 ?_
  refine z_get hF hG (54 + 0) (zc_pl (by decide)) (z_pl (by decide)) rfl in3 0 (by decide) (List.mem_of_getElem? (i := 2) rfl) rfl rfl dX11_lateMore_16 ?_
  refine lv_iload_n hx hb dX11_lateMore_19 rfl (lv_at hl 1 rfl) ?_
  obtain ⟨q2, hw⟩ := hw
  refine z_aald hF hG (57 + 0) 1 (zc_pr (by decide)) (z_pr (by decide)) rfl q2 rfl dX11_lateMore_20 ?_
  refine z_get hF hG (6 * 0 + (a1 : Int32).toNatClampNeg) (zc_sv (z_vb (by decide) q2)) (z_sv (z_vb (by decide) q2)) rfl in5 8 (by decide) (List.mem_of_getElem? (i := 3) rfl) rfl rfl dX11_lateMore_21 ?_
  refine lv_isub hx hb dX11_lateMore_24 ?_
  exact z_iret hF hG hr hlk hw dX11_lateMore_25
theorem hS_yX11_lateMore : yX11_lateMore.cls ≠ "java/lang/invoke/MethodHandle" ∧ yX11_lateMore.cls ≠ "java/lang/invoke/VarHandle" ∧ (parseMethodDescriptor yX11_lateMore.desc).map (fun d => d.parameters.length) = some 1 := by decide +kernel
set_option maxHeartbeats 4000000 in
set_option maxRecDepth 100000 in
theorem kX11_firstLate (l : Launch) (E : zE) (Z : zS) {K : Int32 → zS → Prop} (hw : wX11_firstLate Z K) : zCi l yX11_firstLate wsX11_firstLate ({ frames := 5, cells := 0, slots := 0, locals := 100 } : Room) E Z [.ref (E.2.1 96)] K := by
  refine z_bodyi (cc := cX11_firstLate) (nL := 3) (ret := .int) (by decide) rfl (Nat.le_of_ble_eq_true rfl) ?_
  intro p e R s m args below meth c ls hfr hlo hF hr hlk hG hl
  have hx := hF.1.1
  have hb := hF.1.2.1
  have hown := hF.1.2.2.2.1
  have hts := hF.1.2.2.2.2
  have in3 : ∀ w ∈ u_ws RX3 TX3 5, w ∈ wsX11_firstLate := fun _ h => List.mem_cons_of_mem _ (List.mem_append_left _ (List.mem_append_right _ h))
  have in11 : ∀ w ∈ u_ws RX11 TX11 11, w ∈ wsX11_firstLate := fun _ h => List.mem_cons_of_mem _ (List.mem_append_left _ (List.mem_append_left _ (List.mem_append_right _ h)))
  have hl : lv_has ls 3 [(0, .ref (E.2.1 96))] := hl
  have S13 : ∀ (L13 : Int32 → zS → Prop), (∀ (x1 : Int32) (Z : zS) (H : Heap) (locs : List Loc) (ls : Array Slot), zG E Z s H locs → lv_has ls 3 [(0, .ref (E.2.1 96)), (1, .int x1)] → L13 x1 Z → W p l e R s m args below meth c H locs 0 0 (zQi E K below args s) (F0 m 13 ls [])) → ∀ (x1 : Int32) (Z : zS) (H : Heap) (locs : List Loc) (ls : Array Slot), zG E Z s H locs → lv_has ls 3 [(0, .ref (E.2.1 96)), (1, .int x1)] → wX11_firstLate_13b L13 x1 Z K → W p l e R s m args below meth c H locs 0 0 (zQi E K below args s) (F0 m 13 ls []) := by
    intro L13 ih13
    have S29 : ∀ (L29 : Int32 → Int32 → zS → Prop), (∀ (x1 : Int32) (x2 : Int32) (Z : zS) (H : Heap) (locs : List Loc) (ls : Array Slot), zG E Z s H locs → lv_has ls 3 [(0, .ref (E.2.1 96)), (1, .int x1), (2, .int x2)] → L29 x1 x2 Z → W p l e R s m args below meth c H locs 0 0 (zQi E K below args s) (F0 m 29 ls [])) → ∀ (x1 : Int32) (x2 : Int32) (Z : zS) (H : Heap) (locs : List Loc) (ls : Array Slot), zG E Z s H locs → lv_has ls 3 [(0, .ref (E.2.1 96)), (1, .int x1), (2, .int x2)] → wX11_firstLate_29b L13 L29 x1 x2 Z K → W p l e R s m args below meth c H locs 0 0 (zQi E K below args s) (F0 m 29 ls []) := by
      intro L29 ih29
      intro x1 x2 Z H locs ls hG hl hw
      unfold wX11_firstLate_29b at hw
      refine lv_iload_n hx hb dX11_firstLate_29 rfl (lv_at hl 2 rfl) ?_
      refine lv_aload_n hx hb dX11_firstLate_30 rfl (lv_at hl 0 rfl) ?_
      refine z_get hF hG 96 (by decide) z_gs rfl in11 1 (by decide) (List.mem_of_getElem? (i := 2) rfl) rfl rfl dX11_firstLate_31 ?_
      refine z_get hF hG (54 + 0) (zc_pl (by decide)) (z_pl (by decide)) rfl in3 1 (by decide) (List.mem_of_getElem? (i := 3) rfl) rfl rfl dX11_firstLate_34 ?_
      refine lv_icmp_ge (tgt := 56) hx hb dX11_firstLate_37 (by decide) (fun c6 => ?_) (fun c6 => ?_)
      · replace hw := hw.1 c6
        obtain ⟨y7, ey7⟩ : ∃ y : Int32, y = x1 + 1 := ⟨_, rfl⟩
        replace hw := hw y7 ey7
        refine lv_iinc (v := y7) (lv' := [(1, .int y7), (0, .ref (E.2.1 96)), (2, .int x2)]) hx hb dX11_firstLate_56 hl (k := 1) rfl (by rw [ey7]; rfl) (by decide) rfl (fun ls hl => ?_)
        refine lv_goto (tgt := 13) hx hb dX11_firstLate_59 (by decide) ?_
        exact ih13 y7 Z _ _ _ hG (lv_sub hl [1, 0] rfl) hw
      replace hw := hw.2 c6
      refine lv_aload_n hx hb dX11_firstLate_40 rfl (lv_at hl 0 rfl) ?_
      refine lv_iload_n hx hb dX11_firstLate_41 rfl (lv_at hl 2 rfl) ?_
      refine z_ci (va_runV (rest := []) hF.1 (kX11_lateMore l E Z x2  hw _) (cwV 1 hts gX11_firstLate_X11_lateMore rfl rfl rfl ⟨rfl, hS_yX11_lateMore⟩ ⟨Nat.le_trans (Nat.le_of_ble_eq_true rfl) hfr, Nat.le_trans (Nat.le_of_ble_eq_true rfl) hlo⟩) (z_preV hF hG 96 (by decide) z_gs rfl) rfl rfl hl.1 rfl (lv_room (Nat.le_of_ble_eq_true rfl)) dX11_firstLate_42 ⟨Nat.zero_le _, Nat.zero_le _⟩) hG (fun r9 Z8 H locs hw hG => ?_)
      refine lv_if_le (tgt := 50) hx hb dX11_firstLate_45 (by decide) (fun c10 => ?_) (fun c10 => ?_)
      · replace hw := hw.1 c10
        obtain ⟨y11, ey11⟩ : ∃ y : Int32, y = x2 + 1 := ⟨_, rfl⟩
        replace hw := hw y11 ey11
        refine lv_iinc (v := y11) (lv' := [(2, .int y11), (0, .ref (E.2.1 96)), (1, .int x1)]) hx hb dX11_firstLate_50 hl (k := 2) rfl (by rw [ey11]; rfl) (by decide) rfl (fun ls hl => ?_)
        refine lv_goto (tgt := 29) hx hb dX11_firstLate_53 (by decide) ?_
        exact ih29 x1 y11 Z8 _ _ _ hG (lv_sub hl [1, 2, 0] rfl) hw
      replace hw := hw.2 c10
      refine lv_iload_n hx hb dX11_firstLate_48 rfl (lv_at hl 2 rfl) ?_
      exact z_iret hF hG hr hlk hw dX11_firstLate_49
    have J29 : ∀ n : Nat, ∀ (x1 : Int32) (x2 : Int32) (Z : zS) (H : Heap) (locs : List Loc) (ls : Array Slot), zG E Z s H locs → lv_has ls 3 [(0, .ref (E.2.1 96)), (1, .int x1), (2, .int x2)] → wX11_firstLate_29 L13 K n x1 x2 Z → W p l e R s m args below meth c H locs 0 0 (zQi E K below args s) (F0 m 29 ls []) := by
      intro n
      induction n with
      | zero => intro x1 x2 Z H locs ls hG hl hw; exact hw.elim
      | succ n ih => intro x1 x2 Z H locs ls hG hl hw; exact S29 _ ih x1 x2 Z H locs ls hG hl hw
    intro x1 Z H locs ls hG hl hw
    unfold wX11_firstLate_13b at hw
    refine lv_iload_n hx hb dX11_firstLate_13 rfl (lv_at hl 1 rfl) ?_
    refine lv_bipush (v := 99) hx hb dX11_firstLate_14 (by decide) ?_
    refine lv_icmp_gt (tgt := 62) hx hb dX11_firstLate_16 (by decide) (fun c3 => ?_) (fun c3 => ?_)
    · replace hw := hw.1 c3
      refine lv_bipush (v := (-4)) hx hb dX11_firstLate_62 (by decide) ?_
      exact z_iret hF hG hr hlk hw dX11_firstLate_64
    replace hw := hw.2 c3
    refine lv_aload_n hx hb dX11_firstLate_19 rfl (lv_at hl 0 rfl) ?_
    refine z_get hF hG 96 (by decide) z_gs rfl in11 2 (by decide) (List.mem_of_getElem? (i := 1) rfl) rfl rfl dX11_firstLate_20 ?_
    refine lv_iconst (v := 0) hx hb dX11_firstLate_23 (by decide) ?_
    refine z_cv (va_runV (rest := []) hF.1 (kX3_goOn l E Z 1 0 (by decide) hw _) (cwV 1 hts gX11_firstLate_X3_goOn rfl rfl rfl ⟨rfl, hS_yX3_goOn⟩ ⟨Nat.le_trans (Nat.le_of_ble_eq_true rfl) hfr, Nat.le_trans (Nat.le_of_ble_eq_true rfl) hlo⟩) (z_preV hF hG (54 + 1) (zc_pl (by decide)) (z_pl (by decide)) rfl) rfl rfl hl.1 rfl (lv_room (Nat.le_of_ble_eq_true rfl)) dX11_firstLate_24 ⟨Nat.zero_le _, Nat.zero_le _⟩) hG (fun Z4 H locs hw hG => ?_)
    refine lv_iconst (v := 0) hx hb dX11_firstLate_27 (by decide) ?_
    refine lv_topi (fun y5 ey5 => ?_)
    replace hw := hw y5 ey5
    refine lv_istore_n (lv' := [(2, .int y5), (0, .ref (E.2.1 96)), (1, .int x1)]) hx hb dX11_firstLate_28 rfl hl (by decide) rfl (fun ls hl => ?_)
    obtain ⟨n29, hw⟩ := hw
    exact J29 n29 x1 y5 Z4 _ _ _ hG (lv_sub hl [1, 2, 0] rfl) hw
  have J13 : ∀ n : Nat, ∀ (x1 : Int32) (Z : zS) (H : Heap) (locs : List Loc) (ls : Array Slot), zG E Z s H locs → lv_has ls 3 [(0, .ref (E.2.1 96)), (1, .int x1)] → wX11_firstLate_13 K n x1 Z → W p l e R s m args below meth c H locs 0 0 (zQi E K below args s) (F0 m 13 ls []) := by
    intro n
    induction n with
    | zero => intro x1 Z H locs ls hG hl hw; exact hw.elim
    | succ n ih => intro x1 Z H locs ls hG hl hw; exact S13 _ ih x1 Z H locs ls hG hl hw
  unfold wX11_firstLate at hw
  refine lv_aload_n hx hb dX11_firstLate_0 rfl (lv_at hl 0 rfl) ?_
  refine z_get hF hG 96 (by decide) z_gs rfl in11 2 (by decide) (List.mem_of_getElem? (i := 1) rfl) rfl rfl dX11_firstLate_1 ?_
  refine lv_aload_n hx hb dX11_firstLate_4 rfl (lv_at hl 0 rfl) ?_
  refine z_get hF hG 96 (by decide) z_gs rfl in11 1 (by decide) (List.mem_of_getElem? (i := 2) rfl) rfl rfl dX11_firstLate_5 ?_
  refine z_cv (va_runV (rest := []) hF.1 (kX3_becomes l E Z 1 0 (by decide) (by decide) hw _) (cwV 1 hts gX11_firstLate_X3_becomes rfl rfl rfl ⟨rfl, hS_yX3_becomes⟩ ⟨Nat.le_trans (Nat.le_of_ble_eq_true rfl) hfr, Nat.le_trans (Nat.le_of_ble_eq_true rfl) hlo⟩) (z_preV hF hG (54 + 1) (zc_pl (by decide)) (z_pl (by decide)) rfl) rfl rfl hl.1 rfl (lv_room (Nat.le_of_ble_eq_true rfl)) dX11_firstLate_8 ⟨Nat.zero_le _, Nat.zero_le _⟩) hG (fun Z1 H locs hw hG => ?_)
  refine lv_iconst (v := 1) hx hb dX11_firstLate_11 (by decide) ?_
  refine lv_topi (fun y2 ey2 => ?_)
  replace hw := hw y2 ey2
  refine lv_istore_n (lv' := [(1, .int y2), (0, .ref (E.2.1 96))]) hx hb dX11_firstLate_12 rfl hl (by decide) rfl (fun ls hl => ?_)
  obtain ⟨n13, hw⟩ := hw
  exact J13 n13 y2 Z1 _ _ _ hG (lv_sub hl [1, 0] rfl) hw
set_option maxHeartbeats 4000000 in
set_option maxRecDepth 100000 in
theorem kX11_ticksTillLate (l : Launch) (E : zE) (Z : zS) (a1 : Int32) (a2 : Int32) {K : Int32 → zS → Prop} (hw : wX11_ticksTillLate a1 a2 Z K) : zCi l yX11_ticksTillLate wsX11_ticksTillLate ({ frames := 5, cells := 0, slots := 0, locals := 100 } : Room) E Z [.ref (E.2.1 96), .int a1, .int a2] K := by
  refine z_bodyi (cc := cX11_ticksTillLate) (nL := 4) (ret := .int) (by decide) rfl (Nat.le_of_ble_eq_true rfl) ?_
  intro p e R s m args below meth c ls hfr hlo hF hr hlk hG hl
  have hx := hF.1.1
  have hb := hF.1.2.1
  have hown := hF.1.2.2.2.1
  have hts := hF.1.2.2.2.2
  have in11 : ∀ w ∈ u_ws RX11 TX11 11, w ∈ wsX11_ticksTillLate := fun _ h => List.mem_cons_of_mem _ (List.mem_append_left _ (List.mem_append_left _ (List.mem_append_right _ h)))
  have hl : lv_has ls 4 [(0, .ref (E.2.1 96)), (1, .int a1), (2, .int a2)] := hl
  have S2 : ∀ (L2 : Int32 → zS → Prop), (∀ (x3 : Int32) (Z : zS) (H : Heap) (locs : List Loc) (ls : Array Slot), zG E Z s H locs → lv_has ls 4 [(0, .ref (E.2.1 96)), (1, .int a1), (2, .int a2), (3, .int x3)] → L2 x3 Z → W p l e R s m args below meth c H locs 0 0 (zQi E K below args s) (F0 m 2 ls [])) → ∀ (x3 : Int32) (Z : zS) (H : Heap) (locs : List Loc) (ls : Array Slot), zG E Z s H locs → lv_has ls 4 [(0, .ref (E.2.1 96)), (1, .int a1), (2, .int a2), (3, .int x3)] → wX11_ticksTillLate_2b L2 a1 a2 x3 Z K → W p l e R s m args below meth c H locs 0 0 (zQi E K below args s) (F0 m 2 ls []) := by
    intro L2 ih2
    intro x3 Z H locs ls hG hl hw
    unfold wX11_ticksTillLate_2b at hw
    refine lv_iload_n hx hb dX11_ticksTillLate_2 rfl (lv_at hl 3 rfl) ?_
    refine lv_iload_n hx hb dX11_ticksTillLate_3 rfl (lv_at hl 2 rfl) ?_
    refine lv_icmp_gt (tgt := 31) hx hb dX11_ticksTillLate_4 (by decide) (fun c2 => ?_) (fun c2 => ?_)
    · replace hw := hw.1 c2
      refine lv_bipush (v := (-4)) hx hb dX11_ticksTillLate_31 (by decide) ?_
      exact z_iret hF hG hr hlk hw dX11_ticksTillLate_33
    replace hw := hw.2 c2
    refine lv_aload_n hx hb dX11_ticksTillLate_7 rfl (lv_at hl 0 rfl) ?_
    refine z_get hF hG 96 (by decide) z_gs rfl in11 2 (by decide) (List.mem_of_getElem? (i := 1) rfl) rfl rfl dX11_ticksTillLate_8 ?_
    refine lv_iconst (v := 0) hx hb dX11_ticksTillLate_11 (by decide) ?_
    refine z_cv (va_runV (rest := []) hF.1 (kX3_goOn l E Z 1 0 (by decide) hw _) (cwV 1 hts gX11_ticksTillLate_X3_goOn rfl rfl rfl ⟨rfl, hS_yX3_goOn⟩ ⟨Nat.le_trans (Nat.le_of_ble_eq_true rfl) hfr, Nat.le_trans (Nat.le_of_ble_eq_true rfl) hlo⟩) (z_preV hF hG (54 + 1) (zc_pl (by decide)) (z_pl (by decide)) rfl) rfl rfl hl.1 rfl (lv_room (Nat.le_of_ble_eq_true rfl)) dX11_ticksTillLate_12 ⟨Nat.zero_le _, Nat.zero_le _⟩) hG (fun Z3 H locs hw hG => ?_)
    refine lv_aload_n hx hb dX11_ticksTillLate_15 rfl (lv_at hl 0 rfl) ?_
    refine lv_iload_n hx hb dX11_ticksTillLate_16 rfl (lv_at hl 1 rfl) ?_
    refine z_ci (va_runV (rest := []) hF.1 (kX11_lateMore l E Z3 a1  hw _) (cwV 1 hts gX11_ticksTillLate_X11_lateMore rfl rfl rfl ⟨rfl, hS_yX11_lateMore⟩ ⟨Nat.le_trans (Nat.le_of_ble_eq_true rfl) hfr, Nat.le_trans (Nat.le_of_ble_eq_true rfl) hlo⟩) (z_preV hF hG 96 (by decide) z_gs rfl) rfl rfl hl.1 rfl (lv_room (Nat.le_of_ble_eq_true rfl)) dX11_ticksTillLate_17 ⟨Nat.zero_le _, Nat.zero_le _⟩) hG (fun r5 Z4 H locs hw hG => ?_)
    refine lv_if_le (tgt := 25) hx hb dX11_ticksTillLate_20 (by decide) (fun c6 => ?_) (fun c6 => ?_)
    · replace hw := hw.1 c6
      obtain ⟨y7, ey7⟩ : ∃ y : Int32, y = x3 + 1 := ⟨_, rfl⟩
      replace hw := hw y7 ey7
      refine lv_iinc (v := y7) (lv' := [(3, .int y7), (0, .ref (E.2.1 96)), (1, .int a1), (2, .int a2)]) hx hb dX11_ticksTillLate_25 hl (k := 3) rfl (by rw [ey7]; rfl) (by decide) rfl (fun ls hl => ?_)
      refine lv_goto (tgt := 2) hx hb dX11_ticksTillLate_28 (by decide) ?_
      exact ih2 y7 Z4 _ _ _ hG (lv_sub hl [1, 2, 3, 0] rfl) hw
    replace hw := hw.2 c6
    refine lv_iload_n hx hb dX11_ticksTillLate_23 rfl (lv_at hl 3 rfl) ?_
    exact z_iret hF hG hr hlk hw dX11_ticksTillLate_24
  have J2 : ∀ n : Nat, ∀ (x3 : Int32) (Z : zS) (H : Heap) (locs : List Loc) (ls : Array Slot), zG E Z s H locs → lv_has ls 4 [(0, .ref (E.2.1 96)), (1, .int a1), (2, .int a2), (3, .int x3)] → wX11_ticksTillLate_2 a1 a2 K n x3 Z → W p l e R s m args below meth c H locs 0 0 (zQi E K below args s) (F0 m 2 ls []) := by
    intro n
    induction n with
    | zero => intro x3 Z H locs ls hG hl hw; exact hw.elim
    | succ n ih => intro x3 Z H locs ls hG hl hw; exact S2 _ ih x3 Z H locs ls hG hl hw
  unfold wX11_ticksTillLate at hw
  refine lv_iconst (v := 1) hx hb dX11_ticksTillLate_0 (by decide) ?_
  refine lv_topi (fun y1 ey1 => ?_)
  replace hw := hw y1 ey1
  refine lv_istore_n (lv' := [(3, .int y1), (0, .ref (E.2.1 96)), (1, .int a1), (2, .int a2)]) hx hb dX11_ticksTillLate_1 rfl hl (by decide) rfl (fun ls hl => ?_)
  obtain ⟨n2, hw⟩ := hw
  exact J2 n2 y1 Z _ _ _ hG (lv_sub hl [1, 2, 3, 0] rfl) hw
theorem hS_yX11_ticksTillLate : yX11_ticksTillLate.cls ≠ "java/lang/invoke/MethodHandle" ∧ yX11_ticksTillLate.cls ≠ "java/lang/invoke/VarHandle" ∧ (parseMethodDescriptor yX11_ticksTillLate.desc).map (fun d => d.parameters.length) = some 2 := by decide +kernel
theorem hS_yX11_firstLate : yX11_firstLate.cls ≠ "java/lang/invoke/MethodHandle" ∧ yX11_firstLate.cls ≠ "java/lang/invoke/VarHandle" ∧ (parseMethodDescriptor yX11_firstLate.desc).map (fun d => d.parameters.length) = some 0 := by decide +kernel
set_option maxHeartbeats 4000000 in
set_option maxRecDepth 100000 in
theorem kX11_misses (l : Launch) (E : zE) (Z : zS) (a1 : Int32) {K : Int32 → zS → Prop} (hw : wX11_misses a1 Z K) : zCi l yX11_misses wsX11_misses ({ frames := 6, cells := 0, slots := 0, locals := 123 } : Room) E Z [.ref (E.2.1 96), .int a1] K := by
  refine z_bodyi (cc := cX11_misses) (nL := 2) (ret := .int) (by decide) rfl (Nat.le_of_ble_eq_true rfl) ?_
  intro p e R s m args below meth c ls hfr hlo hF hr hlk hG hl
  have hx := hF.1.1
  have hb := hF.1.2.1
  have hown := hF.1.2.2.2.1
  have hts := hF.1.2.2.2.2
  have in11 : ∀ w ∈ u_ws RX11 TX11 11, w ∈ wsX11_misses := fun _ h => List.mem_cons_of_mem _ (List.mem_append_left _ (List.mem_append_left _ (List.mem_append_right _ h)))
  have hl : lv_has ls 2 [(0, .ref (E.2.1 96)), (1, .int a1)] := hl
  unfold wX11_misses at hw
  refine lv_iload_n hx hb dX11_misses_0 rfl (lv_at hl 1 rfl) ?_
  refine lv_iconst (v := (-1)) hx hb dX11_misses_1 (by decide) ?_
  refine lv_icmp_ne (tgt := 10) hx hb dX11_misses_2 (by decide) (fun c1 => ?_) (fun c1 => ?_)
  · replace hw := hw.1 c1
    refine lv_aload_n hx hb dX11_misses_10 rfl (lv_at hl 0 rfl) ?_
    refine z_get hF hG 96 (by decide) z_gs rfl in11 1 (by decide) (List.mem_of_getElem? (i := 1) rfl) rfl rfl dX11_misses_11 ?_
    refine lv_iload_n hx hb dX11_misses_14 rfl (lv_at hl 1 rfl) ?_
    refine z_ci (va_runV (rest := []) hF.1 (kX3_has l E Z 0 a1 (by decide) hw _) (cwV 1 hts gX11_misses_X3_has rfl rfl rfl ⟨rfl, hS_yX3_has⟩ ⟨Nat.le_trans (Nat.le_of_ble_eq_true rfl) hfr, Nat.le_trans (Nat.le_of_ble_eq_true rfl) hlo⟩) (z_preV hF hG (54 + 0) (zc_pl (by decide)) (z_pl (by decide)) rfl) rfl rfl hl.1 rfl (lv_room (Nat.le_of_ble_eq_true rfl)) dX11_misses_15 ⟨Nat.zero_le _, Nat.zero_le _⟩) hG (fun r3 Z2 H locs hw hG => ?_)
    refine lv_if_ne (tgt := 23) hx hb dX11_misses_18 (by decide) (fun c4 => ?_) (fun c4 => ?_)
    · replace hw := hw.1 c4
      refine lv_aload_n hx hb dX11_misses_23 rfl (lv_at hl 0 rfl) ?_
      refine z_get hF hG 96 (by decide) z_gs rfl in11 2 (by decide) (List.mem_of_getElem? (i := 2) rfl) rfl rfl dX11_misses_24 ?_
      refine lv_aload_n hx hb dX11_misses_27 rfl (lv_at hl 0 rfl) ?_
      refine z_get hF hG 96 (by decide) z_gs rfl in11 1 (by decide) (List.mem_of_getElem? (i := 1) rfl) rfl rfl dX11_misses_28 ?_
      refine z_cv (va_runV (rest := []) hF.1 (kX3_becomes l E Z2 1 0 (by decide) (by decide) hw _) (cwV 1 hts gX11_misses_X3_becomes rfl rfl rfl ⟨rfl, hS_yX3_becomes⟩ ⟨Nat.le_trans (Nat.le_of_ble_eq_true rfl) hfr, Nat.le_trans (Nat.le_of_ble_eq_true rfl) hlo⟩) (z_preV hF hG (54 + 1) (zc_pl (by decide)) (z_pl (by decide)) rfl) rfl rfl hl.1 rfl (lv_room (Nat.le_of_ble_eq_true rfl)) dX11_misses_31 ⟨Nat.zero_le _, Nat.zero_le _⟩) hG (fun Z5 H locs hw hG => ?_)
      refine lv_aload_n hx hb dX11_misses_34 rfl (lv_at hl 0 rfl) ?_
      refine lv_iload_n hx hb dX11_misses_35 rfl (lv_at hl 1 rfl) ?_
      refine lv_bipush (v := 99) hx hb dX11_misses_36 (by decide) ?_
      refine z_ci (va_runV (rest := []) hF.1 (kX11_ticksTillLate l E Z5 a1 99  hw _) (cwV 2 hts gX11_misses_X11_ticksTillLate rfl rfl rfl ⟨rfl, hS_yX11_ticksTillLate⟩ ⟨Nat.le_trans (Nat.le_of_ble_eq_true rfl) hfr, Nat.le_trans (Nat.le_of_ble_eq_true rfl) hlo⟩) (z_preV hF hG 96 (by decide) z_gs rfl) rfl rfl hl.1 rfl (lv_room (Nat.le_of_ble_eq_true rfl)) dX11_misses_38 ⟨Nat.zero_le _, Nat.zero_le _⟩) hG (fun r7 Z6 H locs hw hG => ?_)
      exact z_iret hF hG hr hlk hw dX11_misses_41
    replace hw := hw.2 (fun h => h c4)
    refine lv_iconst (v := (-1)) hx hb dX11_misses_21 (by decide) ?_
    exact z_iret hF hG hr hlk hw dX11_misses_22
  replace hw := hw.2 (fun h => h c1)
  refine lv_aload_n hx hb dX11_misses_5 rfl (lv_at hl 0 rfl) ?_
  refine z_ci (va_runV (rest := []) hF.1 (kX11_firstLate l E Z   hw _) (cwV 0 hts gX11_misses_X11_firstLate rfl rfl rfl ⟨rfl, hS_yX11_firstLate⟩ ⟨Nat.le_trans (Nat.le_of_ble_eq_true rfl) hfr, Nat.le_trans (Nat.le_of_ble_eq_true rfl) hlo⟩) (z_preV hF hG 96 (by decide) z_gs rfl) rfl rfl hl.1 rfl (lv_room (Nat.le_of_ble_eq_true rfl)) dX11_misses_6 ⟨Nat.zero_le _, Nat.zero_le _⟩) hG (fun r9 Z8 H locs hw hG => ?_)
  exact z_iret hF hG hr hlk hw dX11_misses_9
set_option maxHeartbeats 4000000 in
set_option maxRecDepth 100000 in
theorem kX11_ran (l : Launch) (E : zE) (Z : zS) (a1 : Int32) (a2 : Int32) (a3 : Int32) {K : Int32 → zS → Prop} (hw : wX11_ran a1 a2 a3 Z K) : zCi l yX11_ran wsX11_ran ({ frames := 5, cells := 0, slots := 0, locals := 100 } : Room) E Z [.ref (E.2.1 96), .int a1, .int a2, .int a3] K := by
  refine z_bodyi (cc := cX11_ran) (nL := 6) (ret := .int) (by decide) rfl (Nat.le_of_ble_eq_true rfl) ?_
  intro p e R s m args below meth c ls hfr hlo hF hr hlk hG hl
  have hx := hF.1.1
  have hb := hF.1.2.1
  have hown := hF.1.2.2.2.1
  have hts := hF.1.2.2.2.2
  have in3 : ∀ w ∈ u_ws RX3 TX3 5, w ∈ wsX11_ran := fun _ h => List.mem_cons_of_mem _ (List.mem_append_left _ (List.mem_append_right _ h))
  have in11 : ∀ w ∈ u_ws RX11 TX11 11, w ∈ wsX11_ran := fun _ h => List.mem_cons_of_mem _ (List.mem_append_left _ (List.mem_append_left _ (List.mem_append_right _ h)))
  have hl : lv_has ls 6 [(0, .ref (E.2.1 96)), (1, .int a1), (2, .int a2), (3, .int a3)] := hl
  have S49 : ∀ (L49 : Int32 → Int32 → zS → Prop), (∀ (x4 : Int32) (x5 : Int32) (Z : zS) (H : Heap) (locs : List Loc) (ls : Array Slot), zG E Z s H locs → lv_has ls 6 [(0, .ref (E.2.1 96)), (1, .int a1), (2, .int a2), (3, .int a3), (4, .int x4), (5, .int x5)] → L49 x4 x5 Z → W p l e R s m args below meth c H locs 0 0 (zQi E K below args s) (F0 m 49 ls [])) → ∀ (x4 : Int32) (x5 : Int32) (Z : zS) (H : Heap) (locs : List Loc) (ls : Array Slot), zG E Z s H locs → lv_has ls 6 [(0, .ref (E.2.1 96)), (1, .int a1), (2, .int a2), (3, .int a3), (4, .int x4), (5, .int x5)] → wX11_ran_49b L49 a1 a2 a3 x4 x5 Z K → W p l e R s m args below meth c H locs 0 0 (zQi E K below args s) (F0 m 49 ls []) := by
    intro L49 ih49
    have J91 : ∀ (x4 : Int32) (x5 : Int32) (Z : zS) (H : Heap) (locs : List Loc) (ls : Array Slot), zG E Z s H locs → lv_has ls 6 [(0, .ref (E.2.1 96)), (1, .int a1), (2, .int a2), (3, .int a3), (4, .int x4), (5, .int x5)] → wX11_ran_91 L49 a1 a2 a3 x4 x5 Z K → W p l e R s m args below meth c H locs 0 0 (zQi E K below args s) (F0 m 91 ls []) := by
      intro x4 x5 Z H locs ls hG hl hw
      unfold wX11_ran_91 at hw
      obtain ⟨y18, ey18⟩ : ∃ y : Int32, y = x5 + 1 := ⟨_, rfl⟩
      replace hw := hw y18 ey18
      refine lv_iinc (v := y18) (lv' := [(5, .int y18), (0, .ref (E.2.1 96)), (1, .int a1), (2, .int a2), (3, .int a3), (4, .int x4)]) hx hb dX11_ran_91 hl (k := 5) rfl (by rw [ey18]; rfl) (by decide) rfl (fun ls hl => ?_)
      refine lv_goto (tgt := 49) hx hb dX11_ran_94 (by decide) ?_
      exact ih49 x4 y18 Z _ _ _ hG (lv_sub hl [1, 2, 3, 4, 5, 0] rfl) hw
    have J84 : ∀ (x4 : Int32) (x5 : Int32) (s0 : Int32) (Z : zS) (H : Heap) (locs : List Loc) (ls : Array Slot), zG E Z s H locs → lv_has ls 6 [(0, .ref (E.2.1 96)), (1, .int a1), (2, .int a2), (3, .int a3), (4, .int x4), (5, .int x5)] → wX11_ran_84 L49 a1 a2 a3 x4 x5 s0 Z K → W p l e R s m args below meth c H locs 0 0 (zQi E K below args s) (F0 m 84 ls [.int s0]) := by
      intro x4 x5 s0 Z H locs ls hG hl hw
      unfold wX11_ran_84 at hw
      refine lv_iload_n hx hb dX11_ran_84 rfl (lv_at hl 1 rfl) ?_
      refine lv_icmp_ne (tgt := 91) hx hb dX11_ran_85 (by decide) (fun c16 => ?_) (fun c16 => ?_)
      · replace hw := hw.1 c16
        exact J91 x4 x5 Z _ _ _ hG (lv_sub hl [0, 1, 2, 3, 4, 5] rfl) hw
      replace hw := hw.2 (fun h => h c16)
      obtain ⟨y17, ey17⟩ : ∃ y : Int32, y = x4 + 1 := ⟨_, rfl⟩
      replace hw := hw y17 ey17
      refine lv_iinc (v := y17) (lv' := [(4, .int y17), (0, .ref (E.2.1 96)), (1, .int a1), (2, .int a2), (3, .int a3), (5, .int x5)]) hx hb dX11_ran_88 hl (k := 4) rfl (by rw [ey17]; rfl) (by decide) rfl (fun ls hl => ?_)
      exact J91 y17 x5 Z _ _ _ hG (lv_sub hl [1, 2, 3, 4, 0, 5] rfl) hw
    intro x4 x5 Z H locs ls hG hl hw
    unfold wX11_ran_49b at hw
    refine lv_iload hx hb dX11_ran_49 (lv_at hl 5 rfl) ?_
    refine lv_iload_n hx hb dX11_ran_51 rfl (lv_at hl 2 rfl) ?_
    refine lv_icmp_ge (tgt := 97) hx hb dX11_ran_52 (by decide) (fun c13 => ?_) (fun c13 => ?_)
    · replace hw := hw.1 c13
      refine lv_iload hx hb dX11_ran_97 (lv_at hl 4 rfl) ?_
      exact z_iret hF hG hr hlk hw dX11_ran_99
    replace hw := hw.2 c13
    refine lv_aload_n hx hb dX11_ran_55 rfl (lv_at hl 0 rfl) ?_
    refine z_get hF hG 96 (by decide) z_gs rfl in11 2 (by decide) (List.mem_of_getElem? (i := 2) rfl) rfl rfl dX11_ran_56 ?_
    refine lv_iconst (v := 0) hx hb dX11_ran_59 (by decide) ?_
    refine z_cv (va_runV (rest := []) hF.1 (kX3_goOn l E Z 1 0 (by decide) hw _) (cwV 1 hts gX11_ran_X3_goOn rfl rfl rfl ⟨rfl, hS_yX3_goOn⟩ ⟨Nat.le_trans (Nat.le_of_ble_eq_true rfl) hfr, Nat.le_trans (Nat.le_of_ble_eq_true rfl) hlo⟩) (z_preV hF hG (54 + 1) (zc_pl (by decide)) (z_pl (by decide)) rfl) rfl rfl hl.1 rfl (lv_room (Nat.le_of_ble_eq_true rfl)) dX11_ran_60 ⟨Nat.zero_le _, Nat.zero_le _⟩) hG (fun Z14 H locs hw hG => ?_)
    refine lv_iload_n hx hb dX11_ran_63 rfl (lv_at hl 3 rfl) ?_
    refine lv_if_ne (tgt := 77) hx hb dX11_ran_64 (by decide) (fun c15 => ?_) (fun c15 => ?_)
    · replace hw := hw.1 c15
      refine lv_aload_n hx hb dX11_ran_77 rfl (lv_at hl 0 rfl) ?_
      refine z_get hF hG 96 (by decide) z_gs rfl in11 2 (by decide) (List.mem_of_getElem? (i := 2) rfl) rfl rfl dX11_ran_78 ?_
      refine z_get hF hG (54 + 1) (zc_pl (by decide)) (z_pl (by decide)) rfl in3 3 (by decide) (List.mem_of_getElem? (i := 4) rfl) rfl rfl dX11_ran_81 ?_
      exact J84 x4 x5 ((Z14 (54 + 1) 3)) Z14 _ _ _ hG (lv_sub hl [0, 1, 2, 3, 4, 5] rfl) hw
    replace hw := hw.2 (fun h => h c15)
    refine lv_aload_n hx hb dX11_ran_67 rfl (lv_at hl 0 rfl) ?_
    refine z_get hF hG 96 (by decide) z_gs rfl in11 2 (by decide) (List.mem_of_getElem? (i := 2) rfl) rfl rfl dX11_ran_68 ?_
    refine z_get hF hG (54 + 1) (zc_pl (by decide)) (z_pl (by decide)) rfl in3 4 (by decide) (List.mem_of_getElem? (i := 3) rfl) rfl rfl dX11_ran_71 ?_
    refine lv_goto (tgt := 84) hx hb dX11_ran_74 (by decide) ?_
    exact J84 x4 x5 ((Z14 (54 + 1) 4)) Z14 _ _ _ hG (lv_sub hl [0, 1, 2, 3, 4, 5] rfl) hw
  have J49 : ∀ n : Nat, ∀ (x4 : Int32) (x5 : Int32) (Z : zS) (H : Heap) (locs : List Loc) (ls : Array Slot), zG E Z s H locs → lv_has ls 6 [(0, .ref (E.2.1 96)), (1, .int a1), (2, .int a2), (3, .int a3), (4, .int x4), (5, .int x5)] → wX11_ran_49 a1 a2 a3 K n x4 x5 Z → W p l e R s m args below meth c H locs 0 0 (zQi E K below args s) (F0 m 49 ls []) := by
    intro n
    induction n with
    | zero => intro x4 x5 Z H locs ls hG hl hw; exact hw.elim
    | succ n ih => intro x4 x5 Z H locs ls hG hl hw; exact S49 _ ih x4 x5 Z H locs ls hG hl hw
  unfold wX11_ran at hw
  refine lv_aload_n hx hb dX11_ran_0 rfl (lv_at hl 0 rfl) ?_
  refine z_get hF hG 96 (by decide) z_gs rfl in11 1 (by decide) (List.mem_of_getElem? (i := 1) rfl) rfl rfl dX11_ran_1 ?_
  refine lv_iload_n hx hb dX11_ran_4 rfl (lv_at hl 1 rfl) ?_
  refine z_ci (va_runV (rest := []) hF.1 (kX3_has l E Z 0 a1 (by decide) hw _) (cwV 1 hts gX11_ran_X3_has rfl rfl rfl ⟨rfl, hS_yX3_has⟩ ⟨Nat.le_trans (Nat.le_of_ble_eq_true rfl) hfr, Nat.le_trans (Nat.le_of_ble_eq_true rfl) hlo⟩) (z_preV hF hG (54 + 0) (zc_pl (by decide)) (z_pl (by decide)) rfl) rfl rfl hl.1 rfl (lv_room (Nat.le_of_ble_eq_true rfl)) dX11_ran_5 ⟨Nat.zero_le _, Nat.zero_le _⟩) hG (fun r2 Z1 H locs hw hG => ?_)
  refine lv_if_eq (tgt := 30) hx hb dX11_ran_8 (by decide) (fun c3 => ?_) (fun c3 => ?_)
  · replace hw := hw.1 c3
    refine lv_iconst (v := (-1)) hx hb dX11_ran_30 (by decide) ?_
    exact z_iret hF hG hr hlk hw dX11_ran_31
  replace hw := hw.2 c3
  refine lv_iload_n hx hb dX11_ran_11 rfl (lv_at hl 2 rfl) ?_
  refine lv_iconst (v := 0) hx hb dX11_ran_12 (by decide) ?_
  refine lv_bipush (v := 99) hx hb dX11_ran_13 (by decide) ?_
  refine z_ci (va_runS (rest := []) hF.1 (kX11_within l E Z1 a2 0 99  hw _) (va_cwS 3 hts gX11_ran_X11_within rfl rfl rfl hS_yX11_within ⟨Nat.le_trans (Nat.le_of_ble_eq_true rfl) hfr, Nat.le_trans (Nat.le_of_ble_eq_true rfl) hlo⟩) (z_preS hF hG) rfl rfl hl.1 rfl (lv_room (Nat.le_of_ble_eq_true rfl)) dX11_ran_15 ⟨Nat.zero_le _, Nat.zero_le _⟩) hG (fun r5 Z4 H locs hw hG => ?_)
  refine lv_if_eq (tgt := 30) hx hb dX11_ran_18 (by decide) (fun c6 => ?_) (fun c6 => ?_)
  · replace hw := hw.1 c6
    refine lv_iconst (v := (-1)) hx hb dX11_ran_30 (by decide) ?_
    exact z_iret hF hG hr hlk hw dX11_ran_31
  replace hw := hw.2 c6
  refine lv_iload_n hx hb dX11_ran_21 rfl (lv_at hl 3 rfl) ?_
  refine lv_iconst (v := 0) hx hb dX11_ran_22 (by decide) ?_
  refine lv_iconst (v := 1) hx hb dX11_ran_23 (by decide) ?_
  refine z_ci (va_runS (rest := []) hF.1 (kX11_within l E Z4 a3 0 1  hw _) (va_cwS 3 hts gX11_ran_X11_within rfl rfl rfl hS_yX11_within ⟨Nat.le_trans (Nat.le_of_ble_eq_true rfl) hfr, Nat.le_trans (Nat.le_of_ble_eq_true rfl) hlo⟩) (z_preS hF hG) rfl rfl hl.1 rfl (lv_room (Nat.le_of_ble_eq_true rfl)) dX11_ran_24 ⟨Nat.zero_le _, Nat.zero_le _⟩) hG (fun r8 Z7 H locs hw hG => ?_)
  refine lv_if_ne (tgt := 32) hx hb dX11_ran_27 (by decide) (fun c9 => ?_) (fun c9 => ?_)
  · replace hw := hw.1 c9
    refine lv_aload_n hx hb dX11_ran_32 rfl (lv_at hl 0 rfl) ?_
    refine z_get hF hG 96 (by decide) z_gs rfl in11 2 (by decide) (List.mem_of_getElem? (i := 2) rfl) rfl rfl dX11_ran_33 ?_
    refine lv_aload_n hx hb dX11_ran_36 rfl (lv_at hl 0 rfl) ?_
    refine z_get hF hG 96 (by decide) z_gs rfl in11 1 (by decide) (List.mem_of_getElem? (i := 1) rfl) rfl rfl dX11_ran_37 ?_
    refine z_cv (va_runV (rest := []) hF.1 (kX3_becomes l E Z7 1 0 (by decide) (by decide) hw _) (cwV 1 hts gX11_ran_X3_becomes rfl rfl rfl ⟨rfl, hS_yX3_becomes⟩ ⟨Nat.le_trans (Nat.le_of_ble_eq_true rfl) hfr, Nat.le_trans (Nat.le_of_ble_eq_true rfl) hlo⟩) (z_preV hF hG (54 + 1) (zc_pl (by decide)) (z_pl (by decide)) rfl) rfl rfl hl.1 rfl (lv_room (Nat.le_of_ble_eq_true rfl)) dX11_ran_40 ⟨Nat.zero_le _, Nat.zero_le _⟩) hG (fun Z10 H locs hw hG => ?_)
    refine lv_iconst (v := 0) hx hb dX11_ran_43 (by decide) ?_
    refine lv_topi (fun y11 ey11 => ?_)
    replace hw := hw y11 ey11
    refine lv_istore (lv' := [(4, .int y11), (0, .ref (E.2.1 96)), (1, .int a1), (2, .int a2), (3, .int a3)]) hx hb dX11_ran_44 hl (by decide) rfl (fun ls hl => ?_)
    refine lv_iconst (v := 0) hx hb dX11_ran_46 (by decide) ?_
    refine lv_topi (fun y12 ey12 => ?_)
    replace hw := hw y12 ey12
    refine lv_istore (lv' := [(5, .int y12), (4, .int y11), (0, .ref (E.2.1 96)), (1, .int a1), (2, .int a2), (3, .int a3)]) hx hb dX11_ran_47 hl (by decide) rfl (fun ls hl => ?_)
    obtain ⟨n49, hw⟩ := hw
    exact J49 n49 y11 y12 Z10 _ _ _ hG (lv_sub hl [2, 3, 4, 5, 1, 0] rfl) hw
  replace hw := hw.2 (fun h => h c9)
  refine lv_iconst (v := (-1)) hx hb dX11_ran_30 (by decide) ?_
  exact z_iret hF hG hr hlk hw dX11_ran_31
set_option maxHeartbeats 4000000 in
set_option maxRecDepth 100000 in
theorem kX11_admitted (l : Launch) (E : zE) (Z : zS) (a1 : Int32) (a2 : Int32) {K : Int32 → zS → Prop} (hw : wX11_admitted a1 a2 Z K) : zCi l yX11_admitted wsX11_admitted ({ frames := 2, cells := 0, slots := 0, locals := 43 } : Room) E Z [.ref (E.2.1 96), .int a1, .int a2] K := by
  refine z_bodyi (cc := cX11_admitted) (nL := 5) (ret := .int) (by decide) rfl (Nat.le_of_ble_eq_true rfl) ?_
  intro p e R s m args below meth c ls hfr hlo hF hr hlk hG hl
  have hx := hF.1.1
  have hb := hF.1.2.1
  have hown := hF.1.2.2.2.1
  have hts := hF.1.2.2.2.2
  have in3 : ∀ w ∈ u_ws RX3 TX3 5, w ∈ wsX11_admitted := fun _ h => List.mem_cons_of_mem _ (List.mem_append_left _ (List.mem_append_right _ h))
  have in5 : ∀ w ∈ u_ws RX5 TX5 15, w ∈ wsX11_admitted := fun _ h => List.mem_cons_of_mem _ (List.mem_append_right _ h)
  have in11 : ∀ w ∈ u_ws RX11 TX11 11, w ∈ wsX11_admitted := fun _ h => List.mem_cons_of_mem _ (List.mem_append_left _ (List.mem_append_left _ (List.mem_append_right _ h)))
  have hl : lv_has ls 5 [(0, .ref (E.2.1 96)), (1, .int a1), (2, .int a2)] := hl
  have S19 : ∀ (L19 : Int32 → Int32 → zS → Prop), (∀ (x3 : Int32) (x4 : Int32) (Z : zS) (H : Heap) (locs : List Loc) (ls : Array Slot), zG E Z s H locs → lv_has ls 5 [(0, .ref (E.2.1 96)), (3, .int x3), (4, .int x4)] → L19 x3 x4 Z → W p l e R s m args below meth c H locs 0 0 (zQi E K below args s) (F0 m 19 ls [])) → ∀ (x3 : Int32) (x4 : Int32) (Z : zS) (H : Heap) (locs : List Loc) (ls : Array Slot), zG E Z s H locs → lv_has ls 5 [(0, .ref (E.2.1 96)), (3, .int x3), (4, .int x4)] → wX11_admitted_19b L19 a1 a2 x3 x4 Z K → W p l e R s m args below meth c H locs 0 0 (zQi E K below args s) (F0 m 19 ls []) := by
    intro L19 ih19
    intro x3 x4 Z H locs ls hG hl hw
    unfold wX11_admitted_19b at hw
    refine lv_iload hx hb dX11_admitted_19 (lv_at hl 2 rfl) ?_
    refine lv_aload_n hx hb dX11_admitted_21 rfl (lv_at hl 0 rfl) ?_
    refine z_get hF hG 96 (by decide) z_gs rfl in11 1 (by decide) (List.mem_of_getElem? (i := 1) rfl) rfl rfl dX11_admitted_22 ?_
    refine z_get hF hG (54 + 0) (zc_pl (by decide)) (z_pl (by decide)) rfl in3 1 (by decide) (List.mem_of_getElem? (i := 2) rfl) rfl rfl dX11_admitted_25 ?_
    refine lv_icmp_ge (tgt := 53) hx hb dX11_admitted_28 (by decide) (fun c7 => ?_) (fun c7 => ?_)
    · replace hw := hw.1 c7
      refine lv_iload_n hx hb dX11_admitted_53 rfl (lv_at hl 1 rfl) ?_
      refine lv_bipush (v := 60) hx hb dX11_admitted_54 (by decide) ?_
      refine lv_icmp_gt (tgt := 63) hx hb dX11_admitted_56 (by decide) (fun c8 => ?_) (fun c8 => ?_)
      · replace hw := hw.1 c8
        refine lv_iconst (v := 0) hx hb dX11_admitted_63 (by decide) ?_
        exact z_iret hF hG hr hlk hw dX11_admitted_64
      replace hw := hw.2 c8
      refine lv_iconst (v := 1) hx hb dX11_admitted_59 (by decide) ?_
      refine lv_goto (tgt := 64) hx hb dX11_admitted_60 (by decide) ?_
      exact z_iret hF hG hr hlk hw dX11_admitted_64
    replace hw := hw.2 c7
    refine lv_iload_n hx hb dX11_admitted_31 rfl (lv_at hl 1 rfl) ?_
    refine lv_aload_n hx hb dX11_admitted_32 rfl (lv_at hl 0 rfl) ?_
    refine z_get hF hG 96 (by decide) z_gs rfl in11 1 (by decide) (List.mem_of_getElem? (i := 1) rfl) rfl rfl dX11_admitted_33 ?_
    refine z_get hF hG (54 + 0) (zc_pl (by decide)) (z_pl (by decide)) rfl in3 0 (by decide) (List.mem_of_getElem? (i := 3) rfl) rfl rfl dX11_admitted_36 ?_
    refine lv_iload hx hb dX11_admitted_39 (lv_at hl 2 rfl) ?_
    obtain ⟨q9, hw⟩ := hw
    refine z_aald hF hG (57 + 0) 1 (zc_pr (by decide)) (z_pr (by decide)) rfl q9 rfl dX11_admitted_41 ?_
    refine z_get hF hG (6 * 0 + (x4 : Int32).toNatClampNeg) (zc_sv (z_vb (by decide) q9)) (z_sv (z_vb (by decide) q9)) rfl in5 4 (by decide) (List.mem_of_getElem? (i := 4) rfl) rfl rfl dX11_admitted_42 ?_
    refine lv_iadd hx hb dX11_admitted_45 ?_
    refine lv_topi (fun y10 ey10 => ?_)
    replace hw := hw y10 ey10
    refine lv_istore_n (lv' := [(3, .int y10), (0, .ref (E.2.1 96)), (4, .int x4)]) hx hb dX11_admitted_46 rfl hl (by decide) rfl (fun ls hl => ?_)
    obtain ⟨y11, ey11⟩ : ∃ y : Int32, y = x4 + 1 := ⟨_, rfl⟩
    replace hw := hw y11 ey11
    refine lv_iinc (v := y11) (lv' := [(4, .int y11), (3, .int y10), (0, .ref (E.2.1 96))]) hx hb dX11_admitted_47 hl (k := 2) rfl (by rw [ey11]; rfl) (by decide) rfl (fun ls hl => ?_)
    refine lv_goto (tgt := 19) hx hb dX11_admitted_50 (by decide) ?_
    exact ih19 y10 y11 Z _ _ _ hG (lv_sub hl [2, 1, 0] rfl) hw
  have J19 : ∀ n : Nat, ∀ (x3 : Int32) (x4 : Int32) (Z : zS) (H : Heap) (locs : List Loc) (ls : Array Slot), zG E Z s H locs → lv_has ls 5 [(0, .ref (E.2.1 96)), (3, .int x3), (4, .int x4)] → wX11_admitted_19 a1 a2 K n x3 x4 Z → W p l e R s m args below meth c H locs 0 0 (zQi E K below args s) (F0 m 19 ls []) := by
    intro n
    induction n with
    | zero => intro x3 x4 Z H locs ls hG hl hw; exact hw.elim
    | succ n ih => intro x3 x4 Z H locs ls hG hl hw; exact S19 _ ih x3 x4 Z H locs ls hG hl hw
  unfold wX11_admitted at hw
  refine lv_iload_n hx hb dX11_admitted_0 rfl (lv_at hl 1 rfl) ?_
  refine lv_iload_n hx hb dX11_admitted_1 rfl (lv_at hl 2 rfl) ?_
  refine z_ci (va_runS (rest := []) hF.1 (kX11_isBudget l E Z a1 a2  hw _) (va_cwS 2 hts gX11_admitted_X11_isBudget rfl rfl rfl hS_yX11_isBudget ⟨Nat.le_trans (Nat.le_of_ble_eq_true rfl) hfr, Nat.le_trans (Nat.le_of_ble_eq_true rfl) hlo⟩) (z_preS hF hG) rfl rfl hl.1 rfl (lv_room (Nat.le_of_ble_eq_true rfl)) dX11_admitted_2 ⟨Nat.zero_le _, Nat.zero_le _⟩) hG (fun r2 Z1 H locs hw hG => ?_)
  refine lv_if_ne (tgt := 10) hx hb dX11_admitted_5 (by decide) (fun c3 => ?_) (fun c3 => ?_)
  · replace hw := hw.1 c3
    refine lv_iload_n hx hb dX11_admitted_10 rfl (lv_at hl 1 rfl) ?_
    refine lv_iload_n hx hb dX11_admitted_11 rfl (lv_at hl 2 rfl) ?_
    refine z_ci (va_runS (rest := []) hF.1 (kX11_partOf l E Z1 a1 a2  hw _) (va_cwS 2 hts gX11_admitted_X11_partOf rfl rfl rfl hS_yX11_partOf ⟨Nat.le_trans (Nat.le_of_ble_eq_true rfl) hfr, Nat.le_trans (Nat.le_of_ble_eq_true rfl) hlo⟩) (z_preS hF hG) rfl rfl hl.1 rfl (lv_room (Nat.le_of_ble_eq_true rfl)) dX11_admitted_12 ⟨Nat.zero_le _, Nat.zero_le _⟩) hG (fun r5 Z4 H locs hw hG => ?_)
    refine lv_istore_n (lv' := [(3, .int r5), (0, .ref (E.2.1 96)), (1, .int a1), (2, .int a2)]) hx hb dX11_admitted_15 rfl hl (by decide) rfl (fun ls hl => ?_)
    refine lv_iconst (v := 0) hx hb dX11_admitted_16 (by decide) ?_
    refine lv_topi (fun y6 ey6 => ?_)
    replace hw := hw y6 ey6
    refine lv_istore (lv' := [(4, .int y6), (3, .int r5), (0, .ref (E.2.1 96)), (1, .int a1), (2, .int a2)]) hx hb dX11_admitted_17 hl (by decide) rfl (fun ls hl => ?_)
    obtain ⟨n19, hw⟩ := hw
    exact J19 n19 r5 y6 Z4 _ _ _ hG (lv_sub hl [2, 1, 0] rfl) hw
  replace hw := hw.2 (fun h => h c3)
  refine lv_iconst (v := (-1)) hx hb dX11_admitted_8 (by decide) ?_
  exact z_iret hF hG hr hlk hw dX11_admitted_9
theorem hS_yX3_demandIn : yX3_demandIn.cls ≠ "java/lang/invoke/MethodHandle" ∧ yX3_demandIn.cls ≠ "java/lang/invoke/VarHandle" ∧ (parseMethodDescriptor yX3_demandIn.desc).map (fun d => d.parameters.length) = some 1 := by decide +kernel
set_option maxHeartbeats 4000000 in
set_option maxRecDepth 100000 in
theorem kX11_demand (l : Launch) (E : zE) (Z : zS) (a1 : Int32) (a2 : Int32) {K : Int32 → zS → Prop} (hw : wX11_demand a1 a2 Z K) : zCi l yX11_demand wsX11_demand ({ frames := 1, cells := 0, slots := 0, locals := 24 } : Room) E Z [.ref (E.2.1 96), .int a1, .int a2] K := by
  refine z_bodyi (cc := cX11_demand) (nL := 4) (ret := .int) (by decide) rfl (Nat.le_of_ble_eq_true rfl) ?_
  intro p e R s m args below meth c ls hfr hlo hF hr hlk hG hl
  have hx := hF.1.1
  have hb := hF.1.2.1
  have hown := hF.1.2.2.2.1
  have hts := hF.1.2.2.2.2
  have in11 : ∀ w ∈ u_ws RX11 TX11 11, w ∈ wsX11_demand := fun _ h => List.mem_cons_of_mem _ (List.mem_append_left _ (List.mem_append_left _ (List.mem_append_right _ h)))
  have hl : lv_has ls 4 [(0, .ref (E.2.1 96)), (1, .int a1), (2, .int a2)] := hl
  have S36 : ∀ (L36 : Int32 → zS → Prop), (∀ (x3 : Int32) (Z : zS) (H : Heap) (locs : List Loc) (ls : Array Slot), zG E Z s H locs → lv_has ls 4 [(0, .ref (E.2.1 96)), (1, .int a1), (3, .int x3)] → L36 x3 Z → W p l e R s m args below meth c H locs 0 0 (zQi E K below args s) (F0 m 36 ls [])) → ∀ (x3 : Int32) (Z : zS) (H : Heap) (locs : List Loc) (ls : Array Slot), zG E Z s H locs → lv_has ls 4 [(0, .ref (E.2.1 96)), (1, .int a1), (3, .int x3)] → wX11_demand_36b L36 a1 a2 x3 Z K → W p l e R s m args below meth c H locs 0 0 (zQi E K below args s) (F0 m 36 ls []) := by
    intro L36 ih36
    intro x3 Z H locs ls hG hl hw
    unfold wX11_demand_36b at hw
    refine lv_iload_n hx hb dX11_demand_36 rfl (lv_at hl 2 rfl) ?_
    refine lv_iload_n hx hb dX11_demand_37 rfl (lv_at hl 1 rfl) ?_
    refine lv_icmp_gt (tgt := 61) hx hb dX11_demand_38 (by decide) (fun c11 => ?_) (fun c11 => ?_)
    · replace hw := hw.1 c11
      refine lv_iconst (v := 1) hx hb dX11_demand_61 (by decide) ?_
      exact z_iret hF hG hr hlk hw dX11_demand_62
    replace hw := hw.2 c11
    refine lv_aload_n hx hb dX11_demand_41 rfl (lv_at hl 0 rfl) ?_
    refine z_get hF hG 96 (by decide) z_gs rfl in11 1 (by decide) (List.mem_of_getElem? (i := 1) rfl) rfl rfl dX11_demand_42 ?_
    refine lv_iload_n hx hb dX11_demand_45 rfl (lv_at hl 2 rfl) ?_
    refine z_ci (va_runV (rest := []) hF.1 (kX3_demandIn l E Z 0 x3 (by decide) hw _) (cwV 1 hts gX11_demand_X3_demandIn rfl rfl rfl ⟨rfl, hS_yX3_demandIn⟩ ⟨Nat.le_trans (Nat.le_of_ble_eq_true rfl) hfr, Nat.le_trans (Nat.le_of_ble_eq_true rfl) hlo⟩) (z_preV hF hG (54 + 0) (zc_pl (by decide)) (z_pl (by decide)) rfl) rfl rfl hl.1 rfl (lv_room (Nat.le_of_ble_eq_true rfl)) dX11_demand_46 ⟨Nat.zero_le _, Nat.zero_le _⟩) hG (fun r13 Z12 H locs hw hG => ?_)
    refine lv_iload_n hx hb dX11_demand_49 rfl (lv_at hl 2 rfl) ?_
    refine lv_icmp_le (tgt := 55) hx hb dX11_demand_50 (by decide) (fun c14 => ?_) (fun c14 => ?_)
    · replace hw := hw.1 c14
      obtain ⟨y15, ey15⟩ : ∃ y : Int32, y = x3 + 1 := ⟨_, rfl⟩
      replace hw := hw y15 ey15
      refine lv_iinc (v := y15) (lv' := [(3, .int y15), (0, .ref (E.2.1 96)), (1, .int a1)]) hx hb dX11_demand_55 hl (k := 2) rfl (by rw [ey15]; rfl) (by decide) rfl (fun ls hl => ?_)
      refine lv_goto (tgt := 36) hx hb dX11_demand_58 (by decide) ?_
      exact ih36 y15 Z12 _ _ _ hG (lv_sub hl [1, 2, 0] rfl) hw
    replace hw := hw.2 c14
    refine lv_iconst (v := 0) hx hb dX11_demand_53 (by decide) ?_
    exact z_iret hF hG hr hlk hw dX11_demand_54
  have J36 : ∀ n : Nat, ∀ (x3 : Int32) (Z : zS) (H : Heap) (locs : List Loc) (ls : Array Slot), zG E Z s H locs → lv_has ls 4 [(0, .ref (E.2.1 96)), (1, .int a1), (3, .int x3)] → wX11_demand_36 a1 a2 K n x3 Z → W p l e R s m args below meth c H locs 0 0 (zQi E K below args s) (F0 m 36 ls []) := by
    intro n
    induction n with
    | zero => intro x3 Z H locs ls hG hl hw; exact hw.elim
    | succ n ih => intro x3 Z H locs ls hG hl hw; exact S36 _ ih x3 Z H locs ls hG hl hw
  unfold wX11_demand at hw
  refine lv_iload_n hx hb dX11_demand_0 rfl (lv_at hl 1 rfl) ?_
  refine lv_iconst (v := 1) hx hb dX11_demand_1 (by decide) ?_
  refine lv_bipush (v := 99) hx hb dX11_demand_2 (by decide) ?_
  refine z_ci (va_runS (rest := []) hF.1 (kX11_within l E Z a1 1 99  hw _) (va_cwS 3 hts gX11_demand_X11_within rfl rfl rfl hS_yX11_within ⟨Nat.le_trans (Nat.le_of_ble_eq_true rfl) hfr, Nat.le_trans (Nat.le_of_ble_eq_true rfl) hlo⟩) (z_preS hF hG) rfl rfl hl.1 rfl (lv_room (Nat.le_of_ble_eq_true rfl)) dX11_demand_4 ⟨Nat.zero_le _, Nat.zero_le _⟩) hG (fun r2 Z1 H locs hw hG => ?_)
  refine lv_if_eq (tgt := 19) hx hb dX11_demand_7 (by decide) (fun c3 => ?_) (fun c3 => ?_)
  · replace hw := hw.1 c3
    refine lv_iconst (v := (-1)) hx hb dX11_demand_19 (by decide) ?_
    exact z_iret hF hG hr hlk hw dX11_demand_20
  replace hw := hw.2 c3
  refine lv_iload_n hx hb dX11_demand_10 rfl (lv_at hl 2 rfl) ?_
  refine lv_iconst (v := 0) hx hb dX11_demand_11 (by decide) ?_
  refine lv_iconst (v := 1) hx hb dX11_demand_12 (by decide) ?_
  refine z_ci (va_runS (rest := []) hF.1 (kX11_within l E Z1 a2 0 1  hw _) (va_cwS 3 hts gX11_demand_X11_within rfl rfl rfl hS_yX11_within ⟨Nat.le_trans (Nat.le_of_ble_eq_true rfl) hfr, Nat.le_trans (Nat.le_of_ble_eq_true rfl) hlo⟩) (z_preS hF hG) rfl rfl hl.1 rfl (lv_room (Nat.le_of_ble_eq_true rfl)) dX11_demand_13 ⟨Nat.zero_le _, Nat.zero_le _⟩) hG (fun r5 Z4 H locs hw hG => ?_)
  refine lv_if_ne (tgt := 21) hx hb dX11_demand_16 (by decide) (fun c6 => ?_) (fun c6 => ?_)
  · replace hw := hw.1 c6
    refine lv_iload_n hx hb dX11_demand_21 rfl (lv_at hl 2 rfl) ?_
    refine lv_if_ne (tgt := 34) hx hb dX11_demand_22 (by decide) (fun c7 => ?_) (fun c7 => ?_)
    · replace hw := hw.1 c7
      refine lv_iconst (v := 1) hx hb dX11_demand_34 (by decide) ?_
      refine lv_topi (fun y8 ey8 => ?_)
      replace hw := hw y8 ey8
      refine lv_istore_n (lv' := [(3, .int y8), (0, .ref (E.2.1 96)), (1, .int a1), (2, .int a2)]) hx hb dX11_demand_35 rfl hl (by decide) rfl (fun ls hl => ?_)
      obtain ⟨n36, hw⟩ := hw
      exact J36 n36 y8 Z4 _ _ _ hG (lv_sub hl [1, 2, 0] rfl) hw
    replace hw := hw.2 (fun h => h c7)
    refine lv_aload_n hx hb dX11_demand_25 rfl (lv_at hl 0 rfl) ?_
    refine z_get hF hG 96 (by decide) z_gs rfl in11 1 (by decide) (List.mem_of_getElem? (i := 1) rfl) rfl rfl dX11_demand_26 ?_
    refine lv_iload_n hx hb dX11_demand_29 rfl (lv_at hl 1 rfl) ?_
    refine z_ci (va_runV (rest := []) hF.1 (kX3_demandIn l E Z4 0 a1 (by decide) hw _) (cwV 1 hts gX11_demand_X3_demandIn rfl rfl rfl ⟨rfl, hS_yX3_demandIn⟩ ⟨Nat.le_trans (Nat.le_of_ble_eq_true rfl) hfr, Nat.le_trans (Nat.le_of_ble_eq_true rfl) hlo⟩) (z_preV hF hG (54 + 0) (zc_pl (by decide)) (z_pl (by decide)) rfl) rfl rfl hl.1 rfl (lv_room (Nat.le_of_ble_eq_true rfl)) dX11_demand_30 ⟨Nat.zero_le _, Nat.zero_le _⟩) hG (fun r10 Z9 H locs hw hG => ?_)
    exact z_iret hF hG hr hlk hw dX11_demand_33
  replace hw := hw.2 (fun h => h c6)
  refine lv_iconst (v := (-1)) hx hb dX11_demand_19 (by decide) ?_
  exact z_iret hF hG hr hlk hw dX11_demand_20
set_option maxHeartbeats 4000000 in
set_option maxRecDepth 100000 in
theorem kX11_needs (l : Launch) (E : zE) (Z : zS) (a1 : Int32) (a2 : Int32) {K : Int32 → zS → Prop} (hw : wX11_needs a1 a2 Z K) : zCi l yX11_needs wsX11_needs ({ frames := 6, cells := 0, slots := 0, locals := 123 } : Room) E Z [.ref (E.2.1 96), .int a1, .int a2] K := by
  refine z_bodyi (cc := cX11_needs) (nL := 5) (ret := .int) (by decide) rfl (Nat.le_of_ble_eq_true rfl) ?_
  intro p e R s m args below meth c ls hfr hlo hF hr hlk hG hl
  have hx := hF.1.1
  have hb := hF.1.2.1
  have hown := hF.1.2.2.2.1
  have hts := hF.1.2.2.2.2
  have in3 : ∀ w ∈ u_ws RX3 TX3 5, w ∈ wsX11_needs := fun _ h => List.mem_cons_of_mem _ (List.mem_append_left _ (List.mem_append_right _ h))
  have in5 : ∀ w ∈ u_ws RX5 TX5 15, w ∈ wsX11_needs := fun _ h => List.mem_cons_of_mem _ (List.mem_append_right _ h)
  have in11 : ∀ w ∈ u_ws RX11 TX11 11, w ∈ wsX11_needs := fun _ h => List.mem_cons_of_mem _ (List.mem_append_left _ (List.mem_append_left _ (List.mem_append_right _ h)))
  have hl : lv_has ls 5 [(0, .ref (E.2.1 96)), (1, .int a1), (2, .int a2)] := hl
  have S39 : ∀ (L39 : Int32 → Int32 → zS → Prop), (∀ (x3 : Int32) (x4 : Int32) (Z : zS) (H : Heap) (locs : List Loc) (ls : Array Slot), zG E Z s H locs → lv_has ls 5 [(0, .ref (E.2.1 96)), (1, .int a1), (2, .int a2), (3, .int x3), (4, .int x4)] → L39 x3 x4 Z → W p l e R s m args below meth c H locs 0 0 (zQi E K below args s) (F0 m 39 ls [])) → ∀ (x3 : Int32) (x4 : Int32) (Z : zS) (H : Heap) (locs : List Loc) (ls : Array Slot), zG E Z s H locs → lv_has ls 5 [(0, .ref (E.2.1 96)), (1, .int a1), (2, .int a2), (3, .int x3), (4, .int x4)] → wX11_needs_39b L39 a1 a2 x3 x4 Z K → W p l e R s m args below meth c H locs 0 0 (zQi E K below args s) (F0 m 39 ls []) := by
    intro L39 ih39
    intro x3 x4 Z H locs ls hG hl hw
    unfold wX11_needs_39b at hw
    refine lv_iload hx hb dX11_needs_39 (lv_at hl 4 rfl) ?_
    refine lv_bipush (v := 30) hx hb dX11_needs_41 (by decide) ?_
    refine lv_icmp_gt (tgt := 98) hx hb dX11_needs_43 (by decide) (fun c10 => ?_) (fun c10 => ?_)
    · replace hw := hw.1 c10
      refine lv_bipush (v := (-4)) hx hb dX11_needs_98 (by decide) ?_
      exact z_iret hF hG hr hlk hw dX11_needs_100
    replace hw := hw.2 c10
    refine lv_iload hx hb dX11_needs_46 (lv_at hl 4 rfl) ?_
    refine lv_iload_n hx hb dX11_needs_48 rfl (lv_at hl 3 rfl) ?_
    refine lv_icmp_gt (tgt := 98) hx hb dX11_needs_49 (by decide) (fun c11 => ?_) (fun c11 => ?_)
    · replace hw := hw.1 c11
      refine lv_bipush (v := (-4)) hx hb dX11_needs_98 (by decide) ?_
      exact z_iret hF hG hr hlk hw dX11_needs_100
    replace hw := hw.2 c11
    refine lv_aload_n hx hb dX11_needs_52 rfl (lv_at hl 0 rfl) ?_
    refine z_get hF hG 96 (by decide) z_gs rfl in11 2 (by decide) (List.mem_of_getElem? (i := 4) rfl) rfl rfl dX11_needs_53 ?_
    refine lv_aload_n hx hb dX11_needs_56 rfl (lv_at hl 0 rfl) ?_
    refine z_get hF hG 96 (by decide) z_gs rfl in11 1 (by decide) (List.mem_of_getElem? (i := 1) rfl) rfl rfl dX11_needs_57 ?_
    refine z_cv (va_runV (rest := []) hF.1 (kX3_becomes l E Z 1 0 (by decide) (by decide) hw _) (cwV 1 hts gX11_needs_X3_becomes rfl rfl rfl ⟨rfl, hS_yX3_becomes⟩ ⟨Nat.le_trans (Nat.le_of_ble_eq_true rfl) hfr, Nat.le_trans (Nat.le_of_ble_eq_true rfl) hlo⟩) (z_preV hF hG (54 + 1) (zc_pl (by decide)) (z_pl (by decide)) rfl) rfl rfl hl.1 rfl (lv_room (Nat.le_of_ble_eq_true rfl)) dX11_needs_60 ⟨Nat.zero_le _, Nat.zero_le _⟩) hG (fun Z12 H locs hw hG => ?_)
    refine lv_aload_n hx hb dX11_needs_63 rfl (lv_at hl 0 rfl) ?_
    refine z_get hF hG 96 (by decide) z_gs rfl in11 2 (by decide) (List.mem_of_getElem? (i := 4) rfl) rfl rfl dX11_needs_64 ?_
    refine z_get hF hG (54 + 1) (zc_pl (by decide)) (z_pl (by decide)) rfl in3 0 (by decide) (List.mem_of_getElem? (i := 2) rfl) rfl rfl dX11_needs_67 ?_
    refine lv_iload_n hx hb dX11_needs_70 rfl (lv_at hl 1 rfl) ?_
    obtain ⟨q13, hw⟩ := hw
    refine z_aald hF hG (57 + 1) 1 (zc_pr (by decide)) (z_pr (by decide)) rfl q13 rfl dX11_needs_71 ?_
    refine lv_iload hx hb dX11_needs_72 (lv_at hl 4 rfl) ?_
    refine lv_iload_n hx hb dX11_needs_74 rfl (lv_at hl 3 rfl) ?_
    refine z_cv (va_runV (rest := []) hF.1 (kX5_setBudget l E Z12 ((6 * 1 + (a1 : Int32).toNatClampNeg)) x4 x3 (z_vb (by decide) q13) hw _) (cwV 2 hts gX11_needs_X5_setBudget rfl rfl rfl ⟨rfl, hS_yX5_setBudget⟩ ⟨Nat.le_trans (Nat.le_of_ble_eq_true rfl) hfr, Nat.le_trans (Nat.le_of_ble_eq_true rfl) hlo⟩) (z_preV hF hG (6 * 1 + (a1 : Int32).toNatClampNeg) (zc_sv (z_vb (by decide) q13)) (z_sv (z_vb (by decide) q13)) rfl) rfl rfl hl.1 rfl (lv_room (Nat.le_of_ble_eq_true rfl)) dX11_needs_75 ⟨Nat.zero_le _, Nat.zero_le _⟩) hG (fun Z14 H locs hw hG => ?_)
    refine lv_aload_n hx hb dX11_needs_78 rfl (lv_at hl 0 rfl) ?_
    refine lv_iload_n hx hb dX11_needs_79 rfl (lv_at hl 1 rfl) ?_
    refine lv_iload_n hx hb dX11_needs_80 rfl (lv_at hl 2 rfl) ?_
    refine z_ci (va_runV (rest := []) hF.1 (kX11_ticksTillLate l E Z14 a1 a2  hw _) (cwV 2 hts gX11_needs_X11_ticksTillLate rfl rfl rfl ⟨rfl, hS_yX11_ticksTillLate⟩ ⟨Nat.le_trans (Nat.le_of_ble_eq_true rfl) hfr, Nat.le_trans (Nat.le_of_ble_eq_true rfl) hlo⟩) (z_preV hF hG 96 (by decide) z_gs rfl) rfl rfl hl.1 rfl (lv_room (Nat.le_of_ble_eq_true rfl)) dX11_needs_81 ⟨Nat.zero_le _, Nat.zero_le _⟩) hG (fun r16 Z15 H locs hw hG => ?_)
    refine lv_bipush (v := (-4)) hx hb dX11_needs_84 (by decide) ?_
    refine lv_icmp_ne (tgt := 92) hx hb dX11_needs_86 (by decide) (fun c17 => ?_) (fun c17 => ?_)
    · replace hw := hw.1 c17
      obtain ⟨y18, ey18⟩ : ∃ y : Int32, y = x4 + 1 := ⟨_, rfl⟩
      replace hw := hw y18 ey18
      refine lv_iinc (v := y18) (lv' := [(4, .int y18), (0, .ref (E.2.1 96)), (1, .int a1), (2, .int a2), (3, .int x3)]) hx hb dX11_needs_92 hl (k := 4) rfl (by rw [ey18]; rfl) (by decide) rfl (fun ls hl => ?_)
      refine lv_goto (tgt := 39) hx hb dX11_needs_95 (by decide) ?_
      exact ih39 x3 y18 Z15 _ _ _ hG (lv_sub hl [1, 2, 3, 4, 0] rfl) hw
    replace hw := hw.2 (fun h => h c17)
    refine lv_iload hx hb dX11_needs_89 (lv_at hl 4 rfl) ?_
    exact z_iret hF hG hr hlk hw dX11_needs_91
  have J39 : ∀ n : Nat, ∀ (x3 : Int32) (x4 : Int32) (Z : zS) (H : Heap) (locs : List Loc) (ls : Array Slot), zG E Z s H locs → lv_has ls 5 [(0, .ref (E.2.1 96)), (1, .int a1), (2, .int a2), (3, .int x3), (4, .int x4)] → wX11_needs_39 a1 a2 K n x3 x4 Z → W p l e R s m args below meth c H locs 0 0 (zQi E K below args s) (F0 m 39 ls []) := by
    intro n
    induction n with
    | zero => intro x3 x4 Z H locs ls hG hl hw; exact hw.elim
    | succ n ih => intro x3 x4 Z H locs ls hG hl hw; exact S39 _ ih x3 x4 Z H locs ls hG hl hw
  unfold wX11_needs at hw
  refine lv_aload_n hx hb dX11_needs_0 rfl (lv_at hl 0 rfl) ?_
  refine z_get hF hG 96 (by decide) z_gs rfl in11 1 (by decide) (List.mem_of_getElem? (i := 1) rfl) rfl rfl dX11_needs_1 ?_
  refine lv_iload_n hx hb dX11_needs_4 rfl (lv_at hl 1 rfl) ?_
  refine z_ci (va_runV (rest := []) hF.1 (kX3_has l E Z 0 a1 (by decide) hw _) (cwV 1 hts gX11_needs_X3_has rfl rfl rfl ⟨rfl, hS_yX3_has⟩ ⟨Nat.le_trans (Nat.le_of_ble_eq_true rfl) hfr, Nat.le_trans (Nat.le_of_ble_eq_true rfl) hlo⟩) (z_preV hF hG (54 + 0) (zc_pl (by decide)) (z_pl (by decide)) rfl) rfl rfl hl.1 rfl (lv_room (Nat.le_of_ble_eq_true rfl)) dX11_needs_5 ⟨Nat.zero_le _, Nat.zero_le _⟩) hG (fun r2 Z1 H locs hw hG => ?_)
  refine lv_if_eq (tgt := 21) hx hb dX11_needs_8 (by decide) (fun c3 => ?_) (fun c3 => ?_)
  · replace hw := hw.1 c3
    refine lv_iconst (v := (-1)) hx hb dX11_needs_21 (by decide) ?_
    exact z_iret hF hG hr hlk hw dX11_needs_22
  replace hw := hw.2 c3
  refine lv_iload_n hx hb dX11_needs_11 rfl (lv_at hl 2 rfl) ?_
  refine lv_iconst (v := 0) hx hb dX11_needs_12 (by decide) ?_
  refine lv_bipush (v := 60) hx hb dX11_needs_13 (by decide) ?_
  refine z_ci (va_runS (rest := []) hF.1 (kX11_within l E Z1 a2 0 60  hw _) (va_cwS 3 hts gX11_needs_X11_within rfl rfl rfl hS_yX11_within ⟨Nat.le_trans (Nat.le_of_ble_eq_true rfl) hfr, Nat.le_trans (Nat.le_of_ble_eq_true rfl) hlo⟩) (z_preS hF hG) rfl rfl hl.1 rfl (lv_room (Nat.le_of_ble_eq_true rfl)) dX11_needs_15 ⟨Nat.zero_le _, Nat.zero_le _⟩) hG (fun r5 Z4 H locs hw hG => ?_)
  refine lv_if_ne (tgt := 23) hx hb dX11_needs_18 (by decide) (fun c6 => ?_) (fun c6 => ?_)
  · replace hw := hw.1 c6
    refine lv_aload_n hx hb dX11_needs_23 rfl (lv_at hl 0 rfl) ?_
    refine z_get hF hG 96 (by decide) z_gs rfl in11 1 (by decide) (List.mem_of_getElem? (i := 1) rfl) rfl rfl dX11_needs_24 ?_
    refine z_get hF hG (54 + 0) (zc_pl (by decide)) (z_pl (by decide)) rfl in3 0 (by decide) (List.mem_of_getElem? (i := 2) rfl) rfl rfl dX11_needs_27 ?_
    refine lv_iload_n hx hb dX11_needs_30 rfl (lv_at hl 1 rfl) ?_
    obtain ⟨q7, hw⟩ := hw
    refine z_aald hF hG (57 + 0) 1 (zc_pr (by decide)) (z_pr (by decide)) rfl q7 rfl dX11_needs_31 ?_
    refine z_get hF hG (6 * 0 + (a1 : Int32).toNatClampNeg) (zc_sv (z_vb (by decide) q7)) (z_sv (z_vb (by decide) q7)) rfl in5 3 (by decide) (List.mem_of_getElem? (i := 3) rfl) rfl rfl dX11_needs_32 ?_
    refine lv_topi (fun y8 ey8 => ?_)
    replace hw := hw y8 ey8
    refine lv_istore_n (lv' := [(3, .int y8), (0, .ref (E.2.1 96)), (1, .int a1), (2, .int a2)]) hx hb dX11_needs_35 rfl hl (by decide) rfl (fun ls hl => ?_)
    refine lv_iconst (v := 1) hx hb dX11_needs_36 (by decide) ?_
    refine lv_topi (fun y9 ey9 => ?_)
    replace hw := hw y9 ey9
    refine lv_istore (lv' := [(4, .int y9), (3, .int y8), (0, .ref (E.2.1 96)), (1, .int a1), (2, .int a2)]) hx hb dX11_needs_37 hl (by decide) rfl (fun ls hl => ?_)
    obtain ⟨n39, hw⟩ := hw
    exact J39 n39 y8 y9 Z4 _ _ _ hG (lv_sub hl [2, 3, 4, 1, 0] rfl) hw
  replace hw := hw.2 (fun h => h c6)
  refine lv_iconst (v := (-1)) hx hb dX11_needs_21 (by decide) ?_
  exact z_iret hF hG hr hlk hw dX11_needs_22
set_option maxHeartbeats 4000000 in
set_option maxRecDepth 100000 in
theorem kX11_alone (l : Launch) (E : zE) (Z : zS) (a1 : Int32) (a2 : Int32) {K : Int32 → zS → Prop} (hw : wX11_alone a1 a2 Z K) : zCi l yX11_alone wsX11_alone ({ frames := 6, cells := 0, slots := 0, locals := 122 } : Room) E Z [.ref (E.2.1 96), .int a1, .int a2] K := by
  refine z_bodyi (cc := cX11_alone) (nL := 4) (ret := .int) (by decide) rfl (Nat.le_of_ble_eq_true rfl) ?_
  intro p e R s m args below meth c ls hfr hlo hF hr hlk hG hl
  have hx := hF.1.1
  have hb := hF.1.2.1
  have hown := hF.1.2.2.2.1
  have hts := hF.1.2.2.2.2
  have in3 : ∀ w ∈ u_ws RX3 TX3 5, w ∈ wsX11_alone := fun _ h => List.mem_cons_of_mem _ (List.mem_append_left _ (List.mem_append_right _ h))
  have in11 : ∀ w ∈ u_ws RX11 TX11 11, w ∈ wsX11_alone := fun _ h => List.mem_cons_of_mem _ (List.mem_append_left _ (List.mem_append_left _ (List.mem_append_right _ h)))
  have hl : lv_has ls 4 [(0, .ref (E.2.1 96)), (1, .int a1), (2, .int a2)] := hl
  have S36 : ∀ (L36 : Int32 → zS → Prop), (∀ (x3 : Int32) (Z : zS) (H : Heap) (locs : List Loc) (ls : Array Slot), zG E Z s H locs → lv_has ls 4 [(0, .ref (E.2.1 96)), (1, .int a1), (2, .int a2), (3, .int x3)] → L36 x3 Z → W p l e R s m args below meth c H locs 0 0 (zQi E K below args s) (F0 m 36 ls [])) → ∀ (x3 : Int32) (Z : zS) (H : Heap) (locs : List Loc) (ls : Array Slot), zG E Z s H locs → lv_has ls 4 [(0, .ref (E.2.1 96)), (1, .int a1), (2, .int a2), (3, .int x3)] → wX11_alone_36b L36 a1 a2 x3 Z K → W p l e R s m args below meth c H locs 0 0 (zQi E K below args s) (F0 m 36 ls []) := by
    intro L36 ih36
    have J64 : ∀ (x3 : Int32) (Z : zS) (H : Heap) (locs : List Loc) (ls : Array Slot), zG E Z s H locs → lv_has ls 4 [(0, .ref (E.2.1 96)), (1, .int a1), (2, .int a2), (3, .int x3)] → wX11_alone_64 L36 a1 a2 x3 Z K → W p l e R s m args below meth c H locs 0 0 (zQi E K below args s) (F0 m 64 ls []) := by
      intro x3 Z H locs ls hG hl hw
      unfold wX11_alone_64 at hw
      obtain ⟨y16, ey16⟩ : ∃ y : Int32, y = x3 + 1 := ⟨_, rfl⟩
      replace hw := hw y16 ey16
      refine lv_iinc (v := y16) (lv' := [(3, .int y16), (0, .ref (E.2.1 96)), (1, .int a1), (2, .int a2)]) hx hb dX11_alone_64 hl (k := 3) rfl (by rw [ey16]; rfl) (by decide) rfl (fun ls hl => ?_)
      refine lv_goto (tgt := 36) hx hb dX11_alone_67 (by decide) ?_
      exact ih36 y16 Z _ _ _ hG (lv_sub hl [1, 2, 3, 0] rfl) hw
    intro x3 Z H locs ls hG hl hw
    unfold wX11_alone_36b at hw
    refine lv_iload_n hx hb dX11_alone_36 rfl (lv_at hl 3 rfl) ?_
    refine lv_aload_n hx hb dX11_alone_37 rfl (lv_at hl 0 rfl) ?_
    refine z_get hF hG 96 (by decide) z_gs rfl in11 2 (by decide) (List.mem_of_getElem? (i := 2) rfl) rfl rfl dX11_alone_38 ?_
    refine z_get hF hG (54 + 1) (zc_pl (by decide)) (z_pl (by decide)) rfl in3 1 (by decide) (List.mem_of_getElem? (i := 3) rfl) rfl rfl dX11_alone_41 ?_
    refine lv_icmp_ge (tgt := 70) hx hb dX11_alone_44 (by decide) (fun c9 => ?_) (fun c9 => ?_)
    · replace hw := hw.1 c9
      refine lv_aload_n hx hb dX11_alone_70 rfl (lv_at hl 0 rfl) ?_
      refine z_get hF hG 96 (by decide) z_gs rfl in11 2 (by decide) (List.mem_of_getElem? (i := 2) rfl) rfl rfl dX11_alone_71 ?_
      refine lv_iload_n hx hb dX11_alone_74 rfl (lv_at hl 2 rfl) ?_
      refine z_cv (va_runV (rest := []) hF.1 (kX3_goOnFor l E Z 1 a2 (by decide) hw _) (cwV 1 hts gX11_alone_X3_goOnFor rfl rfl rfl ⟨rfl, hS_yX3_goOnFor⟩ ⟨Nat.le_trans (Nat.le_of_ble_eq_true rfl) hfr, Nat.le_trans (Nat.le_of_ble_eq_true rfl) hlo⟩) (z_preV hF hG (54 + 1) (zc_pl (by decide)) (z_pl (by decide)) rfl) rfl rfl hl.1 rfl (lv_room (Nat.le_of_ble_eq_true rfl)) dX11_alone_75 ⟨Nat.zero_le _, Nat.zero_le _⟩) hG (fun Z10 H locs hw hG => ?_)
      refine lv_aload_n hx hb dX11_alone_78 rfl (lv_at hl 0 rfl) ?_
      refine lv_iload_n hx hb dX11_alone_79 rfl (lv_at hl 1 rfl) ?_
      refine z_ci (va_runV (rest := []) hF.1 (kX11_lateMore l E Z10 a1  hw _) (cwV 1 hts gX11_alone_X11_lateMore rfl rfl rfl ⟨rfl, hS_yX11_lateMore⟩ ⟨Nat.le_trans (Nat.le_of_ble_eq_true rfl) hfr, Nat.le_trans (Nat.le_of_ble_eq_true rfl) hlo⟩) (z_preV hF hG 96 (by decide) z_gs rfl) rfl rfl hl.1 rfl (lv_room (Nat.le_of_ble_eq_true rfl)) dX11_alone_80 ⟨Nat.zero_le _, Nat.zero_le _⟩) hG (fun r12 Z11 H locs hw hG => ?_)
      exact z_iret hF hG hr hlk hw dX11_alone_83
    replace hw := hw.2 c9
    refine lv_iload_n hx hb dX11_alone_47 rfl (lv_at hl 3 rfl) ?_
    refine lv_iload_n hx hb dX11_alone_48 rfl (lv_at hl 1 rfl) ?_
    refine lv_icmp_eq (tgt := 64) hx hb dX11_alone_49 (by decide) (fun c13 => ?_) (fun c13 => ?_)
    · replace hw := hw.1 c13
      exact J64 x3 Z _ _ _ hG (lv_sub hl [0, 1, 2, 3] rfl) hw
    replace hw := hw.2 c13
    refine lv_aload_n hx hb dX11_alone_52 rfl (lv_at hl 0 rfl) ?_
    refine z_get hF hG 96 (by decide) z_gs rfl in11 2 (by decide) (List.mem_of_getElem? (i := 2) rfl) rfl rfl dX11_alone_53 ?_
    refine z_get hF hG (54 + 1) (zc_pl (by decide)) (z_pl (by decide)) rfl in3 0 (by decide) (List.mem_of_getElem? (i := 4) rfl) rfl rfl dX11_alone_56 ?_
    refine lv_iload_n hx hb dX11_alone_59 rfl (lv_at hl 3 rfl) ?_
    obtain ⟨q14, hw⟩ := hw
    refine z_aald hF hG (57 + 1) 1 (zc_pr (by decide)) (z_pr (by decide)) rfl q14 rfl dX11_alone_60 ?_
    refine z_cv (va_runV (rest := []) hF.1 (kX5_dropJobs l E Z ((6 * 1 + (x3 : Int32).toNatClampNeg)) (z_vb (by decide) q14) hw _) (cwV 0 hts gX11_alone_X5_dropJobs rfl rfl rfl ⟨rfl, hS_yX5_dropJobs⟩ ⟨Nat.le_trans (Nat.le_of_ble_eq_true rfl) hfr, Nat.le_trans (Nat.le_of_ble_eq_true rfl) hlo⟩) (z_preV hF hG (6 * 1 + (x3 : Int32).toNatClampNeg) (zc_sv (z_vb (by decide) q14)) (z_sv (z_vb (by decide) q14)) rfl) rfl rfl hl.1 rfl (lv_room (Nat.le_of_ble_eq_true rfl)) dX11_alone_61 ⟨Nat.zero_le _, Nat.zero_le _⟩) hG (fun Z15 H locs hw hG => ?_)
    exact J64 x3 Z15 _ _ _ hG (lv_sub hl [0, 1, 2, 3] rfl) hw
  have J36 : ∀ n : Nat, ∀ (x3 : Int32) (Z : zS) (H : Heap) (locs : List Loc) (ls : Array Slot), zG E Z s H locs → lv_has ls 4 [(0, .ref (E.2.1 96)), (1, .int a1), (2, .int a2), (3, .int x3)] → wX11_alone_36 a1 a2 K n x3 Z → W p l e R s m args below meth c H locs 0 0 (zQi E K below args s) (F0 m 36 ls []) := by
    intro n
    induction n with
    | zero => intro x3 Z H locs ls hG hl hw; exact hw.elim
    | succ n ih => intro x3 Z H locs ls hG hl hw; exact S36 _ ih x3 Z H locs ls hG hl hw
  unfold wX11_alone at hw
  refine lv_aload_n hx hb dX11_alone_0 rfl (lv_at hl 0 rfl) ?_
  refine z_get hF hG 96 (by decide) z_gs rfl in11 1 (by decide) (List.mem_of_getElem? (i := 1) rfl) rfl rfl dX11_alone_1 ?_
  refine lv_iload_n hx hb dX11_alone_4 rfl (lv_at hl 1 rfl) ?_
  refine z_ci (va_runV (rest := []) hF.1 (kX3_has l E Z 0 a1 (by decide) hw _) (cwV 1 hts gX11_alone_X3_has rfl rfl rfl ⟨rfl, hS_yX3_has⟩ ⟨Nat.le_trans (Nat.le_of_ble_eq_true rfl) hfr, Nat.le_trans (Nat.le_of_ble_eq_true rfl) hlo⟩) (z_preV hF hG (54 + 0) (zc_pl (by decide)) (z_pl (by decide)) rfl) rfl rfl hl.1 rfl (lv_room (Nat.le_of_ble_eq_true rfl)) dX11_alone_5 ⟨Nat.zero_le _, Nat.zero_le _⟩) hG (fun r2 Z1 H locs hw hG => ?_)
  refine lv_if_eq (tgt := 21) hx hb dX11_alone_8 (by decide) (fun c3 => ?_) (fun c3 => ?_)
  · replace hw := hw.1 c3
    refine lv_iconst (v := (-1)) hx hb dX11_alone_21 (by decide) ?_
    exact z_iret hF hG hr hlk hw dX11_alone_22
  replace hw := hw.2 c3
  refine lv_iload_n hx hb dX11_alone_11 rfl (lv_at hl 2 rfl) ?_
  refine lv_iconst (v := 0) hx hb dX11_alone_12 (by decide) ?_
  refine lv_bipush (v := 60) hx hb dX11_alone_13 (by decide) ?_
  refine z_ci (va_runS (rest := []) hF.1 (kX11_within l E Z1 a2 0 60  hw _) (va_cwS 3 hts gX11_alone_X11_within rfl rfl rfl hS_yX11_within ⟨Nat.le_trans (Nat.le_of_ble_eq_true rfl) hfr, Nat.le_trans (Nat.le_of_ble_eq_true rfl) hlo⟩) (z_preS hF hG) rfl rfl hl.1 rfl (lv_room (Nat.le_of_ble_eq_true rfl)) dX11_alone_15 ⟨Nat.zero_le _, Nat.zero_le _⟩) hG (fun r5 Z4 H locs hw hG => ?_)
  refine lv_if_ne (tgt := 23) hx hb dX11_alone_18 (by decide) (fun c6 => ?_) (fun c6 => ?_)
  · replace hw := hw.1 c6
    refine lv_aload_n hx hb dX11_alone_23 rfl (lv_at hl 0 rfl) ?_
    refine z_get hF hG 96 (by decide) z_gs rfl in11 2 (by decide) (List.mem_of_getElem? (i := 2) rfl) rfl rfl dX11_alone_24 ?_
    refine lv_aload_n hx hb dX11_alone_27 rfl (lv_at hl 0 rfl) ?_
    refine z_get hF hG 96 (by decide) z_gs rfl in11 1 (by decide) (List.mem_of_getElem? (i := 1) rfl) rfl rfl dX11_alone_28 ?_
    refine z_cv (va_runV (rest := []) hF.1 (kX3_becomes l E Z4 1 0 (by decide) (by decide) hw _) (cwV 1 hts gX11_alone_X3_becomes rfl rfl rfl ⟨rfl, hS_yX3_becomes⟩ ⟨Nat.le_trans (Nat.le_of_ble_eq_true rfl) hfr, Nat.le_trans (Nat.le_of_ble_eq_true rfl) hlo⟩) (z_preV hF hG (54 + 1) (zc_pl (by decide)) (z_pl (by decide)) rfl) rfl rfl hl.1 rfl (lv_room (Nat.le_of_ble_eq_true rfl)) dX11_alone_31 ⟨Nat.zero_le _, Nat.zero_le _⟩) hG (fun Z7 H locs hw hG => ?_)
    refine lv_iconst (v := 0) hx hb dX11_alone_34 (by decide) ?_
    refine lv_topi (fun y8 ey8 => ?_)
    replace hw := hw y8 ey8
    refine lv_istore_n (lv' := [(3, .int y8), (0, .ref (E.2.1 96)), (1, .int a1), (2, .int a2)]) hx hb dX11_alone_35 rfl hl (by decide) rfl (fun ls hl => ?_)
    obtain ⟨n36, hw⟩ := hw
    exact J36 n36 y8 Z7 _ _ _ hG (lv_sub hl [1, 2, 3, 0] rfl) hw
  replace hw := hw.2 (fun h => h c6)
  refine lv_iconst (v := (-1)) hx hb dX11_alone_21 (by decide) ?_
  exact z_iret hF hG hr hlk hw dX11_alone_22
set_option maxHeartbeats 4000000 in
set_option maxRecDepth 100000 in
theorem kX11_kindBest (l : Launch) (E : zE) (Z : zS) (a1 : Int32) (a2 : Int32) (a3 : Int32) {K : Int32 → zS → Prop} (hw : wX11_kindBest a1 a2 a3 Z K) : zCi l yX11_kindBest wsX11_kindBest ({ frames := 6, cells := 0, slots := 0, locals := 122 } : Room) E Z [.ref (E.2.1 96), .int a1, .int a2, .int a3] K := by
  refine z_bodyi (cc := cX11_kindBest) (nL := 8) (ret := .int) (by decide) rfl (Nat.le_of_ble_eq_true rfl) ?_
  intro p e R s m args below meth c ls hfr hlo hF hr hlk hG hl
  have hx := hF.1.1
  have hb := hF.1.2.1
  have hown := hF.1.2.2.2.1
  have hts := hF.1.2.2.2.2
  have in3 : ∀ w ∈ u_ws RX3 TX3 5, w ∈ wsX11_kindBest := fun _ h => List.mem_cons_of_mem _ (List.mem_append_left _ (List.mem_append_right _ h))
  have in5 : ∀ w ∈ u_ws RX5 TX5 15, w ∈ wsX11_kindBest := fun _ h => List.mem_cons_of_mem _ (List.mem_append_right _ h)
  have in11 : ∀ w ∈ u_ws RX11 TX11 11, w ∈ wsX11_kindBest := fun _ h => List.mem_cons_of_mem _ (List.mem_append_left _ (List.mem_append_left _ (List.mem_append_right _ h)))
  have hl : lv_has ls 8 [(0, .ref (E.2.1 96)), (1, .int a1), (2, .int a2), (3, .int a3)] := hl
  have S42 : ∀ (L42 : Int32 → Int32 → Int32 → zS → Prop), (∀ (x4 : Int32) (x5 : Int32) (x6 : Int32) (Z : zS) (H : Heap) (locs : List Loc) (ls : Array Slot), zG E Z s H locs → lv_has ls 8 [(0, .ref (E.2.1 96)), (1, .int a1), (2, .int a2), (3, .int a3), (4, .int x4), (5, .int x5), (6, .int x6)] → L42 x4 x5 x6 Z → W p l e R s m args below meth c H locs 0 0 (zQi E K below args s) (F0 m 42 ls [])) → ∀ (x4 : Int32) (x5 : Int32) (x6 : Int32) (Z : zS) (H : Heap) (locs : List Loc) (ls : Array Slot), zG E Z s H locs → lv_has ls 8 [(0, .ref (E.2.1 96)), (1, .int a1), (2, .int a2), (3, .int a3), (4, .int x4), (5, .int x5), (6, .int x6)] → wX11_kindBest_42b L42 a1 a2 a3 x4 x5 x6 Z K → W p l e R s m args below meth c H locs 0 0 (zQi E K below args s) (F0 m 42 ls []) := by
    intro L42 ih42
    have J118 : ∀ (x4 : Int32) (x5 : Int32) (x6 : Int32) (Z : zS) (H : Heap) (locs : List Loc) (ls : Array Slot), zG E Z s H locs → lv_has ls 8 [(0, .ref (E.2.1 96)), (1, .int a1), (2, .int a2), (3, .int a3), (4, .int x4), (5, .int x5), (6, .int x6)] → wX11_kindBest_118 L42 a1 a2 a3 x4 x5 x6 Z K → W p l e R s m args below meth c H locs 0 0 (zQi E K below args s) (F0 m 118 ls []) := by
      intro x4 x5 x6 Z H locs ls hG hl hw
      unfold wX11_kindBest_118 at hw
      obtain ⟨y24, ey24⟩ : ∃ y : Int32, y = x6 + 1 := ⟨_, rfl⟩
      replace hw := hw y24 ey24
      refine lv_iinc (v := y24) (lv' := [(6, .int y24), (0, .ref (E.2.1 96)), (1, .int a1), (2, .int a2), (3, .int a3), (4, .int x4), (5, .int x5)]) hx hb dX11_kindBest_118 hl (k := 6) rfl (by rw [ey24]; rfl) (by decide) rfl (fun ls hl => ?_)
      refine lv_goto (tgt := 42) hx hb dX11_kindBest_121 (by decide) ?_
      exact ih42 x4 x5 y24 Z _ _ _ hG (lv_sub hl [1, 2, 3, 4, 5, 6, 0] rfl) hw
    have J110 : ∀ (x6 : Int32) (x7 : Int32) (Z : zS) (H : Heap) (locs : List Loc) (ls : Array Slot), zG E Z s H locs → lv_has ls 8 [(0, .ref (E.2.1 96)), (1, .int a1), (2, .int a2), (3, .int a3), (6, .int x6), (7, .int x7)] → wX11_kindBest_110 L42 a1 a2 a3 x6 x7 Z K → W p l e R s m args below meth c H locs 0 0 (zQi E K below args s) (F0 m 110 ls []) := by
      intro x6 x7 Z H locs ls hG hl hw
      unfold wX11_kindBest_110 at hw
      refine lv_iload hx hb dX11_kindBest_110 (lv_at hl 4 rfl) ?_
      refine lv_istore (lv' := [(4, .int x6), (0, .ref (E.2.1 96)), (1, .int a1), (2, .int a2), (3, .int a3), (6, .int x6), (7, .int x7)]) hx hb dX11_kindBest_112 hl (by decide) rfl (fun ls hl => ?_)
      refine lv_iload hx hb dX11_kindBest_114 (lv_at hl 6 rfl) ?_
      refine lv_istore (lv' := [(5, .int x7), (4, .int x6), (0, .ref (E.2.1 96)), (1, .int a1), (2, .int a2), (3, .int a3), (6, .int x6), (7, .int x7)]) hx hb dX11_kindBest_116 hl (by decide) rfl (fun ls hl => ?_)
      exact J118 x6 x7 x6 Z _ _ _ hG (lv_sub hl [2, 3, 4, 5, 1, 0, 6] rfl) hw
    intro x4 x5 x6 Z H locs ls hG hl hw
    unfold wX11_kindBest_42b at hw
    refine lv_iload hx hb dX11_kindBest_42 (lv_at hl 6 rfl) ?_
    refine lv_bipush (v := 6) hx hb dX11_kindBest_44 (by decide) ?_
    refine lv_icmp_ge (tgt := 124) hx hb dX11_kindBest_46 (by decide) (fun c13 => ?_) (fun c13 => ?_)
    · replace hw := hw.1 c13
      refine lv_iload_n hx hb dX11_kindBest_124 rfl (lv_at hl 3 rfl) ?_
      refine lv_if_ne (tgt := 133) hx hb dX11_kindBest_125 (by decide) (fun c14 => ?_) (fun c14 => ?_)
      · replace hw := hw.1 c14
        refine lv_iload hx hb dX11_kindBest_133 (lv_at hl 5 rfl) ?_
        exact z_iret hF hG hr hlk hw dX11_kindBest_135
      replace hw := hw.2 (fun h => h c14)
      refine lv_iload hx hb dX11_kindBest_128 (lv_at hl 4 rfl) ?_
      refine lv_goto (tgt := 135) hx hb dX11_kindBest_130 (by decide) ?_
      exact z_iret hF hG hr hlk hw dX11_kindBest_135
    replace hw := hw.2 c13
    refine lv_aload_n hx hb dX11_kindBest_49 rfl (lv_at hl 0 rfl) ?_
    refine z_get hF hG 96 (by decide) z_gs rfl in11 2 (by decide) (List.mem_of_getElem? (i := 2) rfl) rfl rfl dX11_kindBest_50 ?_
    refine lv_aload_n hx hb dX11_kindBest_53 rfl (lv_at hl 0 rfl) ?_
    refine z_get hF hG 96 (by decide) z_gs rfl in11 1 (by decide) (List.mem_of_getElem? (i := 1) rfl) rfl rfl dX11_kindBest_54 ?_
    refine z_cv (va_runV (rest := []) hF.1 (kX3_becomes l E Z 1 0 (by decide) (by decide) hw _) (cwV 1 hts gX11_kindBest_X3_becomes rfl rfl rfl ⟨rfl, hS_yX3_becomes⟩ ⟨Nat.le_trans (Nat.le_of_ble_eq_true rfl) hfr, Nat.le_trans (Nat.le_of_ble_eq_true rfl) hlo⟩) (z_preV hF hG (54 + 1) (zc_pl (by decide)) (z_pl (by decide)) rfl) rfl rfl hl.1 rfl (lv_room (Nat.le_of_ble_eq_true rfl)) dX11_kindBest_57 ⟨Nat.zero_le _, Nat.zero_le _⟩) hG (fun Z15 H locs hw hG => ?_)
    refine lv_aload_n hx hb dX11_kindBest_60 rfl (lv_at hl 0 rfl) ?_
    refine z_get hF hG 96 (by decide) z_gs rfl in11 2 (by decide) (List.mem_of_getElem? (i := 2) rfl) rfl rfl dX11_kindBest_61 ?_
    refine z_get hF hG (54 + 1) (zc_pl (by decide)) (z_pl (by decide)) rfl in3 0 (by decide) (List.mem_of_getElem? (i := 3) rfl) rfl rfl dX11_kindBest_64 ?_
    refine lv_iload_n hx hb dX11_kindBest_67 rfl (lv_at hl 1 rfl) ?_
    obtain ⟨q16, hw⟩ := hw
    refine z_aald hF hG (57 + 1) 1 (zc_pr (by decide)) (z_pr (by decide)) rfl q16 rfl dX11_kindBest_68 ?_
    refine lv_aload_n hx hb dX11_kindBest_69 rfl (lv_at hl 0 rfl) ?_
    refine z_get hF hG 96 (by decide) z_gs rfl in11 0 (by decide) (List.mem_of_getElem? (i := 4) rfl) rfl rfl dX11_kindBest_70 ?_
    refine lv_iload hx hb dX11_kindBest_73 (lv_at hl 6 rfl) ?_
    obtain ⟨q17, hw⟩ := hw
    refine z_aald hF hG 90 4 (by decide) z_kinds rfl q17 rfl dX11_kindBest_75 ?_
    refine z_put hF hG (6 * 1 + (a1 : Int32).toNatClampNeg) (zc_sv (z_vb (by decide) q16)) (z_sv (z_vb (by decide) q16)) rfl in5 tyX5_ok nmX5 0 (by decide) (List.mem_of_getElem? (i := 5) rfl) rfl rfl (tyX5_ok 0 (by decide)) rfl rfl (Nat.le_of_ble_eq_true rfl) x6 (z_sv (z_vb (by decide) q16)) dX11_kindBest_76 (fun Z18 H locs eZ18 hG => ?_)
    replace hw := hw Z18 eZ18
    refine lv_aload_n hx hb dX11_kindBest_79 rfl (lv_at hl 0 rfl) ?_
    refine z_get hF hG 96 (by decide) z_gs rfl in11 2 (by decide) (List.mem_of_getElem? (i := 2) rfl) rfl rfl dX11_kindBest_80 ?_
    refine lv_iload_n hx hb dX11_kindBest_83 rfl (lv_at hl 2 rfl) ?_
    refine z_cv (va_runV (rest := []) hF.1 (kX3_goOnFor l E Z18 1 a2 (by decide) hw _) (cwV 1 hts gX11_kindBest_X3_goOnFor rfl rfl rfl ⟨rfl, hS_yX3_goOnFor⟩ ⟨Nat.le_trans (Nat.le_of_ble_eq_true rfl) hfr, Nat.le_trans (Nat.le_of_ble_eq_true rfl) hlo⟩) (z_preV hF hG (54 + 1) (zc_pl (by decide)) (z_pl (by decide)) rfl) rfl rfl hl.1 rfl (lv_room (Nat.le_of_ble_eq_true rfl)) dX11_kindBest_84 ⟨Nat.zero_le _, Nat.zero_le _⟩) hG (fun Z19 H locs hw hG => ?_)
    refine lv_aload_n hx hb dX11_kindBest_87 rfl (lv_at hl 0 rfl) ?_
    refine z_get hF hG 96 (by decide) z_gs rfl in11 2 (by decide) (List.mem_of_getElem? (i := 2) rfl) rfl rfl dX11_kindBest_88 ?_
    refine z_ci (va_runV (rest := []) hF.1 (kX3_lateOfAll l E Z19 1 (by decide) hw _) (cwV 0 hts gX11_kindBest_X3_lateOfAll rfl rfl rfl ⟨rfl, hS_yX3_lateOfAll⟩ ⟨Nat.le_trans (Nat.le_of_ble_eq_true rfl) hfr, Nat.le_trans (Nat.le_of_ble_eq_true rfl) hlo⟩) (z_preV hF hG (54 + 1) (zc_pl (by decide)) (z_pl (by decide)) rfl) rfl rfl hl.1 rfl (lv_room (Nat.le_of_ble_eq_true rfl)) dX11_kindBest_91 ⟨Nat.zero_le _, Nat.zero_le _⟩) hG (fun r21 Z20 H locs hw hG => ?_)
    refine lv_istore (lv' := [(7, .int r21), (0, .ref (E.2.1 96)), (1, .int a1), (2, .int a2), (3, .int a3), (4, .int x4), (5, .int x5), (6, .int x6)]) hx hb dX11_kindBest_94 hl (by decide) rfl (fun ls hl => ?_)
    refine lv_iload hx hb dX11_kindBest_96 (lv_at hl 5 rfl) ?_
    refine lv_bipush (v := (-4)) hx hb dX11_kindBest_98 (by decide) ?_
    refine lv_icmp_eq (tgt := 110) hx hb dX11_kindBest_100 (by decide) (fun c22 => ?_) (fun c22 => ?_)
    · replace hw := hw.1 c22
      exact J110 x6 r21 Z20 _ _ _ hG (lv_sub hl [1, 2, 3, 4, 7, 0] rfl) hw
    replace hw := hw.2 c22
    refine lv_iload hx hb dX11_kindBest_103 (lv_at hl 0 rfl) ?_
    refine lv_iload hx hb dX11_kindBest_105 (lv_at hl 6 rfl) ?_
    refine lv_icmp_ge (tgt := 118) hx hb dX11_kindBest_107 (by decide) (fun c23 => ?_) (fun c23 => ?_)
    · replace hw := hw.1 c23
      exact J118 x4 x5 x6 Z20 _ _ _ hG (lv_sub hl [1, 2, 3, 4, 5, 6, 7] rfl) hw
    replace hw := hw.2 c23
    exact J110 x6 r21 Z20 _ _ _ hG (lv_sub hl [1, 2, 3, 4, 7, 0] rfl) hw
  have J42 : ∀ n : Nat, ∀ (x4 : Int32) (x5 : Int32) (x6 : Int32) (Z : zS) (H : Heap) (locs : List Loc) (ls : Array Slot), zG E Z s H locs → lv_has ls 8 [(0, .ref (E.2.1 96)), (1, .int a1), (2, .int a2), (3, .int a3), (4, .int x4), (5, .int x5), (6, .int x6)] → wX11_kindBest_42 a1 a2 a3 K n x4 x5 x6 Z → W p l e R s m args below meth c H locs 0 0 (zQi E K below args s) (F0 m 42 ls []) := by
    intro n
    induction n with
    | zero => intro x4 x5 x6 Z H locs ls hG hl hw; exact hw.elim
    | succ n ih => intro x4 x5 x6 Z H locs ls hG hl hw; exact S42 _ ih x4 x5 x6 Z H locs ls hG hl hw
  unfold wX11_kindBest at hw
  refine lv_aload_n hx hb dX11_kindBest_0 rfl (lv_at hl 0 rfl) ?_
  refine z_get hF hG 96 (by decide) z_gs rfl in11 1 (by decide) (List.mem_of_getElem? (i := 1) rfl) rfl rfl dX11_kindBest_1 ?_
  refine lv_iload_n hx hb dX11_kindBest_4 rfl (lv_at hl 1 rfl) ?_
  refine z_ci (va_runV (rest := []) hF.1 (kX3_has l E Z 0 a1 (by decide) hw _) (cwV 1 hts gX11_kindBest_X3_has rfl rfl rfl ⟨rfl, hS_yX3_has⟩ ⟨Nat.le_trans (Nat.le_of_ble_eq_true rfl) hfr, Nat.le_trans (Nat.le_of_ble_eq_true rfl) hlo⟩) (z_preV hF hG (54 + 0) (zc_pl (by decide)) (z_pl (by decide)) rfl) rfl rfl hl.1 rfl (lv_room (Nat.le_of_ble_eq_true rfl)) dX11_kindBest_5 ⟨Nat.zero_le _, Nat.zero_le _⟩) hG (fun r2 Z1 H locs hw hG => ?_)
  refine lv_if_eq (tgt := 30) hx hb dX11_kindBest_8 (by decide) (fun c3 => ?_) (fun c3 => ?_)
  · replace hw := hw.1 c3
    refine lv_iconst (v := (-1)) hx hb dX11_kindBest_30 (by decide) ?_
    exact z_iret hF hG hr hlk hw dX11_kindBest_31
  replace hw := hw.2 c3
  refine lv_iload_n hx hb dX11_kindBest_11 rfl (lv_at hl 2 rfl) ?_
  refine lv_iconst (v := 0) hx hb dX11_kindBest_12 (by decide) ?_
  refine lv_bipush (v := 60) hx hb dX11_kindBest_13 (by decide) ?_
  refine z_ci (va_runS (rest := []) hF.1 (kX11_within l E Z1 a2 0 60  hw _) (va_cwS 3 hts gX11_kindBest_X11_within rfl rfl rfl hS_yX11_within ⟨Nat.le_trans (Nat.le_of_ble_eq_true rfl) hfr, Nat.le_trans (Nat.le_of_ble_eq_true rfl) hlo⟩) (z_preS hF hG) rfl rfl hl.1 rfl (lv_room (Nat.le_of_ble_eq_true rfl)) dX11_kindBest_15 ⟨Nat.zero_le _, Nat.zero_le _⟩) hG (fun r5 Z4 H locs hw hG => ?_)
  refine lv_if_eq (tgt := 30) hx hb dX11_kindBest_18 (by decide) (fun c6 => ?_) (fun c6 => ?_)
  · replace hw := hw.1 c6
    refine lv_iconst (v := (-1)) hx hb dX11_kindBest_30 (by decide) ?_
    exact z_iret hF hG hr hlk hw dX11_kindBest_31
  replace hw := hw.2 c6
  refine lv_iload_n hx hb dX11_kindBest_21 rfl (lv_at hl 3 rfl) ?_
  refine lv_iconst (v := 0) hx hb dX11_kindBest_22 (by decide) ?_
  refine lv_iconst (v := 1) hx hb dX11_kindBest_23 (by decide) ?_
  refine z_ci (va_runS (rest := []) hF.1 (kX11_within l E Z4 a3 0 1  hw _) (va_cwS 3 hts gX11_kindBest_X11_within rfl rfl rfl hS_yX11_within ⟨Nat.le_trans (Nat.le_of_ble_eq_true rfl) hfr, Nat.le_trans (Nat.le_of_ble_eq_true rfl) hlo⟩) (z_preS hF hG) rfl rfl hl.1 rfl (lv_room (Nat.le_of_ble_eq_true rfl)) dX11_kindBest_24 ⟨Nat.zero_le _, Nat.zero_le _⟩) hG (fun r8 Z7 H locs hw hG => ?_)
  refine lv_if_ne (tgt := 32) hx hb dX11_kindBest_27 (by decide) (fun c9 => ?_) (fun c9 => ?_)
  · replace hw := hw.1 c9
    refine lv_bipush (v := (-4)) hx hb dX11_kindBest_32 (by decide) ?_
    refine lv_topi (fun y10 ey10 => ?_)
    replace hw := hw y10 ey10
    refine lv_istore (lv' := [(4, .int y10), (0, .ref (E.2.1 96)), (1, .int a1), (2, .int a2), (3, .int a3)]) hx hb dX11_kindBest_34 hl (by decide) rfl (fun ls hl => ?_)
    refine lv_iconst (v := 0) hx hb dX11_kindBest_36 (by decide) ?_
    refine lv_topi (fun y11 ey11 => ?_)
    replace hw := hw y11 ey11
    refine lv_istore (lv' := [(5, .int y11), (4, .int y10), (0, .ref (E.2.1 96)), (1, .int a1), (2, .int a2), (3, .int a3)]) hx hb dX11_kindBest_37 hl (by decide) rfl (fun ls hl => ?_)
    refine lv_iconst (v := 0) hx hb dX11_kindBest_39 (by decide) ?_
    refine lv_topi (fun y12 ey12 => ?_)
    replace hw := hw y12 ey12
    refine lv_istore (lv' := [(6, .int y12), (5, .int y11), (4, .int y10), (0, .ref (E.2.1 96)), (1, .int a1), (2, .int a2), (3, .int a3)]) hx hb dX11_kindBest_40 hl (by decide) rfl (fun ls hl => ?_)
    obtain ⟨n42, hw⟩ := hw
    exact J42 n42 y10 y11 y12 Z7 _ _ _ hG (lv_sub hl [3, 4, 5, 6, 2, 1, 0] rfl) hw
  replace hw := hw.2 (fun h => h c9)
  refine lv_iconst (v := (-1)) hx hb dX11_kindBest_30 (by decide) ?_
  exact z_iret hF hG hr hlk hw dX11_kindBest_31
set_option maxHeartbeats 4000000 in
set_option maxRecDepth 100000 in
theorem kX11_send (l : Launch) (E : zE) (Z : zS) (a1 : Int32) {K : Int32 → zS → Prop} (hw : wX11_send a1 Z K) : zCi l yX11_send wsX11_send ({ frames := 6, cells := 0, slots := 0, locals := 122 } : Room) E Z [.ref (E.2.1 96), .int a1] K := by
  refine z_bodyi (cc := cX11_send) (nL := 6) (ret := .int) (by decide) rfl (Nat.le_of_ble_eq_true rfl) ?_
  intro p e R s m args below meth c ls hfr hlo hF hr hlk hG hl
  have hx := hF.1.1
  have hb := hF.1.2.1
  have hown := hF.1.2.2.2.1
  have hts := hF.1.2.2.2.2
  have in3 : ∀ w ∈ u_ws RX3 TX3 5, w ∈ wsX11_send := fun _ h => List.mem_cons_of_mem _ (List.mem_append_left _ (List.mem_append_right _ h))
  have in11 : ∀ w ∈ u_ws RX11 TX11 11, w ∈ wsX11_send := fun _ h => List.mem_cons_of_mem _ (List.mem_append_left _ (List.mem_append_left _ (List.mem_append_right _ h)))
  have hl : lv_has ls 6 [(0, .ref (E.2.1 96)), (1, .int a1)] := hl
  have S72 : ∀ (L72 : Int32 → Int32 → Int32 → zS → Prop), (∀ (x2 : Int32) (x3 : Int32) (x4 : Int32) (Z : zS) (H : Heap) (locs : List Loc) (ls : Array Slot), zG E Z s H locs → lv_has ls 6 [(0, .ref (E.2.1 96)), (1, .int a1), (2, .int x2), (3, .int x3), (4, .int x4)] → L72 x2 x3 x4 Z → W p l e R s m args below meth c H locs 0 0 (zQi E K below args s) (F0 m 72 ls [])) → ∀ (x2 : Int32) (x3 : Int32) (x4 : Int32) (Z : zS) (H : Heap) (locs : List Loc) (ls : Array Slot), zG E Z s H locs → lv_has ls 6 [(0, .ref (E.2.1 96)), (1, .int a1), (2, .int x2), (3, .int x3), (4, .int x4)] → wX11_send_72b L72 a1 x2 x3 x4 Z K → W p l e R s m args below meth c H locs 0 0 (zQi E K below args s) (F0 m 72 ls []) := by
    intro L72 ih72
    have J157 : ∀ (x2 : Int32) (x3 : Int32) (x4 : Int32) (Z : zS) (H : Heap) (locs : List Loc) (ls : Array Slot), zG E Z s H locs → lv_has ls 6 [(0, .ref (E.2.1 96)), (1, .int a1), (2, .int x2), (3, .int x3), (4, .int x4)] → wX11_send_157 L72 a1 x2 x3 x4 Z K → W p l e R s m args below meth c H locs 0 0 (zQi E K below args s) (F0 m 157 ls []) := by
      intro x2 x3 x4 Z H locs ls hG hl hw
      unfold wX11_send_157 at hw
      obtain ⟨y27, ey27⟩ : ∃ y : Int32, y = x4 + 1 := ⟨_, rfl⟩
      replace hw := hw y27 ey27
      refine lv_iinc (v := y27) (lv' := [(4, .int y27), (0, .ref (E.2.1 96)), (1, .int a1), (2, .int x2), (3, .int x3)]) hx hb dX11_send_157 hl (k := 4) rfl (by rw [ey27]; rfl) (by decide) rfl (fun ls hl => ?_)
      refine lv_goto (tgt := 72) hx hb dX11_send_160 (by decide) ?_
      exact ih72 x2 x3 y27 Z _ _ _ hG (lv_sub hl [1, 2, 3, 4, 0] rfl) hw
    have J151 : ∀ (x4 : Int32) (x5 : Int32) (Z : zS) (H : Heap) (locs : List Loc) (ls : Array Slot), zG E Z s H locs → lv_has ls 6 [(0, .ref (E.2.1 96)), (1, .int a1), (4, .int x4), (5, .int x5)] → wX11_send_151 L72 a1 x4 x5 Z K → W p l e R s m args below meth c H locs 0 0 (zQi E K below args s) (F0 m 151 ls []) := by
      intro x4 x5 Z H locs ls hG hl hw
      unfold wX11_send_151 at hw
      refine lv_iload hx hb dX11_send_151 (lv_at hl 2 rfl) ?_
      refine lv_istore_n (lv' := [(2, .int x4), (0, .ref (E.2.1 96)), (1, .int a1), (4, .int x4), (5, .int x5)]) hx hb dX11_send_153 rfl hl (by decide) rfl (fun ls hl => ?_)
      refine lv_iload hx hb dX11_send_154 (lv_at hl 4 rfl) ?_
      refine lv_istore_n (lv' := [(3, .int x5), (2, .int x4), (0, .ref (E.2.1 96)), (1, .int a1), (4, .int x4), (5, .int x5)]) hx hb dX11_send_156 rfl hl (by decide) rfl (fun ls hl => ?_)
      exact J157 x4 x5 x4 Z _ _ _ hG (lv_sub hl [2, 3, 1, 0, 4] rfl) hw
    intro x2 x3 x4 Z H locs ls hG hl hw
    unfold wX11_send_72b at hw
    refine lv_iload hx hb dX11_send_72 (lv_at hl 4 rfl) ?_
    refine lv_aload_n hx hb dX11_send_74 rfl (lv_at hl 0 rfl) ?_
    refine z_get hF hG 96 (by decide) z_gs rfl in11 1 (by decide) (List.mem_of_getElem? (i := 2) rfl) rfl rfl dX11_send_75 ?_
    refine z_get hF hG (54 + 0) (zc_pl (by decide)) (z_pl (by decide)) rfl in3 1 (by decide) (List.mem_of_getElem? (i := 3) rfl) rfl rfl dX11_send_78 ?_
    refine lv_icmp_ge (tgt := 163) hx hb dX11_send_81 (by decide) (fun c16 => ?_) (fun c16 => ?_)
    · replace hw := hw.1 c16
      refine lv_iload_n hx hb dX11_send_163 rfl (lv_at hl 2 rfl) ?_
      exact z_iret hF hG hr hlk hw dX11_send_164
    replace hw := hw.2 c16
    refine lv_aload_n hx hb dX11_send_84 rfl (lv_at hl 0 rfl) ?_
    refine z_get hF hG 96 (by decide) z_gs rfl in11 2 (by decide) (List.mem_of_getElem? (i := 1) rfl) rfl rfl dX11_send_85 ?_
    refine lv_aload_n hx hb dX11_send_88 rfl (lv_at hl 0 rfl) ?_
    refine z_get hF hG 96 (by decide) z_gs rfl in11 1 (by decide) (List.mem_of_getElem? (i := 2) rfl) rfl rfl dX11_send_89 ?_
    refine z_cv (va_runV (rest := []) hF.1 (kX3_becomes l E Z 1 0 (by decide) (by decide) hw _) (cwV 1 hts gX11_send_X3_becomes rfl rfl rfl ⟨rfl, hS_yX3_becomes⟩ ⟨Nat.le_trans (Nat.le_of_ble_eq_true rfl) hfr, Nat.le_trans (Nat.le_of_ble_eq_true rfl) hlo⟩) (z_preV hF hG (54 + 1) (zc_pl (by decide)) (z_pl (by decide)) rfl) rfl rfl hl.1 rfl (lv_room (Nat.le_of_ble_eq_true rfl)) dX11_send_92 ⟨Nat.zero_le _, Nat.zero_le _⟩) hG (fun Z17 H locs hw hG => ?_)
    refine lv_aload_n hx hb dX11_send_95 rfl (lv_at hl 0 rfl) ?_
    refine z_get hF hG 96 (by decide) z_gs rfl in11 2 (by decide) (List.mem_of_getElem? (i := 1) rfl) rfl rfl dX11_send_96 ?_
    refine z_get hF hG (54 + 1) (zc_pl (by decide)) (z_pl (by decide)) rfl in3 0 (by decide) (List.mem_of_getElem? (i := 5) rfl) rfl rfl dX11_send_99 ?_
    refine lv_iload hx hb dX11_send_102 (lv_at hl 4 rfl) ?_
    obtain ⟨q18, hw⟩ := hw
    refine z_aald hF hG (57 + 1) 1 (zc_pr (by decide)) (z_pr (by decide)) rfl q18 rfl dX11_send_104 ?_
    refine z_cv (va_runV (rest := []) hF.1 (kX5_dropJobs l E Z17 ((6 * 1 + (x4 : Int32).toNatClampNeg)) (z_vb (by decide) q18) hw _) (cwV 0 hts gX11_send_X5_dropJobs rfl rfl rfl ⟨rfl, hS_yX5_dropJobs⟩ ⟨Nat.le_trans (Nat.le_of_ble_eq_true rfl) hfr, Nat.le_trans (Nat.le_of_ble_eq_true rfl) hlo⟩) (z_preV hF hG (6 * 1 + (x4 : Int32).toNatClampNeg) (zc_sv (z_vb (by decide) q18)) (z_sv (z_vb (by decide) q18)) rfl) rfl rfl hl.1 rfl (lv_room (Nat.le_of_ble_eq_true rfl)) dX11_send_105 ⟨Nat.zero_le _, Nat.zero_le _⟩) hG (fun Z19 H locs hw hG => ?_)
    refine lv_aload_n hx hb dX11_send_108 rfl (lv_at hl 0 rfl) ?_
    refine z_get hF hG 96 (by decide) z_gs rfl in11 2 (by decide) (List.mem_of_getElem? (i := 1) rfl) rfl rfl dX11_send_109 ?_
    refine lv_iload_n hx hb dX11_send_112 rfl (lv_at hl 1 rfl) ?_
    refine z_cv (va_runV (rest := []) hF.1 (kX3_goOnFor l E Z19 1 a1 (by decide) hw _) (cwV 1 hts gX11_send_X3_goOnFor rfl rfl rfl ⟨rfl, hS_yX3_goOnFor⟩ ⟨Nat.le_trans (Nat.le_of_ble_eq_true rfl) hfr, Nat.le_trans (Nat.le_of_ble_eq_true rfl) hlo⟩) (z_preV hF hG (54 + 1) (zc_pl (by decide)) (z_pl (by decide)) rfl) rfl rfl hl.1 rfl (lv_room (Nat.le_of_ble_eq_true rfl)) dX11_send_113 ⟨Nat.zero_le _, Nat.zero_le _⟩) hG (fun Z20 H locs hw hG => ?_)
    refine lv_aload_n hx hb dX11_send_116 rfl (lv_at hl 0 rfl) ?_
    refine z_get hF hG 96 (by decide) z_gs rfl in11 2 (by decide) (List.mem_of_getElem? (i := 1) rfl) rfl rfl dX11_send_117 ?_
    refine lv_iload hx hb dX11_send_120 (lv_at hl 4 rfl) ?_
    refine z_ci (va_runV (rest := []) hF.1 (kX3_lateOfAllBut l E Z20 1 x4 (by decide) hw _) (cwV 1 hts gX11_send_X3_lateOfAllBut rfl rfl rfl ⟨rfl, hS_yX3_lateOfAllBut⟩ ⟨Nat.le_trans (Nat.le_of_ble_eq_true rfl) hfr, Nat.le_trans (Nat.le_of_ble_eq_true rfl) hlo⟩) (z_preV hF hG (54 + 1) (zc_pl (by decide)) (z_pl (by decide)) rfl) rfl rfl hl.1 rfl (lv_room (Nat.le_of_ble_eq_true rfl)) dX11_send_122 ⟨Nat.zero_le _, Nat.zero_le _⟩) hG (fun r22 Z21 H locs hw hG => ?_)
    refine lv_istore (lv' := [(5, .int r22), (0, .ref (E.2.1 96)), (1, .int a1), (2, .int x2), (3, .int x3), (4, .int x4)]) hx hb dX11_send_125 hl (by decide) rfl (fun ls hl => ?_)
    refine lv_iload hx hb dX11_send_127 (lv_at hl 0 rfl) ?_
    refine lv_aload_n hx hb dX11_send_129 rfl (lv_at hl 1 rfl) ?_
    refine z_get hF hG 96 (by decide) z_gs rfl in11 9 (by decide) (List.mem_of_getElem? (i := 4) rfl) rfl rfl dX11_send_130 ?_
    refine lv_iload hx hb dX11_send_133 (lv_at hl 5 rfl) ?_
    obtain ⟨q23, hw⟩ := hw
    refine z_iald hF hG 95 (by decide) z_m95 q23 dX11_send_135 ?_
    refine lv_icmp_ge (tgt := 157) hx hb dX11_send_136 (by decide) (fun c24 => ?_) (fun c24 => ?_)
    · replace hw := hw.1 c24
      exact J157 x2 x3 x4 Z21 _ _ _ hG (lv_sub hl [1, 2, 3, 4, 5] rfl) hw
    replace hw := hw.2 c24
    refine lv_iload_n hx hb dX11_send_139 rfl (lv_at hl 3 rfl) ?_
    refine lv_bipush (v := (-4)) hx hb dX11_send_140 (by decide) ?_
    refine lv_icmp_eq (tgt := 151) hx hb dX11_send_142 (by decide) (fun c25 => ?_) (fun c25 => ?_)
    · replace hw := hw.1 c25
      exact J151 x4 r22 Z21 _ _ _ hG (lv_sub hl [1, 2, 5, 0] rfl) hw
    replace hw := hw.2 c25
    refine lv_iload hx hb dX11_send_145 (lv_at hl 0 rfl) ?_
    refine lv_iload_n hx hb dX11_send_147 rfl (lv_at hl 4 rfl) ?_
    refine lv_icmp_ge (tgt := 157) hx hb dX11_send_148 (by decide) (fun c26 => ?_) (fun c26 => ?_)
    · replace hw := hw.1 c26
      exact J157 x2 x3 x4 Z21 _ _ _ hG (lv_sub hl [1, 2, 3, 4, 5] rfl) hw
    replace hw := hw.2 c26
    exact J151 x4 r22 Z21 _ _ _ hG (lv_sub hl [1, 2, 5, 0] rfl) hw
  have J72 : ∀ n : Nat, ∀ (x2 : Int32) (x3 : Int32) (x4 : Int32) (Z : zS) (H : Heap) (locs : List Loc) (ls : Array Slot), zG E Z s H locs → lv_has ls 6 [(0, .ref (E.2.1 96)), (1, .int a1), (2, .int x2), (3, .int x3), (4, .int x4)] → wX11_send_72 a1 K n x2 x3 x4 Z → W p l e R s m args below meth c H locs 0 0 (zQi E K below args s) (F0 m 72 ls []) := by
    intro n
    induction n with
    | zero => intro x2 x3 x4 Z H locs ls hG hl hw; exact hw.elim
    | succ n ih => intro x2 x3 x4 Z H locs ls hG hl hw; exact S72 _ ih x2 x3 x4 Z H locs ls hG hl hw
  have S33 : ∀ (L33 : Int32 → zS → Prop), (∀ (x2 : Int32) (Z : zS) (H : Heap) (locs : List Loc) (ls : Array Slot), zG E Z s H locs → lv_has ls 6 [(0, .ref (E.2.1 96)), (1, .int a1), (2, .int x2)] → L33 x2 Z → W p l e R s m args below meth c H locs 0 0 (zQi E K below args s) (F0 m 33 ls [])) → ∀ (x2 : Int32) (Z : zS) (H : Heap) (locs : List Loc) (ls : Array Slot), zG E Z s H locs → lv_has ls 6 [(0, .ref (E.2.1 96)), (1, .int a1), (2, .int x2)] → wX11_send_33b L33 a1 x2 Z K → W p l e R s m args below meth c H locs 0 0 (zQi E K below args s) (F0 m 33 ls []) := by
    intro L33 ih33
    intro x2 Z H locs ls hG hl hw
    unfold wX11_send_33b at hw
    refine lv_iload_n hx hb dX11_send_33 rfl (lv_at hl 2 rfl) ?_
    refine lv_aload_n hx hb dX11_send_34 rfl (lv_at hl 0 rfl) ?_
    refine z_get hF hG 96 (by decide) z_gs rfl in11 2 (by decide) (List.mem_of_getElem? (i := 1) rfl) rfl rfl dX11_send_35 ?_
    refine z_get hF hG (54 + 1) (zc_pl (by decide)) (z_pl (by decide)) rfl in3 1 (by decide) (List.mem_of_getElem? (i := 3) rfl) rfl rfl dX11_send_38 ?_
    refine lv_icmp_ge (tgt := 64) hx hb dX11_send_41 (by decide) (fun c7 => ?_) (fun c7 => ?_)
    · replace hw := hw.1 c7
      refine lv_bipush (v := (-4)) hx hb dX11_send_64 (by decide) ?_
      refine lv_topi (fun y8 ey8 => ?_)
      replace hw := hw y8 ey8
      refine lv_istore_n (lv' := [(2, .int y8), (0, .ref (E.2.1 96)), (1, .int a1)]) hx hb dX11_send_66 rfl hl (by decide) rfl (fun ls hl => ?_)
      refine lv_iconst (v := 0) hx hb dX11_send_67 (by decide) ?_
      refine lv_topi (fun y9 ey9 => ?_)
      replace hw := hw y9 ey9
      refine lv_istore_n (lv' := [(3, .int y9), (2, .int y8), (0, .ref (E.2.1 96)), (1, .int a1)]) hx hb dX11_send_68 rfl hl (by decide) rfl (fun ls hl => ?_)
      refine lv_iconst (v := 0) hx hb dX11_send_69 (by decide) ?_
      refine lv_topi (fun y10 ey10 => ?_)
      replace hw := hw y10 ey10
      refine lv_istore (lv' := [(4, .int y10), (3, .int y9), (2, .int y8), (0, .ref (E.2.1 96)), (1, .int a1)]) hx hb dX11_send_70 hl (by decide) rfl (fun ls hl => ?_)
      obtain ⟨n72, hw⟩ := hw
      exact J72 n72 y8 y9 y10 Z _ _ _ hG (lv_sub hl [3, 4, 2, 1, 0] rfl) hw
    replace hw := hw.2 c7
    refine lv_aload_n hx hb dX11_send_44 rfl (lv_at hl 0 rfl) ?_
    refine z_get hF hG 96 (by decide) z_gs rfl in11 9 (by decide) (List.mem_of_getElem? (i := 4) rfl) rfl rfl dX11_send_45 ?_
    refine lv_iload_n hx hb dX11_send_48 rfl (lv_at hl 2 rfl) ?_
    refine lv_aload_n hx hb dX11_send_49 rfl (lv_at hl 0 rfl) ?_
    refine z_get hF hG 96 (by decide) z_gs rfl in11 2 (by decide) (List.mem_of_getElem? (i := 1) rfl) rfl rfl dX11_send_50 ?_
    refine lv_iload_n hx hb dX11_send_53 rfl (lv_at hl 2 rfl) ?_
    refine z_ci (va_runV (rest := [.int x2, .ref (E.2.1 95)]) hF.1 (kX3_lateOfAllBut l E Z 1 x2 (by decide) hw _) (cwV 1 hts gX11_send_X3_lateOfAllBut rfl rfl rfl ⟨rfl, hS_yX3_lateOfAllBut⟩ ⟨Nat.le_trans (Nat.le_of_ble_eq_true rfl) hfr, Nat.le_trans (Nat.le_of_ble_eq_true rfl) hlo⟩) (z_preV hF hG (54 + 1) (zc_pl (by decide)) (z_pl (by decide)) rfl) rfl rfl hl.1 rfl (lv_room (Nat.le_of_ble_eq_true rfl)) dX11_send_54 ⟨Nat.zero_le _, Nat.zero_le _⟩) hG (fun r12 Z11 H locs hw hG => ?_)
    obtain ⟨q13, hw⟩ := hw
    refine z_iast hF hG 95 (by decide) (fun _ => z_m95) q13 dX11_send_57 (fun Z14 H locs eZ14 hG => ?_)
    replace hw := hw Z14 eZ14
    obtain ⟨y15, ey15⟩ : ∃ y : Int32, y = x2 + 1 := ⟨_, rfl⟩
    replace hw := hw y15 ey15
    refine lv_iinc (v := y15) (lv' := [(2, .int y15), (0, .ref (E.2.1 96)), (1, .int a1)]) hx hb dX11_send_58 hl (k := 2) rfl (by rw [ey15]; rfl) (by decide) rfl (fun ls hl => ?_)
    refine lv_goto (tgt := 33) hx hb dX11_send_61 (by decide) ?_
    exact ih33 y15 Z14 _ _ _ hG (lv_sub hl [1, 2, 0] rfl) hw
  have J33 : ∀ n : Nat, ∀ (x2 : Int32) (Z : zS) (H : Heap) (locs : List Loc) (ls : Array Slot), zG E Z s H locs → lv_has ls 6 [(0, .ref (E.2.1 96)), (1, .int a1), (2, .int x2)] → wX11_send_33 a1 K n x2 Z → W p l e R s m args below meth c H locs 0 0 (zQi E K below args s) (F0 m 33 ls []) := by
    intro n
    induction n with
    | zero => intro x2 Z H locs ls hG hl hw; exact hw.elim
    | succ n ih => intro x2 Z H locs ls hG hl hw; exact S33 _ ih x2 Z H locs ls hG hl hw
  unfold wX11_send at hw
  refine lv_iload_n hx hb dX11_send_0 rfl (lv_at hl 1 rfl) ?_
  refine lv_iconst (v := 0) hx hb dX11_send_1 (by decide) ?_
  refine lv_bipush (v := 60) hx hb dX11_send_2 (by decide) ?_
  refine z_ci (va_runS (rest := []) hF.1 (kX11_within l E Z a1 0 60  hw _) (va_cwS 3 hts gX11_send_X11_within rfl rfl rfl hS_yX11_within ⟨Nat.le_trans (Nat.le_of_ble_eq_true rfl) hfr, Nat.le_trans (Nat.le_of_ble_eq_true rfl) hlo⟩) (z_preS hF hG) rfl rfl hl.1 rfl (lv_room (Nat.le_of_ble_eq_true rfl)) dX11_send_4 ⟨Nat.zero_le _, Nat.zero_le _⟩) hG (fun r2 Z1 H locs hw hG => ?_)
  refine lv_if_ne (tgt := 12) hx hb dX11_send_7 (by decide) (fun c3 => ?_) (fun c3 => ?_)
  · replace hw := hw.1 c3
    refine lv_aload_n hx hb dX11_send_12 rfl (lv_at hl 0 rfl) ?_
    refine z_get hF hG 96 (by decide) z_gs rfl in11 2 (by decide) (List.mem_of_getElem? (i := 1) rfl) rfl rfl dX11_send_13 ?_
    refine lv_aload_n hx hb dX11_send_16 rfl (lv_at hl 0 rfl) ?_
    refine z_get hF hG 96 (by decide) z_gs rfl in11 1 (by decide) (List.mem_of_getElem? (i := 2) rfl) rfl rfl dX11_send_17 ?_
    refine z_cv (va_runV (rest := []) hF.1 (kX3_becomes l E Z1 1 0 (by decide) (by decide) hw _) (cwV 1 hts gX11_send_X3_becomes rfl rfl rfl ⟨rfl, hS_yX3_becomes⟩ ⟨Nat.le_trans (Nat.le_of_ble_eq_true rfl) hfr, Nat.le_trans (Nat.le_of_ble_eq_true rfl) hlo⟩) (z_preV hF hG (54 + 1) (zc_pl (by decide)) (z_pl (by decide)) rfl) rfl rfl hl.1 rfl (lv_room (Nat.le_of_ble_eq_true rfl)) dX11_send_20 ⟨Nat.zero_le _, Nat.zero_le _⟩) hG (fun Z4 H locs hw hG => ?_)
    refine lv_aload_n hx hb dX11_send_23 rfl (lv_at hl 0 rfl) ?_
    refine z_get hF hG 96 (by decide) z_gs rfl in11 2 (by decide) (List.mem_of_getElem? (i := 1) rfl) rfl rfl dX11_send_24 ?_
    refine lv_iload_n hx hb dX11_send_27 rfl (lv_at hl 1 rfl) ?_
    refine z_cv (va_runV (rest := []) hF.1 (kX3_goOnFor l E Z4 1 a1 (by decide) hw _) (cwV 1 hts gX11_send_X3_goOnFor rfl rfl rfl ⟨rfl, hS_yX3_goOnFor⟩ ⟨Nat.le_trans (Nat.le_of_ble_eq_true rfl) hfr, Nat.le_trans (Nat.le_of_ble_eq_true rfl) hlo⟩) (z_preV hF hG (54 + 1) (zc_pl (by decide)) (z_pl (by decide)) rfl) rfl rfl hl.1 rfl (lv_room (Nat.le_of_ble_eq_true rfl)) dX11_send_28 ⟨Nat.zero_le _, Nat.zero_le _⟩) hG (fun Z5 H locs hw hG => ?_)
    refine lv_iconst (v := 0) hx hb dX11_send_31 (by decide) ?_
    refine lv_topi (fun y6 ey6 => ?_)
    replace hw := hw y6 ey6
    refine lv_istore_n (lv' := [(2, .int y6), (0, .ref (E.2.1 96)), (1, .int a1)]) hx hb dX11_send_32 rfl hl (by decide) rfl (fun ls hl => ?_)
    obtain ⟨n33, hw⟩ := hw
    exact J33 n33 y6 Z5 _ _ _ hG (lv_sub hl [1, 2, 0] rfl) hw
  replace hw := hw.2 (fun h => h c3)
  refine lv_iconst (v := (-1)) hx hb dX11_send_10 (by decide) ?_
  exact z_iret hF hG hr hlk hw dX11_send_11
set_option maxHeartbeats 4000000 in
set_option maxRecDepth 100000 in
theorem kX11_load (l : Launch) (E : zE) (Z : zS) (a1 : Int32) {K : Int32 → zS → Prop} (hw : wX11_load a1 Z K) : zCi l yX11_load wsX11_load ({ frames := 5, cells := 0, slots := 0, locals := 100 } : Room) E Z [.ref (E.2.1 96), .int a1] K := by
  refine z_bodyi (cc := cX11_load) (nL := 4) (ret := .int) (by decide) rfl (Nat.le_of_ble_eq_true rfl) ?_
  intro p e R s m args below meth c ls hfr hlo hF hr hlk hG hl
  have hx := hF.1.1
  have hb := hF.1.2.1
  have hown := hF.1.2.2.2.1
  have hts := hF.1.2.2.2.2
  have in11 : ∀ w ∈ u_ws RX11 TX11 11, w ∈ wsX11_load := fun _ h => List.mem_cons_of_mem _ (List.mem_append_left _ (List.mem_append_left _ (List.mem_append_right _ h)))
  have hl : lv_has ls 4 [(0, .ref (E.2.1 96)), (1, .int a1)] := hl
  have S33 : ∀ (L33 : Int32 → Int32 → zS → Prop), (∀ (x2 : Int32) (x3 : Int32) (Z : zS) (H : Heap) (locs : List Loc) (ls : Array Slot), zG E Z s H locs → lv_has ls 4 [(0, .ref (E.2.1 96)), (1, .int a1), (2, .int x2), (3, .int x3)] → L33 x2 x3 Z → W p l e R s m args below meth c H locs 0 0 (zQi E K below args s) (F0 m 33 ls [])) → ∀ (x2 : Int32) (x3 : Int32) (Z : zS) (H : Heap) (locs : List Loc) (ls : Array Slot), zG E Z s H locs → lv_has ls 4 [(0, .ref (E.2.1 96)), (1, .int a1), (2, .int x2), (3, .int x3)] → wX11_load_33b L33 a1 x2 x3 Z K → W p l e R s m args below meth c H locs 0 0 (zQi E K below args s) (F0 m 33 ls []) := by
    intro L33 ih33
    intro x2 x3 Z H locs ls hG hl hw
    unfold wX11_load_33b at hw
    refine lv_iload_n hx hb dX11_load_33 rfl (lv_at hl 3 rfl) ?_
    refine lv_iload_n hx hb dX11_load_34 rfl (lv_at hl 1 rfl) ?_
    refine lv_icmp_ge (tgt := 64) hx hb dX11_load_35 (by decide) (fun c8 => ?_) (fun c8 => ?_)
    · replace hw := hw.1 c8
      refine lv_iload_n hx hb dX11_load_64 rfl (lv_at hl 2 rfl) ?_
      exact z_iret hF hG hr hlk hw dX11_load_65
    replace hw := hw.2 c8
    refine lv_aload_n hx hb dX11_load_38 rfl (lv_at hl 0 rfl) ?_
    refine z_get hF hG 96 (by decide) z_gs rfl in11 2 (by decide) (List.mem_of_getElem? (i := 1) rfl) rfl rfl dX11_load_39 ?_
    refine lv_iconst (v := 0) hx hb dX11_load_42 (by decide) ?_
    refine z_cv (va_runV (rest := []) hF.1 (kX3_goOn l E Z 1 0 (by decide) hw _) (cwV 1 hts gX11_load_X3_goOn rfl rfl rfl ⟨rfl, hS_yX3_goOn⟩ ⟨Nat.le_trans (Nat.le_of_ble_eq_true rfl) hfr, Nat.le_trans (Nat.le_of_ble_eq_true rfl) hlo⟩) (z_preV hF hG (54 + 1) (zc_pl (by decide)) (z_pl (by decide)) rfl) rfl rfl hl.1 rfl (lv_room (Nat.le_of_ble_eq_true rfl)) dX11_load_43 ⟨Nat.zero_le _, Nat.zero_le _⟩) hG (fun Z9 H locs hw hG => ?_)
    refine lv_iload_n hx hb dX11_load_46 rfl (lv_at hl 2 rfl) ?_
    refine lv_aload_n hx hb dX11_load_47 rfl (lv_at hl 0 rfl) ?_
    refine z_get hF hG 96 (by decide) z_gs rfl in11 2 (by decide) (List.mem_of_getElem? (i := 1) rfl) rfl rfl dX11_load_48 ?_
    refine z_ci (va_runV (rest := [.int x2]) hF.1 (kX3_loadOfAll l E Z9 1 (by decide) hw _) (cwV 0 hts gX11_load_X3_loadOfAll rfl rfl rfl ⟨rfl, hS_yX3_loadOfAll⟩ ⟨Nat.le_trans (Nat.le_of_ble_eq_true rfl) hfr, Nat.le_trans (Nat.le_of_ble_eq_true rfl) hlo⟩) (z_preV hF hG (54 + 1) (zc_pl (by decide)) (z_pl (by decide)) rfl) rfl rfl hl.1 rfl (lv_room (Nat.le_of_ble_eq_true rfl)) dX11_load_51 ⟨Nat.zero_le _, Nat.zero_le _⟩) hG (fun r11 Z10 H locs hw hG => ?_)
    refine va_mmin hx hb (hF.1.2.2.1.trans hl.1.symm) hown (hts (.methodLink RX11 256 Lib.Math.min.name) (List.mem_of_getElem? (i := 3) rfl)) (hts (.static Lib.Math.min.name) (List.mem_of_getElem? (i := 4) rfl)) (hts (.initialized "java/lang/Math") (List.mem_of_getElem? (i := 5) rfl)) (hts (.code Lib.Math.min.name Lib.Math.min.code 2 (some .int)) (List.mem_of_getElem? (i := 6) rfl)) (Nat.le_trans (Nat.le_of_ble_eq_true rfl) hfr) (Nat.le_trans (Nat.le_of_ble_eq_true rfl) hlo) (Nat.zero_le _) (Nat.zero_le _) dX11_load_54 ?_
    refine lv_topi (fun y12 ey12 => ?_)
    replace hw := hw y12 ey12
    refine lv_istore_n (lv' := [(2, .int y12), (0, .ref (E.2.1 96)), (1, .int a1), (3, .int x3)]) hx hb dX11_load_57 rfl hl (by decide) rfl (fun ls hl => ?_)
    obtain ⟨y13, ey13⟩ : ∃ y : Int32, y = x3 + 1 := ⟨_, rfl⟩
    replace hw := hw y13 ey13
    refine lv_iinc (v := y13) (lv' := [(3, .int y13), (2, .int y12), (0, .ref (E.2.1 96)), (1, .int a1)]) hx hb dX11_load_58 hl (k := 3) rfl (by rw [ey13]; rfl) (by decide) rfl (fun ls hl => ?_)
    refine lv_goto (tgt := 33) hx hb dX11_load_61 (by decide) ?_
    exact ih33 y12 y13 Z10 _ _ _ hG (lv_sub hl [2, 3, 1, 0] rfl) hw
  have J33 : ∀ n : Nat, ∀ (x2 : Int32) (x3 : Int32) (Z : zS) (H : Heap) (locs : List Loc) (ls : Array Slot), zG E Z s H locs → lv_has ls 4 [(0, .ref (E.2.1 96)), (1, .int a1), (2, .int x2), (3, .int x3)] → wX11_load_33 a1 K n x2 x3 Z → W p l e R s m args below meth c H locs 0 0 (zQi E K below args s) (F0 m 33 ls []) := by
    intro n
    induction n with
    | zero => intro x2 x3 Z H locs ls hG hl hw; exact hw.elim
    | succ n ih => intro x2 x3 Z H locs ls hG hl hw; exact S33 _ ih x2 x3 Z H locs ls hG hl hw
  unfold wX11_load at hw
  refine lv_iload_n hx hb dX11_load_0 rfl (lv_at hl 1 rfl) ?_
  refine lv_iconst (v := 0) hx hb dX11_load_1 (by decide) ?_
  refine lv_bipush (v := 99) hx hb dX11_load_2 (by decide) ?_
  refine z_ci (va_runS (rest := []) hF.1 (kX11_within l E Z a1 0 99  hw _) (va_cwS 3 hts gX11_load_X11_within rfl rfl rfl hS_yX11_within ⟨Nat.le_trans (Nat.le_of_ble_eq_true rfl) hfr, Nat.le_trans (Nat.le_of_ble_eq_true rfl) hlo⟩) (z_preS hF hG) rfl rfl hl.1 rfl (lv_room (Nat.le_of_ble_eq_true rfl)) dX11_load_4 ⟨Nat.zero_le _, Nat.zero_le _⟩) hG (fun r2 Z1 H locs hw hG => ?_)
  refine lv_if_ne (tgt := 12) hx hb dX11_load_7 (by decide) (fun c3 => ?_) (fun c3 => ?_)
  · replace hw := hw.1 c3
    refine lv_aload_n hx hb dX11_load_12 rfl (lv_at hl 0 rfl) ?_
    refine z_get hF hG 96 (by decide) z_gs rfl in11 2 (by decide) (List.mem_of_getElem? (i := 1) rfl) rfl rfl dX11_load_13 ?_
    refine lv_aload_n hx hb dX11_load_16 rfl (lv_at hl 0 rfl) ?_
    refine z_get hF hG 96 (by decide) z_gs rfl in11 1 (by decide) (List.mem_of_getElem? (i := 2) rfl) rfl rfl dX11_load_17 ?_
    refine z_cv (va_runV (rest := []) hF.1 (kX3_becomes l E Z1 1 0 (by decide) (by decide) hw _) (cwV 1 hts gX11_load_X3_becomes rfl rfl rfl ⟨rfl, hS_yX3_becomes⟩ ⟨Nat.le_trans (Nat.le_of_ble_eq_true rfl) hfr, Nat.le_trans (Nat.le_of_ble_eq_true rfl) hlo⟩) (z_preV hF hG (54 + 1) (zc_pl (by decide)) (z_pl (by decide)) rfl) rfl rfl hl.1 rfl (lv_room (Nat.le_of_ble_eq_true rfl)) dX11_load_20 ⟨Nat.zero_le _, Nat.zero_le _⟩) hG (fun Z4 H locs hw hG => ?_)
    refine lv_aload_n hx hb dX11_load_23 rfl (lv_at hl 0 rfl) ?_
    refine z_get hF hG 96 (by decide) z_gs rfl in11 2 (by decide) (List.mem_of_getElem? (i := 1) rfl) rfl rfl dX11_load_24 ?_
    refine z_ci (va_runV (rest := []) hF.1 (kX3_loadOfAll l E Z4 1 (by decide) hw _) (cwV 0 hts gX11_load_X3_loadOfAll rfl rfl rfl ⟨rfl, hS_yX3_loadOfAll⟩ ⟨Nat.le_trans (Nat.le_of_ble_eq_true rfl) hfr, Nat.le_trans (Nat.le_of_ble_eq_true rfl) hlo⟩) (z_preV hF hG (54 + 1) (zc_pl (by decide)) (z_pl (by decide)) rfl) rfl rfl hl.1 rfl (lv_room (Nat.le_of_ble_eq_true rfl)) dX11_load_27 ⟨Nat.zero_le _, Nat.zero_le _⟩) hG (fun r6 Z5 H locs hw hG => ?_)
    refine lv_istore_n (lv' := [(2, .int r6), (0, .ref (E.2.1 96)), (1, .int a1)]) hx hb dX11_load_30 rfl hl (by decide) rfl (fun ls hl => ?_)
    refine lv_iconst (v := 1) hx hb dX11_load_31 (by decide) ?_
    refine lv_topi (fun y7 ey7 => ?_)
    replace hw := hw y7 ey7
    refine lv_istore_n (lv' := [(3, .int y7), (2, .int r6), (0, .ref (E.2.1 96)), (1, .int a1)]) hx hb dX11_load_32 rfl hl (by decide) rfl (fun ls hl => ?_)
    obtain ⟨n33, hw⟩ := hw
    exact J33 n33 r6 y7 Z5 _ _ _ hG (lv_sub hl [2, 3, 1, 0] rfl) hw
  replace hw := hw.2 (fun h => h c3)
  refine lv_iconst (v := (-1)) hx hb dX11_load_10 (by decide) ?_
  exact z_iret hF hG hr hlk hw dX11_load_11
