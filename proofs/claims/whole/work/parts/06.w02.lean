set_option maxHeartbeats 4000000 in
set_option maxRecDepth 100000 in
theorem kX5_endJobNow (l : Launch) (E : zE) (Z : zS) (v : Nat) (hv : v < 18) {K : zS → Prop} (hw : wX5_endJobNow v Z K) : zCv l yX5_endJobNow wsX5_endJobNow ({ frames := 0, cells := 0, slots := 0, locals := 0 } : Room) E Z [.ref (E.2.1 v)] K := by
  refine z_bodyv (cc := cX5_endJobNow) (nL := 2) (by decide) rfl (Nat.le_of_ble_eq_true rfl) ?_
  intro p e R s m args below meth c ls hfr hlo hF hr hlk hG hl
  have hx := hF.1.1
  have hb := hF.1.2.1
  have hown := hF.1.2.2.2.1
  have hts := hF.1.2.2.2.2
  have in5 : ∀ w ∈ u_ws RX5 TX5 15, w ∈ wsX5_endJobNow := fun _ h => List.mem_cons_of_mem _ (List.mem_append_right _ h)
  have hl : lv_has ls 2 [(0, .ref (E.2.1 v))] := hl
  have S32 : ∀ (L32 : Int32 → zS → Prop), (∀ (x1 : Int32) (Z : zS) (H : Heap) (locs : List Loc) (ls : Array Slot), zG E Z s H locs → lv_has ls 2 [(0, .ref (E.2.1 v)), (1, .int x1)] → L32 x1 Z → W p l e R s m args below meth c H locs 0 0 (zQv E K below args s) (F0 m 32 ls [])) → ∀ (x1 : Int32) (Z : zS) (H : Heap) (locs : List Loc) (ls : Array Slot), zG E Z s H locs → lv_has ls 2 [(0, .ref (E.2.1 v)), (1, .int x1)] → wX5_endJobNow_32b L32 v x1 Z K → W p l e R s m args below meth c H locs 0 0 (zQv E K below args s) (F0 m 32 ls []) := by
    intro L32 ih32
    intro x1 Z H locs ls hG hl hw
    unfold wX5_endJobNow_32b at hw
    refine lv_iload_n hx hb dX5_endJobNow_32 rfl (lv_at hl 1 rfl) ?_
    refine lv_aload_n hx hb dX5_endJobNow_33 rfl (lv_at hl 0 rfl) ?_
    refine z_get hF hG v (zc_sv hv) (z_sv hv) rfl in5 10 (by decide) (List.mem_of_getElem? (i := 2) rfl) rfl rfl dX5_endJobNow_34 ?_
    refine lv_icmp_ge (tgt := 74) hx hb dX5_endJobNow_37 (by decide) (fun c5 => ?_) (fun c5 => ?_)
    · replace hw := hw.1 c5
      refine lv_aload_n hx hb dX5_endJobNow_74 rfl (lv_at hl 0 rfl) ?_
      refine lv_iconst (v := 0) hx hb dX5_endJobNow_75 (by decide) ?_
      refine z_put hF hG v (zc_sv hv) (z_sv hv) rfl in5 tyX5_ok nmX5 13 (by decide) (List.mem_of_getElem? (i := 5) rfl) rfl rfl (tyX5_ok 13 (by decide)) (by decide) (by decide) (Nat.le_of_ble_eq_true rfl) 0 (z_sv hv) dX5_endJobNow_76 (fun Z6 H locs eZ6 hG => ?_)
      replace hw := hw Z6 eZ6
      refine lv_aload_n hx hb dX5_endJobNow_79 rfl (lv_at hl 0 rfl) ?_
      refine lv_aload_n hx hb dX5_endJobNow_80 rfl (lv_at hl 0 rfl) ?_
      refine z_get hF hG v (zc_sv hv) (z_sv hv) rfl in5 6 (by decide) (List.mem_of_getElem? (i := 6) rfl) rfl rfl dX5_endJobNow_81 ?_
      refine z_put hF hG v (zc_sv hv) (z_sv hv) rfl in5 tyX5_ok nmX5 14 (by decide) (List.mem_of_getElem? (i := 7) rfl) rfl rfl (tyX5_ok 14 (by decide)) rfl rfl (Nat.le_of_ble_eq_true rfl) ((Z6 v 6)) (z_sv hv) dX5_endJobNow_84 (fun Z7 H locs eZ7 hG => ?_)
      replace hw := hw Z7 eZ7
      refine lv_aload_n hx hb dX5_endJobNow_87 rfl (lv_at hl 0 rfl) ?_
      refine z_get hF hG v (zc_sv hv) (z_sv hv) rfl in5 10 (by decide) (List.mem_of_getElem? (i := 2) rfl) rfl rfl dX5_endJobNow_88 ?_
      refine lv_if_ne (tgt := 99) hx hb dX5_endJobNow_91 (by decide) (fun c8 => ?_) (fun c8 => ?_)
      · replace hw := hw.1 c8
        exact z_vret hF hG hr hlk hw dX5_endJobNow_99
      replace hw := hw.2 (fun h => h c8)
      refine lv_aload_n hx hb dX5_endJobNow_94 rfl (lv_at hl 0 rfl) ?_
      refine lv_iconst (v := 3) hx hb dX5_endJobNow_95 (by decide) ?_
      refine z_put hF hG v (zc_sv hv) (z_sv hv) rfl in5 tyX5_ok nmX5 7 (by decide) (List.mem_of_getElem? (i := 8) rfl) rfl rfl (tyX5_ok 7 (by decide)) rfl rfl (Nat.le_of_ble_eq_true rfl) 3 (z_sv hv) dX5_endJobNow_96 (fun Z9 H locs eZ9 hG => ?_)
      replace hw := hw Z9 eZ9
      exact z_vret hF hG hr hlk hw dX5_endJobNow_99
    replace hw := hw.2 c5
    refine lv_aload_n hx hb dX5_endJobNow_40 rfl (lv_at hl 0 rfl) ?_
    refine z_get hF hG v (zc_sv hv) (z_sv hv) rfl in5 11 (by decide) (List.mem_of_getElem? (i := 3) rfl) rfl rfl dX5_endJobNow_41 ?_
    refine lv_iload_n hx hb dX5_endJobNow_44 rfl (lv_at hl 1 rfl) ?_
    refine lv_aload_n hx hb dX5_endJobNow_45 rfl (lv_at hl 0 rfl) ?_
    refine z_get hF hG v (zc_sv hv) (z_sv hv) rfl in5 11 (by decide) (List.mem_of_getElem? (i := 3) rfl) rfl rfl dX5_endJobNow_46 ?_
    refine lv_iload_n hx hb dX5_endJobNow_49 rfl (lv_at hl 1 rfl) ?_
    refine lv_iconst (v := 1) hx hb dX5_endJobNow_50 (by decide) ?_
    refine lv_iadd hx hb dX5_endJobNow_51 ?_
    obtain ⟨q10, hw⟩ := hw
    refine z_iald hF hG (18 + v) (zc_wk hv) (z_wk hv) q10 dX5_endJobNow_52 ?_
    obtain ⟨q11, hw⟩ := hw
    refine z_iast hF hG (18 + v) (zc_wk hv) (fun _ => (z_wk hv)) q11 dX5_endJobNow_53 (fun Z12 H locs eZ12 hG => ?_)
    replace hw := hw Z12 eZ12
    refine lv_aload_n hx hb dX5_endJobNow_54 rfl (lv_at hl 0 rfl) ?_
    refine z_get hF hG v (zc_sv hv) (z_sv hv) rfl in5 12 (by decide) (List.mem_of_getElem? (i := 4) rfl) rfl rfl dX5_endJobNow_55 ?_
    refine lv_iload_n hx hb dX5_endJobNow_58 rfl (lv_at hl 1 rfl) ?_
    refine lv_aload_n hx hb dX5_endJobNow_59 rfl (lv_at hl 0 rfl) ?_
    refine z_get hF hG v (zc_sv hv) (z_sv hv) rfl in5 12 (by decide) (List.mem_of_getElem? (i := 4) rfl) rfl rfl dX5_endJobNow_60 ?_
    refine lv_iload_n hx hb dX5_endJobNow_63 rfl (lv_at hl 1 rfl) ?_
    refine lv_iconst (v := 1) hx hb dX5_endJobNow_64 (by decide) ?_
    refine lv_iadd hx hb dX5_endJobNow_65 ?_
    obtain ⟨q13, hw⟩ := hw
    refine z_iald hF hG (36 + v) (zc_lk hv) (z_lk hv) q13 dX5_endJobNow_66 ?_
    obtain ⟨q14, hw⟩ := hw
    refine z_iast hF hG (36 + v) (zc_lk hv) (fun _ => (z_lk hv)) q14 dX5_endJobNow_67 (fun Z15 H locs eZ15 hG => ?_)
    replace hw := hw Z15 eZ15
    obtain ⟨y16, ey16⟩ : ∃ y : Int32, y = x1 + 1 := ⟨_, rfl⟩
    replace hw := hw y16 ey16
    refine lv_iinc (v := y16) (lv' := [(1, .int y16), (0, .ref (E.2.1 v))]) hx hb dX5_endJobNow_68 hl (k := 1) rfl (by rw [ey16]; rfl) (by decide) rfl (fun ls hl => ?_)
    refine lv_goto (tgt := 32) hx hb dX5_endJobNow_71 (by decide) ?_
    exact ih32 y16 Z15 _ _ _ hG (lv_sub hl [1, 0] rfl) hw
  have J32 : ∀ n : Nat, ∀ (x1 : Int32) (Z : zS) (H : Heap) (locs : List Loc) (ls : Array Slot), zG E Z s H locs → lv_has ls 2 [(0, .ref (E.2.1 v)), (1, .int x1)] → wX5_endJobNow_32 v K n x1 Z → W p l e R s m args below meth c H locs 0 0 (zQv E K below args s) (F0 m 32 ls []) := by
    intro n
    induction n with
    | zero => intro x1 Z H locs ls hG hl hw; exact hw.elim
    | succ n ih => intro x1 Z H locs ls hG hl hw; exact S32 _ ih x1 Z H locs ls hG hl hw
  have J20 : ∀ (Z : zS) (H : Heap) (locs : List Loc) (ls : Array Slot), zG E Z s H locs → lv_has ls 2 [(0, .ref (E.2.1 v))] → wX5_endJobNow_20 v Z K → W p l e R s m args below meth c H locs 0 0 (zQv E K below args s) (F0 m 20 ls []) := by
    intro Z H locs ls hG hl hw
    unfold wX5_endJobNow_20 at hw
    refine lv_aload_n hx hb dX5_endJobNow_20 rfl (lv_at hl 0 rfl) ?_
    refine lv_dup hx hb dX5_endJobNow_21 rfl ?_
    refine z_get hF hG v (zc_sv hv) (z_sv hv) rfl in5 10 (by decide) (List.mem_of_getElem? (i := 2) rfl) rfl rfl dX5_endJobNow_22 ?_
    refine lv_iconst (v := 1) hx hb dX5_endJobNow_25 (by decide) ?_
    refine lv_isub hx hb dX5_endJobNow_26 ?_
    refine z_put hF hG v (zc_sv hv) (z_sv hv) rfl in5 tyX5_ok nmX5 10 (by decide) (List.mem_of_getElem? (i := 2) rfl) rfl rfl (tyX5_ok 10 (by decide)) rfl rfl (Nat.le_of_ble_eq_true rfl) (((Z v 10) - 1)) (z_sv hv) dX5_endJobNow_27 (fun Z3 H locs eZ3 hG => ?_)
    replace hw := hw Z3 eZ3
    refine lv_iconst (v := 0) hx hb dX5_endJobNow_30 (by decide) ?_
    refine lv_topi (fun y4 ey4 => ?_)
    replace hw := hw y4 ey4
    refine lv_istore_n (lv' := [(1, .int y4), (0, .ref (E.2.1 v))]) hx hb dX5_endJobNow_31 rfl hl (by decide) rfl (fun ls hl => ?_)
    obtain ⟨n32, hw⟩ := hw
    exact J32 n32 y4 Z3 _ _ _ hG (lv_sub hl [1, 0] rfl) hw
  unfold wX5_endJobNow at hw
  refine lv_aload_n hx hb dX5_endJobNow_0 rfl (lv_at hl 0 rfl) ?_
  refine z_get hF hG v (zc_sv hv) (z_sv hv) rfl in5 9 (by decide) (List.mem_of_getElem? (i := 1) rfl) rfl rfl dX5_endJobNow_1 ?_
  refine lv_sipush (v := 999) hx hb dX5_endJobNow_4 (by decide) ?_
  refine lv_icmp_ge (tgt := 20) hx hb dX5_endJobNow_7 (by decide) (fun c1 => ?_) (fun c1 => ?_)
  · replace hw := hw.1 c1
    exact J20  Z _ _ _ hG (lv_sub hl [0] rfl) hw
  replace hw := hw.2 c1
  refine lv_aload_n hx hb dX5_endJobNow_10 rfl (lv_at hl 0 rfl) ?_
  refine lv_dup hx hb dX5_endJobNow_11 rfl ?_
  refine z_get hF hG v (zc_sv hv) (z_sv hv) rfl in5 9 (by decide) (List.mem_of_getElem? (i := 1) rfl) rfl rfl dX5_endJobNow_12 ?_
  refine lv_iconst (v := 1) hx hb dX5_endJobNow_15 (by decide) ?_
  refine lv_iadd hx hb dX5_endJobNow_16 ?_
  refine z_put hF hG v (zc_sv hv) (z_sv hv) rfl in5 tyX5_ok nmX5 9 (by decide) (List.mem_of_getElem? (i := 1) rfl) rfl rfl (tyX5_ok 9 (by decide)) rfl rfl (Nat.le_of_ble_eq_true rfl) (((Z v 9) + 1)) (z_sv hv) dX5_endJobNow_17 (fun Z2 H locs eZ2 hG => ?_)
  replace hw := hw Z2 eZ2
  exact J20  Z2 _ _ _ hG (lv_sub hl [0] rfl) hw
theorem hS_yX5_endJobNow : yX5_endJobNow.cls ≠ "java/lang/invoke/MethodHandle" ∧ yX5_endJobNow.cls ≠ "java/lang/invoke/VarHandle" ∧ (parseMethodDescriptor yX5_endJobNow.desc).map (fun d => d.parameters.length) = some 0 := by decide +kernel
set_option maxHeartbeats 4000000 in
set_option maxRecDepth 100000 in
theorem kX5_runJobNow (l : Launch) (E : zE) (Z : zS) (v : Nat) (a1 : Int32) (hv : v < 18) {K : zS → Prop} (hw : wX5_runJobNow v a1 Z K) : zCv l yX5_runJobNow wsX5_runJobNow ({ frames := 1, cells := 0, slots := 0, locals := 21 } : Room) E Z [.ref (E.2.1 v), .int a1] K := by
  refine z_bodyv (cc := cX5_runJobNow) (nL := 2) (by decide) rfl (Nat.le_of_ble_eq_true rfl) ?_
  intro p e R s m args below meth c ls hfr hlo hF hr hlk hG hl
  have hx := hF.1.1
  have hb := hF.1.2.1
  have hown := hF.1.2.2.2.1
  have hts := hF.1.2.2.2.2
  have in5 : ∀ w ∈ u_ws RX5 TX5 15, w ∈ wsX5_runJobNow := fun _ h => List.mem_cons_of_mem _ (List.mem_append_right _ h)
  have hl : lv_has ls 2 [(0, .ref (E.2.1 v)), (1, .int a1)] := hl
  have J65 : ∀ (Z : zS) (H : Heap) (locs : List Loc) (ls : Array Slot), zG E Z s H locs → lv_has ls 2 [(0, .ref (E.2.1 v))] → wX5_runJobNow_65 v a1 Z K → W p l e R s m args below meth c H locs 0 0 (zQv E K below args s) (F0 m 65 ls []) := by
    intro Z H locs ls hG hl hw
    unfold wX5_runJobNow_65 at hw
    refine lv_aload_n hx hb dX5_runJobNow_65 rfl (lv_at hl 0 rfl) ?_
    refine z_get hF hG v (zc_sv hv) (z_sv hv) rfl in5 11 (by decide) (List.mem_of_getElem? (i := 2) rfl) rfl rfl dX5_runJobNow_66 ?_
    refine lv_iconst (v := 0) hx hb dX5_runJobNow_69 (by decide) ?_
    obtain ⟨q11, hw⟩ := hw
    refine z_iald hF hG (18 + v) (zc_wk hv) (z_wk hv) q11 dX5_runJobNow_70 ?_
    refine lv_if_gt (tgt := 78) hx hb dX5_runJobNow_71 (by decide) (fun c12 => ?_) (fun c12 => ?_)
    · replace hw := hw.1 c12
      exact z_vret hF hG hr hlk hw dX5_runJobNow_78
    replace hw := hw.2 c12
    refine lv_aload_n hx hb dX5_runJobNow_74 rfl (lv_at hl 0 rfl) ?_
    refine z_cv (va_runV (rest := []) hF.1 (kX5_endJobNow l E Z v hv hw _) (cwV 0 hts gX5_runJobNow_X5_endJobNow rfl rfl rfl ⟨rfl, hS_yX5_endJobNow⟩ ⟨Nat.le_trans (Nat.le_of_ble_eq_true rfl) hfr, Nat.le_trans (Nat.le_of_ble_eq_true rfl) hlo⟩) (z_preV hF hG v (zc_sv hv) (z_sv hv) rfl) rfl rfl hl.1 rfl (lv_room (Nat.le_of_ble_eq_true rfl)) dX5_runJobNow_75 ⟨Nat.zero_le _, Nat.zero_le _⟩) hG (fun Z13 H locs hw hG => ?_)
    exact z_vret hF hG hr hlk hw dX5_runJobNow_78
  have J34 : ∀ (s0 : Int32) (Z : zS) (H : Heap) (locs : List Loc) (ls : Array Slot), zG E Z s H locs → lv_has ls 2 [(0, .ref (E.2.1 v)), (1, .int a1)] → wX5_runJobNow_34 v a1 s0 Z K → W p l e R s m args below meth c H locs 0 0 (zQv E K below args s) (F0 m 34 ls [.int s0, .ref (E.2.1 v)]) := by
    intro s0 Z H locs ls hG hl hw
    unfold wX5_runJobNow_34 at hw
    have hbo := hw.1
    replace hw := hw.2
    refine z_put hF hG v (zc_sv hv) (z_sv hv) rfl in5 tyX5_ok nmX5 13 (by decide) (List.mem_of_getElem? (i := 4) rfl) rfl rfl (tyX5_ok 13 (by decide)) (zBo.n hbo) (zBo.t hbo) (Nat.le_of_ble_eq_true rfl) s0 (z_sv hv) dX5_runJobNow_34 (fun Z7 H locs eZ7 hG => ?_)
    replace hw := hw Z7 eZ7
    refine lv_iload_n hx hb dX5_runJobNow_37 rfl (lv_at hl 1 rfl) ?_
    refine lv_aload_n hx hb dX5_runJobNow_38 rfl (lv_at hl 0 rfl) ?_
    refine z_get hF hG v (zc_sv hv) (z_sv hv) rfl in5 14 (by decide) (List.mem_of_getElem? (i := 5) rfl) rfl rfl dX5_runJobNow_39 ?_
    refine lv_icmp_lt (tgt := 65) hx hb dX5_runJobNow_42 (by decide) (fun c8 => ?_) (fun c8 => ?_)
    · replace hw := hw.1 c8
      exact J65  Z7 _ _ _ hG (lv_sub hl [0] rfl) hw
    replace hw := hw.2 c8
    refine lv_aload_n hx hb dX5_runJobNow_45 rfl (lv_at hl 0 rfl) ?_
    refine z_get hF hG v (zc_sv hv) (z_sv hv) rfl in5 8 (by decide) (List.mem_of_getElem? (i := 6) rfl) rfl rfl dX5_runJobNow_46 ?_
    refine lv_sipush (v := 999) hx hb dX5_runJobNow_49 (by decide) ?_
    refine lv_icmp_ge (tgt := 65) hx hb dX5_runJobNow_52 (by decide) (fun c9 => ?_) (fun c9 => ?_)
    · replace hw := hw.1 c9
      exact J65  Z7 _ _ _ hG (lv_sub hl [0] rfl) hw
    replace hw := hw.2 c9
    refine lv_aload_n hx hb dX5_runJobNow_55 rfl (lv_at hl 0 rfl) ?_
    refine lv_dup hx hb dX5_runJobNow_56 rfl ?_
    refine z_get hF hG v (zc_sv hv) (z_sv hv) rfl in5 8 (by decide) (List.mem_of_getElem? (i := 6) rfl) rfl rfl dX5_runJobNow_57 ?_
    refine lv_iconst (v := 1) hx hb dX5_runJobNow_60 (by decide) ?_
    refine lv_iadd hx hb dX5_runJobNow_61 ?_
    refine z_put hF hG v (zc_sv hv) (z_sv hv) rfl in5 tyX5_ok nmX5 8 (by decide) (List.mem_of_getElem? (i := 6) rfl) rfl rfl (tyX5_ok 8 (by decide)) rfl rfl (Nat.le_of_ble_eq_true rfl) (((Z7 v 8) + 1)) (z_sv hv) dX5_runJobNow_62 (fun Z10 H locs eZ10 hG => ?_)
    replace hw := hw Z10 eZ10
    exact J65  Z10 _ _ _ hG (lv_sub hl [0] rfl) hw
  unfold wX5_runJobNow at hw
  refine lv_aload_n hx hb dX5_runJobNow_0 rfl (lv_at hl 0 rfl) ?_
  refine z_get hF hG v (zc_sv hv) (z_sv hv) rfl in5 10 (by decide) (List.mem_of_getElem? (i := 1) rfl) rfl rfl dX5_runJobNow_1 ?_
  refine lv_if_ne (tgt := 8) hx hb dX5_runJobNow_4 (by decide) (fun c1 => ?_) (fun c1 => ?_)
  · replace hw := hw.1 c1
    refine lv_aload_n hx hb dX5_runJobNow_8 rfl (lv_at hl 0 rfl) ?_
    refine z_get hF hG v (zc_sv hv) (z_sv hv) rfl in5 11 (by decide) (List.mem_of_getElem? (i := 2) rfl) rfl rfl dX5_runJobNow_9 ?_
    refine lv_iconst (v := 0) hx hb dX5_runJobNow_12 (by decide) ?_
    refine lv_dup2_11 hx hb dX5_runJobNow_13 rfl rfl ?_
    obtain ⟨q2, hw⟩ := hw
    refine z_iald hF hG (18 + v) (zc_wk hv) (z_wk hv) q2 dX5_runJobNow_14 ?_
    refine lv_iconst (v := 1) hx hb dX5_runJobNow_15 (by decide) ?_
    refine lv_isub hx hb dX5_runJobNow_16 ?_
    obtain ⟨q3, hw⟩ := hw
    refine z_iast hF hG (18 + v) (zc_wk hv) (fun _ => (z_wk hv)) q3 dX5_runJobNow_17 (fun Z4 H locs eZ4 hG => ?_)
    replace hw := hw Z4 eZ4
    refine lv_aload_n hx hb dX5_runJobNow_18 rfl (lv_at hl 0 rfl) ?_
    refine lv_aload_n hx hb dX5_runJobNow_19 rfl (lv_at hl 0 rfl) ?_
    refine z_get hF hG v (zc_sv hv) (z_sv hv) rfl in5 12 (by decide) (List.mem_of_getElem? (i := 3) rfl) rfl rfl dX5_runJobNow_20 ?_
    refine lv_iconst (v := 0) hx hb dX5_runJobNow_23 (by decide) ?_
    obtain ⟨q5, hw⟩ := hw
    refine z_iald hF hG (36 + v) (zc_lk hv) (z_lk hv) q5 dX5_runJobNow_24 ?_
    refine lv_iconst (v := 3) hx hb dX5_runJobNow_25 (by decide) ?_
    refine lv_icmp_eq (tgt := 33) hx hb dX5_runJobNow_26 (by decide) (fun c6 => ?_) (fun c6 => ?_)
    · replace hw := hw.1 c6
      refine lv_iconst (v := 0) hx hb dX5_runJobNow_33 (by decide) ?_
      exact J34 0 Z4 _ _ _ hG (lv_sub hl [0, 1] rfl) hw
    replace hw := hw.2 c6
    refine lv_iconst (v := 1) hx hb dX5_runJobNow_29 (by decide) ?_
    refine lv_goto (tgt := 34) hx hb dX5_runJobNow_30 (by decide) ?_
    exact J34 1 Z4 _ _ _ hG (lv_sub hl [0, 1] rfl) hw
  replace hw := hw.2 (fun h => h c1)
  exact z_vret hF hG hr hlk hw dX5_runJobNow_7
set_option maxHeartbeats 4000000 in
set_option maxRecDepth 100000 in
theorem kX7_pays (l : Launch) (E : zE) (Z : zS) (v : Int32) (u1 : Nat) (a2 : Int32) (hu1 : u1 < 18) {K : Int32 → zS → Prop} (hw : wX7_pays v u1 a2 Z K) : zCi l yX7_pays wsX7_pays ({ frames := 2, cells := 0, slots := 0, locals := 35 } : Room) E Z [.ref (E.2.1 (84 + (v : Int32).toNatClampNeg)), .ref (E.2.1 u1), .int a2] K := by
  refine z_bodyi (cc := cX7_pays) (nL := 3) (ret := .int) (by decide) rfl (Nat.le_of_ble_eq_true rfl) ?_
  intro p e R s m args below meth c ls hfr hlo hF hr hlk hG hl
  have hx := hF.1.1
  have hb := hF.1.2.1
  have hown := hF.1.2.2.2.1
  have hts := hF.1.2.2.2.2
  have in5 : ∀ w ∈ u_ws RX5 TX5 15, w ∈ wsX7_pays := fun _ h => List.mem_cons_of_mem _ (List.mem_append_right _ h)
  have hl : lv_has ls 3 [(0, .ref (E.2.1 (84 + (v : Int32).toNatClampNeg))), (1, .ref (E.2.1 u1)), (2, .int a2)] := hl
  unfold wX7_pays at hw
  refine lv_aload_n hx hb dX7_pays_0 rfl (lv_at hl 0 rfl) ?_
  refine lv_aload_n hx hb dX7_pays_1 rfl (lv_at hl 1 rfl) ?_
  refine lv_iload_n hx hb dX7_pays_2 rfl (lv_at hl 2 rfl) ?_
  obtain ⟨hki, hw⟩ := hw
  obtain ⟨C0, cC0, hcat, hpv⟩ := z_preK hF hG (As := [.ref (E.2.1 u1), .int a2]) hki
  refine z_ci (va_runSU (rest := []) hcat hF.1 (kX0_pays l E Z v u1 a2 hu1 hw _) (va_cwSU 2 hts gX7_pays_X0_pays_s7 rfl rfl rfl ⟨by decide, hS_yX0_pays.2.2⟩ ⟨Nat.le_trans (Nat.le_of_ble_eq_true rfl) hfr, Nat.le_trans (Nat.le_of_ble_eq_true rfl) hlo⟩) hpv rfl rfl hl.1 rfl (lv_room (Nat.le_of_ble_eq_true rfl)) dX7_pays_3 ⟨Nat.zero_le _, Nat.zero_le _⟩) hG (fun r2 Z1 H locs hw hG => ?_)
  refine lv_aload_n hx hb dX7_pays_6 rfl (lv_at hl 1 rfl) ?_
  refine z_get hF hG u1 (zc_sv hu1) (z_sv hu1) rfl in5 1 (by decide) (List.mem_of_getElem? (i := 1) rfl) rfl rfl dX7_pays_7 ?_
  refine lv_isub hx hb dX7_pays_10 ?_
  refine lv_aload_n hx hb dX7_pays_11 rfl (lv_at hl 1 rfl) ?_
  refine z_get hF hG u1 (zc_sv hu1) (z_sv hu1) rfl in5 4 (by decide) (List.mem_of_getElem? (i := 2) rfl) rfl rfl dX7_pays_12 ?_
  refine va_mmax hx hb (hF.1.2.2.1.trans hl.1.symm) hown (hts (.methodLink RX7 20 Lib.Math.max.name) (List.mem_of_getElem? (i := 3) rfl)) (hts (.static Lib.Math.max.name) (List.mem_of_getElem? (i := 4) rfl)) (hts (.initialized "java/lang/Math") (List.mem_of_getElem? (i := 5) rfl)) (hts (.code Lib.Math.max.name Lib.Math.max.code 2 (some .int)) (List.mem_of_getElem? (i := 6) rfl)) (Nat.le_trans (Nat.le_of_ble_eq_true rfl) hfr) (Nat.le_trans (Nat.le_of_ble_eq_true rfl) hlo) (Nat.zero_le _) (Nat.zero_le _) dX7_pays_15 ?_
  exact z_iret hF hG hr hlk hw dX7_pays_18
theorem hS_yX3_holderOf : yX3_holderOf.cls ≠ "java/lang/invoke/MethodHandle" ∧ yX3_holderOf.cls ≠ "java/lang/invoke/VarHandle" ∧ (parseMethodDescriptor yX3_holderOf.desc).map (fun d => d.parameters.length) = some 1 := by decide +kernel
theorem hS_yX3_loadOfAll : yX3_loadOfAll.cls ≠ "java/lang/invoke/MethodHandle" ∧ yX3_loadOfAll.cls ≠ "java/lang/invoke/VarHandle" ∧ (parseMethodDescriptor yX3_loadOfAll.desc).map (fun d => d.parameters.length) = some 0 := by decide +kernel
theorem hS_yX1_pays : yX1_pays.cls ≠ "java/lang/invoke/MethodHandle" ∧ yX1_pays.cls ≠ "java/lang/invoke/VarHandle" ∧ (parseMethodDescriptor yX1_pays.desc).map (fun d => d.parameters.length) = some 2 := by decide +kernel
theorem hS_yX7_pays : yX7_pays.cls ≠ "java/lang/invoke/MethodHandle" ∧ yX7_pays.cls ≠ "java/lang/invoke/VarHandle" ∧ (parseMethodDescriptor yX7_pays.desc).map (fun d => d.parameters.length) = some 2 := by decide +kernel
theorem hS_yX2_pays : yX2_pays.cls ≠ "java/lang/invoke/MethodHandle" ∧ yX2_pays.cls ≠ "java/lang/invoke/VarHandle" ∧ (parseMethodDescriptor yX2_pays.desc).map (fun d => d.parameters.length) = some 2 := by decide +kernel
theorem hS_yX5_runJobNow : yX5_runJobNow.cls ≠ "java/lang/invoke/MethodHandle" ∧ yX5_runJobNow.cls ≠ "java/lang/invoke/VarHandle" ∧ (parseMethodDescriptor yX5_runJobNow.desc).map (fun d => d.parameters.length) = some 1 := by decide +kernel
theorem hS_yX1_refill : yX1_refill.cls ≠ "java/lang/invoke/MethodHandle" ∧ yX1_refill.cls ≠ "java/lang/invoke/VarHandle" ∧ (parseMethodDescriptor yX1_refill.desc).map (fun d => d.parameters.length) = some 1 := by decide +kernel
theorem hS_yX4_refill : yX4_refill.cls ≠ "java/lang/invoke/MethodHandle" ∧ yX4_refill.cls ≠ "java/lang/invoke/VarHandle" ∧ (parseMethodDescriptor yX4_refill.desc).map (fun d => d.parameters.length) = some 1 := by decide +kernel
set_option maxHeartbeats 4000000 in
set_option maxRecDepth 100000 in
theorem kX3_runChosen (l : Launch) (E : zE) (Z : zS) (v : Nat) (hv : v < 3) {K : zS → Prop} (hw : wX3_runChosen v Z K) : zCv l yX3_runChosen wsX3_runChosen ({ frames := 3, cells := 0, slots := 0, locals := 57 } : Room) E Z [.ref (E.2.1 (54 + v))] K := by
  refine z_bodyv (cc := cX3_runChosen) (nL := 3) (by decide) rfl (Nat.le_of_ble_eq_true rfl) ?_
  intro p e R s m args below meth c ls hfr hlo hF hr hlk hG hl
  have hx := hF.1.1
  have hb := hF.1.2.1
  have hown := hF.1.2.2.2.1
  have hts := hF.1.2.2.2.2
  have in3 : ∀ w ∈ u_ws RX3 TX3 5, w ∈ wsX3_runChosen := fun _ h => List.mem_cons_of_mem _ (List.mem_append_left _ (List.mem_append_right _ h))
  have in5 : ∀ w ∈ u_ws RX5 TX5 15, w ∈ wsX3_runChosen := fun _ h => List.mem_cons_of_mem _ (List.mem_append_right _ h)
  have hl : lv_has ls 3 [(0, .ref (E.2.1 (54 + v)))] := hl
  have J36 : ∀ (v1 : Nat) (s0 : Int32) (Z : zS) (H : Heap) (locs : List Loc) (ls : Array Slot), v1 < 18 → zG E Z s H locs → lv_has ls 3 [(0, .ref (E.2.1 (54 + v))), (1, .ref (E.2.1 v1))] → wX3_runChosen_36 v v1 s0 Z K → W p l e R s m args below meth c H locs 0 0 (zQv E K below args s) (F0 m 36 ls [.int s0, .ref (E.2.1 (54 + v))]) := by
    intro v1 s0 Z H locs ls hv1 hG hl hw
    unfold wX3_runChosen_36 at hw
    refine z_put hF hG (54 + v) (zc_pl hv) (z_pl hv) rfl in3 tyX3_ok nmX3 4 (by decide) (List.mem_of_getElem? (i := 4) rfl) rfl rfl (tyX3_ok 4 (by decide)) rfl rfl (Nat.le_of_ble_eq_true rfl) s0 (z_pl hv) dX3_runChosen_36 (fun Z7 H locs eZ7 hG => ?_)
    replace hw := hw Z7 eZ7
    refine lv_aload_n hx hb dX3_runChosen_39 rfl (lv_at hl 1 rfl) ?_
    refine lv_dup hx hb dX3_runChosen_40 rfl ?_
    refine z_get hF hG v1 (zc_sv hv1) (z_sv hv1) rfl in5 5 (by decide) (List.mem_of_getElem? (i := 5) rfl) rfl rfl dX3_runChosen_41 ?_
    refine lv_aload_n hx hb dX3_runChosen_44 rfl (lv_at hl 1 rfl) ?_
    refine z_get (v := .ref (E.2.1 (84 + ((Z7 v1 0) : Int32).toNatClampNeg))) hF hG v1 (zc_sv hv1) (z_sv hv1) rfl in5 0 (by decide) (List.mem_of_getElem? (i := 6) rfl) rfl rfl dX3_runChosen_45 ?_
    refine lv_aload_n hx hb dX3_runChosen_48 rfl (lv_at hl 1 rfl) ?_
    refine lv_aload_n hx hb dX3_runChosen_49 rfl (lv_at hl 0 rfl) ?_
    refine z_ci (va_runV (rest := [.ref (E.2.1 v1), .ref (E.2.1 (84 + ((Z7 v1 0) : Int32).toNatClampNeg)), .int ((Z7 v1 5)), .ref (E.2.1 v1)]) hF.1 (kX3_loadOfAll l E Z7 v hv hw _) (cwV 0 hts gX3_runChosen_X3_loadOfAll rfl rfl rfl ⟨rfl, hS_yX3_loadOfAll⟩ ⟨Nat.le_trans (Nat.le_of_ble_eq_true rfl) hfr, Nat.le_trans (Nat.le_of_ble_eq_true rfl) hlo⟩) (z_preV hF hG (54 + v) (zc_pl hv) (z_pl hv) rfl) rfl rfl hl.1 rfl (lv_room (Nat.le_of_ble_eq_true rfl)) dX3_runChosen_50 ⟨Nat.zero_le _, Nat.zero_le _⟩) hG (fun r9 Z8 H locs hw hG => ?_)
    obtain ⟨K1, hK1, hw⟩ : ∃ K1, _ = K1 ∧ d_pays ((Z7 v1 0)) v1 r9 Z8 K1 := ⟨_, rfl, hw⟩
    have hrun : va_Run p l e R s m args below meth c H locs 0 0 0 0 (F0 m 53 ls [.int r9, .ref (E.2.1 v1), .ref (E.2.1 (84 + ((Z7 v1 0) : Int32).toNatClampNeg)), .int ((Z7 v1 5)), .ref (E.2.1 v1)]) [.int ((Z7 v1 5)), .ref (E.2.1 v1)] (va_Qi K1 (zB E) (zA E H.size) ([.ref (E.2.1 (84 + ((Z7 v1 0) : Int32).toNatClampNeg)), .ref (E.2.1 v1), .int r9] : List Value).toArray) (zA E H.size) := by
      rcases hw.1 with h | h | h | h | h | h
      · exact va_runV hF.1 (kX1_pays l E Z8 ((Z7 v1 0)) v1 r9 hv1 (hw.2.1 h) _) (cwV 2 hts gX3_runChosen_X1_pays rfl rfl rfl ⟨rfl, hS_yX1_pays⟩ ⟨Nat.le_trans (Nat.le_of_ble_eq_true rfl) hfr, Nat.le_trans (Nat.le_of_ble_eq_true rfl) hlo⟩) (z_preV hF hG (84 + ((Z7 v1 0) : Int32).toNatClampNeg) (zKi.lt hw.1) (z_k0 h) rfl) rfl rfl hl.1 rfl (lv_room (Nat.le_of_ble_eq_true rfl)) dX3_runChosen_53 ⟨Nat.zero_le _, Nat.zero_le _⟩
      · exact va_runU hF.1 (kX0_pays l E Z8 ((Z7 v1 0)) v1 r9 hv1 (hw.2.2.1 h) _) (va_cwO 2 hts gX3_runChosen_X0_pays_u103X0 rfl rfl rfl (b0 := cX1_pays) (m0 := 3) (r0 := (some .int)) (List.mem_of_getElem? (i := 43) rfl) hS_yX1_pays ⟨Nat.le_trans (Nat.le_of_ble_eq_true rfl) hfr, Nat.le_trans (Nat.le_of_ble_eq_true rfl) hlo⟩) (z_preV hF hG (84 + ((Z7 v1 0) : Int32).toNatClampNeg) (zKi.lt hw.1) (z_k1 h) rfl) rfl rfl hl.1 rfl (lv_room (Nat.le_of_ble_eq_true rfl)) dX3_runChosen_53 ⟨Nat.zero_le _, Nat.zero_le _⟩
      · exact va_runU hF.1 (kX1_pays l E Z8 ((Z7 v1 0)) v1 r9 hv1 (hw.2.2.2.1 h) _) (va_cwU 2 hts gX3_runChosen_X1_pays_u103X4 rfl rfl rfl rfl hS_yX1_pays ⟨Nat.le_trans (Nat.le_of_ble_eq_true rfl) hfr, Nat.le_trans (Nat.le_of_ble_eq_true rfl) hlo⟩) (z_preV hF hG (84 + ((Z7 v1 0) : Int32).toNatClampNeg) (zKi.lt hw.1) (z_k2 h) rfl) rfl rfl hl.1 rfl (lv_room (Nat.le_of_ble_eq_true rfl)) dX3_runChosen_53 ⟨Nat.zero_le _, Nat.zero_le _⟩
      · exact va_runU hF.1 (kX7_pays l E Z8 ((Z7 v1 0)) v1 r9 hv1 (hw.2.2.2.2.1 h) _) (va_cwO 2 hts gX3_runChosen_X7_pays_u103X7 rfl rfl rfl (b0 := cX1_pays) (m0 := 3) (r0 := (some .int)) (List.mem_of_getElem? (i := 43) rfl) hS_yX1_pays ⟨Nat.le_trans (Nat.le_of_ble_eq_true rfl) hfr, Nat.le_trans (Nat.le_of_ble_eq_true rfl) hlo⟩) (z_preV hF hG (84 + ((Z7 v1 0) : Int32).toNatClampNeg) (zKi.lt hw.1) (z_k3 h) rfl) rfl rfl hl.1 rfl (lv_room (Nat.le_of_ble_eq_true rfl)) dX3_runChosen_53 ⟨Nat.zero_le _, Nat.zero_le _⟩
      · exact va_runU hF.1 (kX2_pays l E Z8 ((Z7 v1 0)) v1 r9 hv1 (hw.2.2.2.2.2.1 h) _) (va_cwO 2 hts gX3_runChosen_X2_pays_u103X2 rfl rfl rfl (b0 := cX1_pays) (m0 := 3) (r0 := (some .int)) (List.mem_of_getElem? (i := 43) rfl) hS_yX1_pays ⟨Nat.le_trans (Nat.le_of_ble_eq_true rfl) hfr, Nat.le_trans (Nat.le_of_ble_eq_true rfl) hlo⟩) (z_preV hF hG (84 + ((Z7 v1 0) : Int32).toNatClampNeg) (zKi.lt hw.1) (z_k4 h) rfl) rfl rfl hl.1 rfl (lv_room (Nat.le_of_ble_eq_true rfl)) dX3_runChosen_53 ⟨Nat.zero_le _, Nat.zero_le _⟩
      · exact va_runU hF.1 (kX1_pays l E Z8 ((Z7 v1 0)) v1 r9 hv1 (hw.2.2.2.2.2.2 h) _) (va_cwU 2 hts gX3_runChosen_X1_pays_u103X9 rfl rfl rfl rfl hS_yX1_pays ⟨Nat.le_trans (Nat.le_of_ble_eq_true rfl) hfr, Nat.le_trans (Nat.le_of_ble_eq_true rfl) hlo⟩) (z_preV hF hG (84 + ((Z7 v1 0) : Int32).toNatClampNeg) (zKi.lt hw.1) (z_k5 h) rfl) rfl rfl hl.1 rfl (lv_room (Nat.le_of_ble_eq_true rfl)) dX3_runChosen_53 ⟨Nat.zero_le _, Nat.zero_le _⟩
    subst hK1
    refine z_ci hrun hG (fun r11 Z10 H locs hw hG => ?_)
    refine lv_isub hx hb dX3_runChosen_56 ?_
    refine z_put hF hG v1 (zc_sv hv1) (z_sv hv1) rfl in5 tyX5_ok nmX5 5 (by decide) (List.mem_of_getElem? (i := 5) rfl) rfl rfl (tyX5_ok 5 (by decide)) rfl rfl (Nat.le_of_ble_eq_true rfl) (((Z7 v1 5) - r11)) (z_sv hv1) dX3_runChosen_57 (fun Z12 H locs eZ12 hG => ?_)
    replace hw := hw Z12 eZ12
    refine lv_aload_n hx hb dX3_runChosen_60 rfl (lv_at hl 0 rfl) ?_
    refine z_get hF hG (54 + v) (zc_pl hv) (z_pl hv) rfl in3 0 (by decide) (List.mem_of_getElem? (i := 1) rfl) rfl rfl dX3_runChosen_61 ?_
    refine lv_aload_n hx hb dX3_runChosen_64 rfl (lv_at hl 0 rfl) ?_
    refine z_get hF hG (54 + v) (zc_pl hv) (z_pl hv) rfl in3 4 (by decide) (List.mem_of_getElem? (i := 4) rfl) rfl rfl dX3_runChosen_65 ?_
    obtain ⟨q13, hw⟩ := hw
    refine z_aald hF hG (57 + v) 1 (zc_pr hv) (z_pr hv) rfl q13 rfl dX3_runChosen_68 ?_
    refine lv_aload_n hx hb dX3_runChosen_69 rfl (lv_at hl 0 rfl) ?_
    refine z_get hF hG (54 + v) (zc_pl hv) (z_pl hv) rfl in3 2 (by decide) (List.mem_of_getElem? (i := 7) rfl) rfl rfl dX3_runChosen_70 ?_
    refine z_cv (va_runV (rest := []) hF.1 (kX5_runJobNow l E Z12 ((6 * v + ((Z12 (54 + v) 4) : Int32).toNatClampNeg)) ((Z12 (54 + v) 2)) (z_vb hv q13) hw _) (cwV 1 hts gX3_runChosen_X5_runJobNow rfl rfl rfl ⟨rfl, hS_yX5_runJobNow⟩ ⟨Nat.le_trans (Nat.le_of_ble_eq_true rfl) hfr, Nat.le_trans (Nat.le_of_ble_eq_true rfl) hlo⟩) (z_preV hF hG (6 * v + ((Z12 (54 + v) 4) : Int32).toNatClampNeg) (zc_sv (z_vb hv q13)) (z_sv (z_vb hv q13)) rfl) rfl rfl hl.1 rfl (lv_room (Nat.le_of_ble_eq_true rfl)) dX3_runChosen_73 ⟨Nat.zero_le _, Nat.zero_le _⟩) hG (fun Z14 H locs hw hG => ?_)
    refine lv_aload_n hx hb dX3_runChosen_76 rfl (lv_at hl 1 rfl) ?_
    refine z_get hF hG v1 (zc_sv hv1) (z_sv hv1) rfl in5 7 (by decide) (List.mem_of_getElem? (i := 8) rfl) rfl rfl dX3_runChosen_77 ?_
    refine lv_iconst (v := 1) hx hb dX3_runChosen_80 (by decide) ?_
    refine lv_icmp_ne (tgt := 99) hx hb dX3_runChosen_81 (by decide) (fun c15 => ?_) (fun c15 => ?_)
    · replace hw := hw.1 c15
      exact z_vret hF hG hr hlk hw dX3_runChosen_99
    replace hw := hw.2 (fun h => h c15)
    refine lv_aload_n hx hb dX3_runChosen_84 rfl (lv_at hl 1 rfl) ?_
    refine z_get hF hG v1 (zc_sv hv1) (z_sv hv1) rfl in5 5 (by decide) (List.mem_of_getElem? (i := 5) rfl) rfl rfl dX3_runChosen_85 ?_
    refine lv_if_gt (tgt := 99) hx hb dX3_runChosen_88 (by decide) (fun c16 => ?_) (fun c16 => ?_)
    · replace hw := hw.1 c16
      exact z_vret hF hG hr hlk hw dX3_runChosen_99
    replace hw := hw.2 c16
    refine lv_aload_n hx hb dX3_runChosen_91 rfl (lv_at hl 1 rfl) ?_
    refine z_get (v := .ref (E.2.1 (84 + ((Z14 v1 0) : Int32).toNatClampNeg))) hF hG v1 (zc_sv hv1) (z_sv hv1) rfl in5 0 (by decide) (List.mem_of_getElem? (i := 6) rfl) rfl rfl dX3_runChosen_92 ?_
    refine lv_aload_n hx hb dX3_runChosen_95 rfl (lv_at hl 1 rfl) ?_
    obtain ⟨K1, hK1, hw⟩ : ∃ K1, _ = K1 ∧ d_refill ((Z14 v1 0)) v1 Z14 K1 := ⟨_, rfl, hw⟩
    have hrun : va_Run p l e R s m args below meth c H locs 0 0 0 0 (F0 m 96 ls [.ref (E.2.1 v1), .ref (E.2.1 (84 + ((Z14 v1 0) : Int32).toNatClampNeg))]) [] (va_Qv K1 (zB E) (zA E H.size) ([.ref (E.2.1 (84 + ((Z14 v1 0) : Int32).toNatClampNeg)), .ref (E.2.1 v1)] : List Value).toArray) (zA E H.size) := by
      rcases hw.1 with h | h | h | h | h | h
      · exact va_runV hF.1 (kX1_refill l E Z14 ((Z14 v1 0)) v1 hv1 (hw.2.1 h) _) (cwV 1 hts gX3_runChosen_X1_refill rfl rfl rfl ⟨rfl, hS_yX1_refill⟩ ⟨Nat.le_trans (Nat.le_of_ble_eq_true rfl) hfr, Nat.le_trans (Nat.le_of_ble_eq_true rfl) hlo⟩) (z_preV hF hG (84 + ((Z14 v1 0) : Int32).toNatClampNeg) (zKi.lt hw.1) (z_k0 h) rfl) rfl rfl hl.1 rfl (lv_room (Nat.le_of_ble_eq_true rfl)) dX3_runChosen_96 ⟨Nat.zero_le _, Nat.zero_le _⟩
      · exact va_runU hF.1 (kX1_refill l E Z14 ((Z14 v1 0)) v1 hv1 (hw.2.2.1 h) _) (va_cwU 1 hts gX3_runChosen_X1_refill_u111X0 rfl rfl rfl rfl hS_yX1_refill ⟨Nat.le_trans (Nat.le_of_ble_eq_true rfl) hfr, Nat.le_trans (Nat.le_of_ble_eq_true rfl) hlo⟩) (z_preV hF hG (84 + ((Z14 v1 0) : Int32).toNatClampNeg) (zKi.lt hw.1) (z_k1 h) rfl) rfl rfl hl.1 rfl (lv_room (Nat.le_of_ble_eq_true rfl)) dX3_runChosen_96 ⟨Nat.zero_le _, Nat.zero_le _⟩
      · exact va_runU hF.1 (kX4_refill l E Z14 ((Z14 v1 0)) v1 hv1 (hw.2.2.2.1 h) _) (va_cwO 1 hts gX3_runChosen_X4_refill_u111X4 rfl rfl rfl (b0 := cX1_refill) (m0 := 3) (r0 := none) (List.mem_of_getElem? (i := 84) rfl) hS_yX1_refill ⟨Nat.le_trans (Nat.le_of_ble_eq_true rfl) hfr, Nat.le_trans (Nat.le_of_ble_eq_true rfl) hlo⟩) (z_preV hF hG (84 + ((Z14 v1 0) : Int32).toNatClampNeg) (zKi.lt hw.1) (z_k2 h) rfl) rfl rfl hl.1 rfl (lv_room (Nat.le_of_ble_eq_true rfl)) dX3_runChosen_96 ⟨Nat.zero_le _, Nat.zero_le _⟩
      · exact va_runU hF.1 (kX1_refill l E Z14 ((Z14 v1 0)) v1 hv1 (hw.2.2.2.2.1 h) _) (va_cwU 1 hts gX3_runChosen_X1_refill_u111X7 rfl rfl rfl rfl hS_yX1_refill ⟨Nat.le_trans (Nat.le_of_ble_eq_true rfl) hfr, Nat.le_trans (Nat.le_of_ble_eq_true rfl) hlo⟩) (z_preV hF hG (84 + ((Z14 v1 0) : Int32).toNatClampNeg) (zKi.lt hw.1) (z_k3 h) rfl) rfl rfl hl.1 rfl (lv_room (Nat.le_of_ble_eq_true rfl)) dX3_runChosen_96 ⟨Nat.zero_le _, Nat.zero_le _⟩
      · exact va_runU hF.1 (kX1_refill l E Z14 ((Z14 v1 0)) v1 hv1 (hw.2.2.2.2.2.1 h) _) (va_cwU 1 hts gX3_runChosen_X1_refill_u111X2 rfl rfl rfl rfl hS_yX1_refill ⟨Nat.le_trans (Nat.le_of_ble_eq_true rfl) hfr, Nat.le_trans (Nat.le_of_ble_eq_true rfl) hlo⟩) (z_preV hF hG (84 + ((Z14 v1 0) : Int32).toNatClampNeg) (zKi.lt hw.1) (z_k4 h) rfl) rfl rfl hl.1 rfl (lv_room (Nat.le_of_ble_eq_true rfl)) dX3_runChosen_96 ⟨Nat.zero_le _, Nat.zero_le _⟩
      · exact va_runU hF.1 (kX4_refill l E Z14 ((Z14 v1 0)) v1 hv1 (hw.2.2.2.2.2.2 h) _) (va_cwO 1 hts gX3_runChosen_X4_refill_u111X9 rfl rfl rfl (b0 := cX1_refill) (m0 := 3) (r0 := none) (List.mem_of_getElem? (i := 84) rfl) hS_yX1_refill ⟨Nat.le_trans (Nat.le_of_ble_eq_true rfl) hfr, Nat.le_trans (Nat.le_of_ble_eq_true rfl) hlo⟩) (z_preV hF hG (84 + ((Z14 v1 0) : Int32).toNatClampNeg) (zKi.lt hw.1) (z_k5 h) rfl) rfl rfl hl.1 rfl (lv_room (Nat.le_of_ble_eq_true rfl)) dX3_runChosen_96 ⟨Nat.zero_le _, Nat.zero_le _⟩
    subst hK1
    refine z_cv hrun hG (fun Z17 H locs hw hG => ?_)
    exact z_vret hF hG hr hlk hw dX3_runChosen_99
  unfold wX3_runChosen at hw
  refine lv_aload_n hx hb dX3_runChosen_0 rfl (lv_at hl 0 rfl) ?_
  refine z_get hF hG (54 + v) (zc_pl hv) (z_pl hv) rfl in3 0 (by decide) (List.mem_of_getElem? (i := 1) rfl) rfl rfl dX3_runChosen_1 ?_
  refine lv_aload_n hx hb dX3_runChosen_4 rfl (lv_at hl 0 rfl) ?_
  refine z_get hF hG (54 + v) (zc_pl hv) (z_pl hv) rfl in3 3 (by decide) (List.mem_of_getElem? (i := 2) rfl) rfl rfl dX3_runChosen_5 ?_
  obtain ⟨q1, hw⟩ := hw
  refine z_aald hF hG (57 + v) 1 (zc_pr hv) (z_pr hv) rfl q1 rfl dX3_runChosen_8 ?_
  refine z_topr (fun vv2 evv2 => ?_)
  replace hw := hw vv2 evv2
  have hvv2 : vv2 < 18 := by rw [evv2]; exact (z_vb hv q1)
  refine lv_astore_n (lv' := [(1, .ref (E.2.1 vv2)), (0, .ref (E.2.1 (54 + v)))]) hx hb dX3_runChosen_9 rfl hl (by decide) rfl (fun ls hl => ?_)
  refine lv_aload_n hx hb dX3_runChosen_10 rfl (lv_at hl 1 rfl) ?_
  refine lv_aload_n hx hb dX3_runChosen_11 rfl (lv_at hl 0 rfl) ?_
  refine z_get hF hG vv2 (zc_sv hvv2) (z_sv hvv2) rfl in5 12 (by decide) (List.mem_of_getElem? (i := 3) rfl) rfl rfl dX3_runChosen_12 ?_
  refine lv_iconst (v := 0) hx hb dX3_runChosen_15 (by decide) ?_
  obtain ⟨q3, hw⟩ := hw
  refine z_iald hF hG (36 + vv2) (zc_lk hvv2) (z_lk hvv2) q3 dX3_runChosen_16 ?_
  refine z_ci (va_runV (rest := []) hF.1 (kX3_holderOf l E Z v ((Z (36 + vv2) (0 : Int32).toNatClampNeg)) hv hw _) (cwV 1 hts gX3_runChosen_X3_holderOf rfl rfl rfl ⟨rfl, hS_yX3_holderOf⟩ ⟨Nat.le_trans (Nat.le_of_ble_eq_true rfl) hfr, Nat.le_trans (Nat.le_of_ble_eq_true rfl) hlo⟩) (z_preV hF hG (54 + v) (zc_pl hv) (z_pl hv) rfl) rfl rfl hl.1 rfl (lv_room (Nat.le_of_ble_eq_true rfl)) dX3_runChosen_17 ⟨Nat.zero_le _, Nat.zero_le _⟩) hG (fun r5 Z4 H locs hw hG => ?_)
  refine lv_istore_n (lv' := [(2, .int r5), (1, .ref (E.2.1 vv2)), (0, .ref (E.2.1 (54 + v)))]) hx hb dX3_runChosen_20 rfl hl (by decide) rfl (fun ls hl => ?_)
  refine lv_aload_n hx hb dX3_runChosen_21 rfl (lv_at hl 2 rfl) ?_
  refine lv_iload_n hx hb dX3_runChosen_22 rfl (lv_at hl 0 rfl) ?_
  refine lv_bipush (v := (-4)) hx hb dX3_runChosen_23 (by decide) ?_
  refine lv_icmp_ne (tgt := 35) hx hb dX3_runChosen_25 (by decide) (fun c6 => ?_) (fun c6 => ?_)
  · replace hw := hw.1 c6
    refine lv_iload_n hx hb dX3_runChosen_35 rfl (lv_at hl 0 rfl) ?_
    exact J36 vv2 r5 Z4 _ _ _ hvv2 hG (lv_sub hl [2, 1] rfl) hw
  replace hw := hw.2 (fun h => h c6)
  refine lv_aload_n hx hb dX3_runChosen_28 rfl (lv_at hl 2 rfl) ?_
  refine z_get hF hG (54 + v) (zc_pl hv) (z_pl hv) rfl in3 3 (by decide) (List.mem_of_getElem? (i := 2) rfl) rfl rfl dX3_runChosen_29 ?_
  refine lv_goto (tgt := 36) hx hb dX3_runChosen_32 (by decide) ?_
  exact J36 vv2 ((Z4 (54 + v) 3)) Z4 _ _ _ hvv2 hG (lv_sub hl [2, 1] rfl) hw
theorem hS_yX3_beginTick : yX3_beginTick.cls ≠ "java/lang/invoke/MethodHandle" ∧ yX3_beginTick.cls ≠ "java/lang/invoke/VarHandle" ∧ (parseMethodDescriptor yX3_beginTick.desc).map (fun d => d.parameters.length) = some 0 := by decide +kernel
theorem hS_yX3_earliest : yX3_earliest.cls ≠ "java/lang/invoke/MethodHandle" ∧ yX3_earliest.cls ≠ "java/lang/invoke/VarHandle" ∧ (parseMethodDescriptor yX3_earliest.desc).map (fun d => d.parameters.length) = some 0 := by decide +kernel
theorem hS_yX3_runChosen : yX3_runChosen.cls ≠ "java/lang/invoke/MethodHandle" ∧ yX3_runChosen.cls ≠ "java/lang/invoke/VarHandle" ∧ (parseMethodDescriptor yX3_runChosen.desc).map (fun d => d.parameters.length) = some 0 := by decide +kernel
set_option maxHeartbeats 4000000 in
set_option maxRecDepth 100000 in
theorem kX3_goOn (l : Launch) (E : zE) (Z : zS) (v : Nat) (a1 : Int32) (hv : v < 3) {K : zS → Prop} (hw : wX3_goOn v a1 Z K) : zCv l yX3_goOn wsX3_goOn ({ frames := 4, cells := 0, slots := 0, locals := 79 } : Room) E Z [.ref (E.2.1 (54 + v)), .int a1] K := by
  refine z_bodyv (cc := cX3_goOn) (nL := 2) (by decide) rfl (Nat.le_of_ble_eq_true rfl) ?_
  intro p e R s m args below meth c ls hfr hlo hF hr hlk hG hl
  have hx := hF.1.1
  have hb := hF.1.2.1
  have hown := hF.1.2.2.2.1
  have hts := hF.1.2.2.2.2
  have in3 : ∀ w ∈ u_ws RX3 TX3 5, w ∈ wsX3_goOn := fun _ h => List.mem_cons_of_mem _ (List.mem_append_left _ (List.mem_append_right _ h))
  have hl : lv_has ls 2 [(0, .ref (E.2.1 (54 + v))), (1, .int a1)] := hl
  have J40 : ∀ (Z : zS) (H : Heap) (locs : List Loc) (ls : Array Slot), zG E Z s H locs → lv_has ls 2 [(0, .ref (E.2.1 (54 + v)))] → wX3_goOn_40 v a1 Z K → W p l e R s m args below meth c H locs 0 0 (zQv E K below args s) (F0 m 40 ls []) := by
    intro Z H locs ls hG hl hw
    unfold wX3_goOn_40 at hw
    refine lv_aload_n hx hb dX3_goOn_40 rfl (lv_at hl 0 rfl) ?_
    refine lv_dup hx hb dX3_goOn_41 rfl ?_
    refine z_get hF hG (54 + v) (zc_pl hv) (z_pl hv) rfl in3 2 (by decide) (List.mem_of_getElem? (i := 3) rfl) rfl rfl dX3_goOn_42 ?_
    refine lv_iconst (v := 1) hx hb dX3_goOn_45 (by decide) ?_
    refine lv_iadd hx hb dX3_goOn_46 ?_
    refine z_put hF hG (54 + v) (zc_pl hv) (z_pl hv) rfl in3 tyX3_ok nmX3 2 (by decide) (List.mem_of_getElem? (i := 3) rfl) rfl rfl (tyX3_ok 2 (by decide)) rfl rfl (Nat.le_of_ble_eq_true rfl) (((Z (54 + v) 2) + 1)) (z_pl hv) dX3_goOn_47 (fun Z9 H locs eZ9 hG => ?_)
    replace hw := hw Z9 eZ9
    exact z_vret hF hG hr hlk hw dX3_goOn_50
  have J18 : ∀ (s0 : Int32) (Z : zS) (H : Heap) (locs : List Loc) (ls : Array Slot), zG E Z s H locs → lv_has ls 2 [(0, .ref (E.2.1 (54 + v)))] → wX3_goOn_18 v a1 s0 Z K → W p l e R s m args below meth c H locs 0 0 (zQv E K below args s) (F0 m 18 ls [.int s0, .ref (E.2.1 (54 + v))]) := by
    intro s0 Z H locs ls hG hl hw
    unfold wX3_goOn_18 at hw
    refine z_put hF hG (54 + v) (zc_pl hv) (z_pl hv) rfl in3 tyX3_ok nmX3 3 (by decide) (List.mem_of_getElem? (i := 1) rfl) rfl rfl (tyX3_ok 3 (by decide)) rfl rfl (Nat.le_of_ble_eq_true rfl) s0 (z_pl hv) dX3_goOn_18 (fun Z5 H locs eZ5 hG => ?_)
    replace hw := hw Z5 eZ5
    refine lv_aload_n hx hb dX3_goOn_21 rfl (lv_at hl 0 rfl) ?_
    refine lv_bipush (v := (-4)) hx hb dX3_goOn_22 (by decide) ?_
    refine z_put hF hG (54 + v) (zc_pl hv) (z_pl hv) rfl in3 tyX3_ok nmX3 4 (by decide) (List.mem_of_getElem? (i := 2) rfl) rfl rfl (tyX3_ok 4 (by decide)) rfl rfl (Nat.le_of_ble_eq_true rfl) ((-4)) (z_pl hv) dX3_goOn_24 (fun Z6 H locs eZ6 hG => ?_)
    replace hw := hw Z6 eZ6
    refine lv_aload_n hx hb dX3_goOn_27 rfl (lv_at hl 0 rfl) ?_
    refine z_get hF hG (54 + v) (zc_pl hv) (z_pl hv) rfl in3 3 (by decide) (List.mem_of_getElem? (i := 1) rfl) rfl rfl dX3_goOn_28 ?_
    refine lv_bipush (v := (-4)) hx hb dX3_goOn_31 (by decide) ?_
    refine lv_icmp_eq (tgt := 40) hx hb dX3_goOn_33 (by decide) (fun c7 => ?_) (fun c7 => ?_)
    · replace hw := hw.1 c7
      exact J40  Z6 _ _ _ hG (lv_sub hl [0] rfl) hw
    replace hw := hw.2 c7
    refine lv_aload_n hx hb dX3_goOn_36 rfl (lv_at hl 0 rfl) ?_
    refine z_cv (va_runV (rest := []) hF.1 (kX3_runChosen l E Z6 v hv hw _) (cwV 0 hts gX3_goOn_X3_runChosen rfl rfl rfl ⟨rfl, hS_yX3_runChosen⟩ ⟨Nat.le_trans (Nat.le_of_ble_eq_true rfl) hfr, Nat.le_trans (Nat.le_of_ble_eq_true rfl) hlo⟩) (z_preV hF hG (54 + v) (zc_pl hv) (z_pl hv) rfl) rfl rfl hl.1 rfl (lv_room (Nat.le_of_ble_eq_true rfl)) dX3_goOn_37 ⟨Nat.zero_le _, Nat.zero_le _⟩) hG (fun Z8 H locs hw hG => ?_)
    exact J40  Z8 _ _ _ hG (lv_sub hl [0] rfl) hw
  unfold wX3_goOn at hw
  refine lv_aload_n hx hb dX3_goOn_0 rfl (lv_at hl 0 rfl) ?_
  refine z_cv (va_runV (rest := []) hF.1 (kX3_beginTick l E Z v hv hw _) (cwV 0 hts gX3_goOn_X3_beginTick rfl rfl rfl ⟨rfl, hS_yX3_beginTick⟩ ⟨Nat.le_trans (Nat.le_of_ble_eq_true rfl) hfr, Nat.le_trans (Nat.le_of_ble_eq_true rfl) hlo⟩) (z_preV hF hG (54 + v) (zc_pl hv) (z_pl hv) rfl) rfl rfl hl.1 rfl (lv_room (Nat.le_of_ble_eq_true rfl)) dX3_goOn_1 ⟨Nat.zero_le _, Nat.zero_le _⟩) hG (fun Z1 H locs hw hG => ?_)
  refine lv_aload_n hx hb dX3_goOn_4 rfl (lv_at hl 0 rfl) ?_
  refine lv_iload_n hx hb dX3_goOn_5 rfl (lv_at hl 1 rfl) ?_
  refine lv_if_eq (tgt := 14) hx hb dX3_goOn_6 (by decide) (fun c2 => ?_) (fun c2 => ?_)
  · replace hw := hw.1 c2
    refine lv_aload_n hx hb dX3_goOn_14 rfl (lv_at hl 0 rfl) ?_
    refine z_ci (va_runV (rest := [.ref (E.2.1 (54 + v))]) hF.1 (kX3_earliest l E Z1 v hv hw _) (cwV 0 hts gX3_goOn_X3_earliest rfl rfl rfl ⟨rfl, hS_yX3_earliest⟩ ⟨Nat.le_trans (Nat.le_of_ble_eq_true rfl) hfr, Nat.le_trans (Nat.le_of_ble_eq_true rfl) hlo⟩) (z_preV hF hG (54 + v) (zc_pl hv) (z_pl hv) rfl) rfl rfl hl.1 rfl (lv_room (Nat.le_of_ble_eq_true rfl)) dX3_goOn_15 ⟨Nat.zero_le _, Nat.zero_le _⟩) hG (fun r4 Z3 H locs hw hG => ?_)
    exact J18 r4 Z3 _ _ _ hG (lv_sub hl [0] rfl) hw
  replace hw := hw.2 c2
  refine lv_bipush (v := (-4)) hx hb dX3_goOn_9 (by decide) ?_
  refine lv_goto (tgt := 18) hx hb dX3_goOn_11 (by decide) ?_
  exact J18 ((-4)) Z1 _ _ _ hG (lv_sub hl [0] rfl) hw
theorem hS_yX3_goOn : yX3_goOn.cls ≠ "java/lang/invoke/MethodHandle" ∧ yX3_goOn.cls ≠ "java/lang/invoke/VarHandle" ∧ (parseMethodDescriptor yX3_goOn.desc).map (fun d => d.parameters.length) = some 1 := by decide +kernel
set_option maxHeartbeats 4000000 in
set_option maxRecDepth 100000 in
theorem kX3_goOnFor (l : Launch) (E : zE) (Z : zS) (v : Nat) (a1 : Int32) (hv : v < 3) {K : zS → Prop} (hw : wX3_goOnFor v a1 Z K) : zCv l yX3_goOnFor wsX3_goOnFor ({ frames := 5, cells := 0, slots := 0, locals := 100 } : Room) E Z [.ref (E.2.1 (54 + v)), .int a1] K := by
  refine z_bodyv (cc := cX3_goOnFor) (nL := 3) (by decide) rfl (Nat.le_of_ble_eq_true rfl) ?_
  intro p e R s m args below meth c ls hfr hlo hF hr hlk hG hl
  have hx := hF.1.1
  have hb := hF.1.2.1
  have hown := hF.1.2.2.2.1
  have hts := hF.1.2.2.2.2
  have hl : lv_has ls 3 [(0, .ref (E.2.1 (54 + v))), (1, .int a1)] := hl
  have S2 : ∀ (L2 : Int32 → zS → Prop), (∀ (x2 : Int32) (Z : zS) (H : Heap) (locs : List Loc) (ls : Array Slot), zG E Z s H locs → lv_has ls 3 [(0, .ref (E.2.1 (54 + v))), (1, .int a1), (2, .int x2)] → L2 x2 Z → W p l e R s m args below meth c H locs 0 0 (zQv E K below args s) (F0 m 2 ls [])) → ∀ (x2 : Int32) (Z : zS) (H : Heap) (locs : List Loc) (ls : Array Slot), zG E Z s H locs → lv_has ls 3 [(0, .ref (E.2.1 (54 + v))), (1, .int a1), (2, .int x2)] → wX3_goOnFor_2b L2 v a1 x2 Z K → W p l e R s m args below meth c H locs 0 0 (zQv E K below args s) (F0 m 2 ls []) := by
    intro L2 ih2
    intro x2 Z H locs ls hG hl hw
    unfold wX3_goOnFor_2b at hw
    refine lv_iload_n hx hb dX3_goOnFor_2 rfl (lv_at hl 2 rfl) ?_
    refine lv_iload_n hx hb dX3_goOnFor_3 rfl (lv_at hl 1 rfl) ?_
    refine lv_icmp_ge (tgt := 18) hx hb dX3_goOnFor_4 (by decide) (fun c2 => ?_) (fun c2 => ?_)
    · replace hw := hw.1 c2
      exact z_vret hF hG hr hlk hw dX3_goOnFor_18
    replace hw := hw.2 c2
    refine lv_aload_n hx hb dX3_goOnFor_7 rfl (lv_at hl 0 rfl) ?_
    refine lv_iconst (v := 0) hx hb dX3_goOnFor_8 (by decide) ?_
    refine z_cv (va_runV (rest := []) hF.1 (kX3_goOn l E Z v 0 hv hw _) (cwV 1 hts gX3_goOnFor_X3_goOn rfl rfl rfl ⟨rfl, hS_yX3_goOn⟩ ⟨Nat.le_trans (Nat.le_of_ble_eq_true rfl) hfr, Nat.le_trans (Nat.le_of_ble_eq_true rfl) hlo⟩) (z_preV hF hG (54 + v) (zc_pl hv) (z_pl hv) rfl) rfl rfl hl.1 rfl (lv_room (Nat.le_of_ble_eq_true rfl)) dX3_goOnFor_9 ⟨Nat.zero_le _, Nat.zero_le _⟩) hG (fun Z3 H locs hw hG => ?_)
    obtain ⟨y4, ey4⟩ : ∃ y : Int32, y = x2 + 1 := ⟨_, rfl⟩
    replace hw := hw y4 ey4
    refine lv_iinc (v := y4) (lv' := [(2, .int y4), (0, .ref (E.2.1 (54 + v))), (1, .int a1)]) hx hb dX3_goOnFor_12 hl (k := 2) rfl (by rw [ey4]; rfl) (by decide) rfl (fun ls hl => ?_)
    refine lv_goto (tgt := 2) hx hb dX3_goOnFor_15 (by decide) ?_
    exact ih2 y4 Z3 _ _ _ hG (lv_sub hl [1, 2, 0] rfl) hw
  have J2 : ∀ n : Nat, ∀ (x2 : Int32) (Z : zS) (H : Heap) (locs : List Loc) (ls : Array Slot), zG E Z s H locs → lv_has ls 3 [(0, .ref (E.2.1 (54 + v))), (1, .int a1), (2, .int x2)] → wX3_goOnFor_2 v a1 K n x2 Z → W p l e R s m args below meth c H locs 0 0 (zQv E K below args s) (F0 m 2 ls []) := by
    intro n
    induction n with
    | zero => intro x2 Z H locs ls hG hl hw; exact hw.elim
    | succ n ih => intro x2 Z H locs ls hG hl hw; exact S2 _ ih x2 Z H locs ls hG hl hw
  unfold wX3_goOnFor at hw
  refine lv_iconst (v := 0) hx hb dX3_goOnFor_0 (by decide) ?_
  refine lv_topi (fun y1 ey1 => ?_)
  replace hw := hw y1 ey1
  refine lv_istore_n (lv' := [(2, .int y1), (0, .ref (E.2.1 (54 + v))), (1, .int a1)]) hx hb dX3_goOnFor_1 rfl hl (by decide) rfl (fun ls hl => ?_)
  obtain ⟨n2, hw⟩ := hw
  exact J2 n2 y1 Z _ _ _ hG (lv_sub hl [1, 2, 0] rfl) hw
set_option maxHeartbeats 4000000 in
set_option maxRecDepth 100000 in
theorem kX3_lateOfAllBut (l : Launch) (E : zE) (Z : zS) (v : Nat) (a1 : Int32) (hv : v < 3) {K : Int32 → zS → Prop} (hw : wX3_lateOfAllBut v a1 Z K) : zCi l yX3_lateOfAllBut wsX3_lateOfAllBut ({ frames := 0, cells := 0, slots := 0, locals := 0 } : Room) E Z [.ref (E.2.1 (54 + v)), .int a1] K := by
  refine z_bodyi (cc := cX3_lateOfAllBut) (nL := 4) (ret := .int) (by decide) rfl (Nat.le_of_ble_eq_true rfl) ?_
  intro p e R s m args below meth c ls hfr hlo hF hr hlk hG hl
  have hx := hF.1.1
  have hb := hF.1.2.1
  have hown := hF.1.2.2.2.1
  have hts := hF.1.2.2.2.2
  have in3 : ∀ w ∈ u_ws RX3 TX3 5, w ∈ wsX3_lateOfAllBut := fun _ h => List.mem_cons_of_mem _ (List.mem_append_left _ (List.mem_append_right _ h))
  have in5 : ∀ w ∈ u_ws RX5 TX5 15, w ∈ wsX3_lateOfAllBut := fun _ h => List.mem_cons_of_mem _ (List.mem_append_right _ h)
  have hl : lv_has ls 4 [(0, .ref (E.2.1 (54 + v))), (1, .int a1)] := hl
  have S4 : ∀ (L4 : Int32 → Int32 → zS → Prop), (∀ (x2 : Int32) (x3 : Int32) (Z : zS) (H : Heap) (locs : List Loc) (ls : Array Slot), zG E Z s H locs → lv_has ls 4 [(0, .ref (E.2.1 (54 + v))), (1, .int a1), (2, .int x2), (3, .int x3)] → L4 x2 x3 Z → W p l e R s m args below meth c H locs 0 0 (zQi E K below args s) (F0 m 4 ls [])) → ∀ (x2 : Int32) (x3 : Int32) (Z : zS) (H : Heap) (locs : List Loc) (ls : Array Slot), zG E Z s H locs → lv_has ls 4 [(0, .ref (E.2.1 (54 + v))), (1, .int a1), (2, .int x2), (3, .int x3)] → wX3_lateOfAllBut_4b L4 v a1 x2 x3 Z K → W p l e R s m args below meth c H locs 0 0 (zQi E K below args s) (F0 m 4 ls []) := by
    intro L4 ih4
    have J29 : ∀ (x2 : Int32) (x3 : Int32) (Z : zS) (H : Heap) (locs : List Loc) (ls : Array Slot), zG E Z s H locs → lv_has ls 4 [(0, .ref (E.2.1 (54 + v))), (1, .int a1), (2, .int x2), (3, .int x3)] → wX3_lateOfAllBut_29 L4 v a1 x2 x3 Z K → W p l e R s m args below meth c H locs 0 0 (zQi E K below args s) (F0 m 29 ls []) := by
      intro x2 x3 Z H locs ls hG hl hw
      unfold wX3_lateOfAllBut_29 at hw
      obtain ⟨y7, ey7⟩ : ∃ y : Int32, y = x3 + 1 := ⟨_, rfl⟩
      replace hw := hw y7 ey7
      refine lv_iinc (v := y7) (lv' := [(3, .int y7), (0, .ref (E.2.1 (54 + v))), (1, .int a1), (2, .int x2)]) hx hb dX3_lateOfAllBut_29 hl (k := 3) rfl (by rw [ey7]; rfl) (by decide) rfl (fun ls hl => ?_)
      refine lv_goto (tgt := 4) hx hb dX3_lateOfAllBut_32 (by decide) ?_
      exact ih4 x2 y7 Z _ _ _ hG (lv_sub hl [1, 2, 3, 0] rfl) hw
    intro x2 x3 Z H locs ls hG hl hw
    unfold wX3_lateOfAllBut_4b at hw
    refine lv_iload_n hx hb dX3_lateOfAllBut_4 rfl (lv_at hl 3 rfl) ?_
    refine lv_aload_n hx hb dX3_lateOfAllBut_5 rfl (lv_at hl 0 rfl) ?_
    refine z_get hF hG (54 + v) (zc_pl hv) (z_pl hv) rfl in3 1 (by decide) (List.mem_of_getElem? (i := 1) rfl) rfl rfl dX3_lateOfAllBut_6 ?_
    refine lv_icmp_ge (tgt := 35) hx hb dX3_lateOfAllBut_9 (by decide) (fun c3 => ?_) (fun c3 => ?_)
    · replace hw := hw.1 c3
      refine lv_iload_n hx hb dX3_lateOfAllBut_35 rfl (lv_at hl 2 rfl) ?_
      exact z_iret hF hG hr hlk hw dX3_lateOfAllBut_36
    replace hw := hw.2 c3
    refine lv_iload_n hx hb dX3_lateOfAllBut_12 rfl (lv_at hl 3 rfl) ?_
    refine lv_iload_n hx hb dX3_lateOfAllBut_13 rfl (lv_at hl 1 rfl) ?_
    refine lv_icmp_eq (tgt := 29) hx hb dX3_lateOfAllBut_14 (by decide) (fun c4 => ?_) (fun c4 => ?_)
    · replace hw := hw.1 c4
      exact J29 x2 x3 Z _ _ _ hG (lv_sub hl [0, 1, 2, 3] rfl) hw
    replace hw := hw.2 c4
    refine lv_iload_n hx hb dX3_lateOfAllBut_17 rfl (lv_at hl 2 rfl) ?_
    refine lv_aload_n hx hb dX3_lateOfAllBut_18 rfl (lv_at hl 0 rfl) ?_
    refine z_get hF hG (54 + v) (zc_pl hv) (z_pl hv) rfl in3 0 (by decide) (List.mem_of_getElem? (i := 2) rfl) rfl rfl dX3_lateOfAllBut_19 ?_
    refine lv_iload_n hx hb dX3_lateOfAllBut_22 rfl (lv_at hl 3 rfl) ?_
    obtain ⟨q5, hw⟩ := hw
    refine z_aald hF hG (57 + v) 1 (zc_pr hv) (z_pr hv) rfl q5 rfl dX3_lateOfAllBut_23 ?_
    refine z_get hF hG (6 * v + (x3 : Int32).toNatClampNeg) (zc_sv (z_vb hv q5)) (z_sv (z_vb hv q5)) rfl in5 8 (by decide) (List.mem_of_getElem? (i := 3) rfl) rfl rfl dX3_lateOfAllBut_24 ?_
    refine lv_iadd hx hb dX3_lateOfAllBut_27 ?_
    refine lv_topi (fun y6 ey6 => ?_)
    replace hw := hw y6 ey6
    refine lv_istore_n (lv' := [(2, .int y6), (0, .ref (E.2.1 (54 + v))), (1, .int a1), (3, .int x3)]) hx hb dX3_lateOfAllBut_28 rfl hl (by decide) rfl (fun ls hl => ?_)
    exact J29 y6 x3 Z _ _ _ hG (lv_sub hl [1, 2, 0, 3] rfl) hw
  have J4 : ∀ n : Nat, ∀ (x2 : Int32) (x3 : Int32) (Z : zS) (H : Heap) (locs : List Loc) (ls : Array Slot), zG E Z s H locs → lv_has ls 4 [(0, .ref (E.2.1 (54 + v))), (1, .int a1), (2, .int x2), (3, .int x3)] → wX3_lateOfAllBut_4 v a1 K n x2 x3 Z → W p l e R s m args below meth c H locs 0 0 (zQi E K below args s) (F0 m 4 ls []) := by
    intro n
    induction n with
    | zero => intro x2 x3 Z H locs ls hG hl hw; exact hw.elim
    | succ n ih => intro x2 x3 Z H locs ls hG hl hw; exact S4 _ ih x2 x3 Z H locs ls hG hl hw
  unfold wX3_lateOfAllBut at hw
  refine lv_iconst (v := 0) hx hb dX3_lateOfAllBut_0 (by decide) ?_
  refine lv_topi (fun y1 ey1 => ?_)
  replace hw := hw y1 ey1
  refine lv_istore_n (lv' := [(2, .int y1), (0, .ref (E.2.1 (54 + v))), (1, .int a1)]) hx hb dX3_lateOfAllBut_1 rfl hl (by decide) rfl (fun ls hl => ?_)
  refine lv_iconst (v := 0) hx hb dX3_lateOfAllBut_2 (by decide) ?_
  refine lv_topi (fun y2 ey2 => ?_)
  replace hw := hw y2 ey2
  refine lv_istore_n (lv' := [(3, .int y2), (2, .int y1), (0, .ref (E.2.1 (54 + v))), (1, .int a1)]) hx hb dX3_lateOfAllBut_3 rfl hl (by decide) rfl (fun ls hl => ?_)
  obtain ⟨n4, hw⟩ := hw
  exact J4 n4 y1 y2 Z _ _ _ hG (lv_sub hl [2, 3, 1, 0] rfl) hw
theorem hS_yX3_lateOfAllBut : yX3_lateOfAllBut.cls ≠ "java/lang/invoke/MethodHandle" ∧ yX3_lateOfAllBut.cls ≠ "java/lang/invoke/VarHandle" ∧ (parseMethodDescriptor yX3_lateOfAllBut.desc).map (fun d => d.parameters.length) = some 1 := by decide +kernel
set_option maxHeartbeats 4000000 in
set_option maxRecDepth 100000 in
theorem kX3_lateOfAll (l : Launch) (E : zE) (Z : zS) (v : Nat) (hv : v < 3) {K : Int32 → zS → Prop} (hw : wX3_lateOfAll v Z K) : zCi l yX3_lateOfAll wsX3_lateOfAll ({ frames := 1, cells := 0, slots := 0, locals := 23 } : Room) E Z [.ref (E.2.1 (54 + v))] K := by
  refine z_bodyi (cc := cX3_lateOfAll) (nL := 1) (ret := .int) (by decide) rfl (Nat.le_of_ble_eq_true rfl) ?_
  intro p e R s m args below meth c ls hfr hlo hF hr hlk hG hl
  have hx := hF.1.1
  have hb := hF.1.2.1
  have hown := hF.1.2.2.2.1
  have hts := hF.1.2.2.2.2
  have hl : lv_has ls 1 [(0, .ref (E.2.1 (54 + v)))] := hl
  unfold wX3_lateOfAll at hw
  refine lv_aload_n hx hb dX3_lateOfAll_0 rfl (lv_at hl 0 rfl) ?_
  refine lv_bipush (v := (-4)) hx hb dX3_lateOfAll_1 (by decide) ?_
  refine z_ci (va_runV (rest := []) hF.1 (kX3_lateOfAllBut l E Z v ((-4)) hv hw _) (cwV 1 hts gX3_lateOfAll_X3_lateOfAllBut rfl rfl rfl ⟨rfl, hS_yX3_lateOfAllBut⟩ ⟨Nat.le_trans (Nat.le_of_ble_eq_true rfl) hfr, Nat.le_trans (Nat.le_of_ble_eq_true rfl) hlo⟩) (z_preV hF hG (54 + v) (zc_pl hv) (z_pl hv) rfl) rfl rfl hl.1 rfl (lv_room (Nat.le_of_ble_eq_true rfl)) dX3_lateOfAll_3 ⟨Nat.zero_le _, Nat.zero_le _⟩) hG (fun r2 Z1 H locs hw hG => ?_)
  exact z_iret hF hG hr hlk hw dX3_lateOfAll_6
set_option maxHeartbeats 4000000 in
set_option maxRecDepth 100000 in
theorem kX3_doneOfAll (l : Launch) (E : zE) (Z : zS) (v : Nat) (hv : v < 3) {K : Int32 → zS → Prop} (hw : wX3_doneOfAll v Z K) : zCi l yX3_doneOfAll wsX3_doneOfAll ({ frames := 0, cells := 0, slots := 0, locals := 0 } : Room) E Z [.ref (E.2.1 (54 + v))] K := by
  refine z_bodyi (cc := cX3_doneOfAll) (nL := 3) (ret := .int) (by decide) rfl (Nat.le_of_ble_eq_true rfl) ?_
  intro p e R s m args below meth c ls hfr hlo hF hr hlk hG hl
  have hx := hF.1.1
  have hb := hF.1.2.1
  have hown := hF.1.2.2.2.1
  have hts := hF.1.2.2.2.2
  have in3 : ∀ w ∈ u_ws RX3 TX3 5, w ∈ wsX3_doneOfAll := fun _ h => List.mem_cons_of_mem _ (List.mem_append_left _ (List.mem_append_right _ h))
  have in5 : ∀ w ∈ u_ws RX5 TX5 15, w ∈ wsX3_doneOfAll := fun _ h => List.mem_cons_of_mem _ (List.mem_append_right _ h)
  have hl : lv_has ls 3 [(0, .ref (E.2.1 (54 + v)))] := hl
  have S4 : ∀ (L4 : Int32 → Int32 → zS → Prop), (∀ (x1 : Int32) (x2 : Int32) (Z : zS) (H : Heap) (locs : List Loc) (ls : Array Slot), zG E Z s H locs → lv_has ls 3 [(0, .ref (E.2.1 (54 + v))), (1, .int x1), (2, .int x2)] → L4 x1 x2 Z → W p l e R s m args below meth c H locs 0 0 (zQi E K below args s) (F0 m 4 ls [])) → ∀ (x1 : Int32) (x2 : Int32) (Z : zS) (H : Heap) (locs : List Loc) (ls : Array Slot), zG E Z s H locs → lv_has ls 3 [(0, .ref (E.2.1 (54 + v))), (1, .int x1), (2, .int x2)] → wX3_doneOfAll_4b L4 v x1 x2 Z K → W p l e R s m args below meth c H locs 0 0 (zQi E K below args s) (F0 m 4 ls []) := by
    intro L4 ih4
    intro x1 x2 Z H locs ls hG hl hw
    unfold wX3_doneOfAll_4b at hw
    refine lv_iload_n hx hb dX3_doneOfAll_4 rfl (lv_at hl 2 rfl) ?_
    refine lv_aload_n hx hb dX3_doneOfAll_5 rfl (lv_at hl 0 rfl) ?_
    refine z_get hF hG (54 + v) (zc_pl hv) (z_pl hv) rfl in3 1 (by decide) (List.mem_of_getElem? (i := 1) rfl) rfl rfl dX3_doneOfAll_6 ?_
    refine lv_icmp_ge (tgt := 30) hx hb dX3_doneOfAll_9 (by decide) (fun c3 => ?_) (fun c3 => ?_)
    · replace hw := hw.1 c3
      refine lv_iload_n hx hb dX3_doneOfAll_30 rfl (lv_at hl 1 rfl) ?_
      exact z_iret hF hG hr hlk hw dX3_doneOfAll_31
    replace hw := hw.2 c3
    refine lv_iload_n hx hb dX3_doneOfAll_12 rfl (lv_at hl 1 rfl) ?_
    refine lv_aload_n hx hb dX3_doneOfAll_13 rfl (lv_at hl 0 rfl) ?_
    refine z_get hF hG (54 + v) (zc_pl hv) (z_pl hv) rfl in3 0 (by decide) (List.mem_of_getElem? (i := 2) rfl) rfl rfl dX3_doneOfAll_14 ?_
    refine lv_iload_n hx hb dX3_doneOfAll_17 rfl (lv_at hl 2 rfl) ?_
    obtain ⟨q4, hw⟩ := hw
    refine z_aald hF hG (57 + v) 1 (zc_pr hv) (z_pr hv) rfl q4 rfl dX3_doneOfAll_18 ?_
    refine z_get hF hG (6 * v + (x2 : Int32).toNatClampNeg) (zc_sv (z_vb hv q4)) (z_sv (z_vb hv q4)) rfl in5 9 (by decide) (List.mem_of_getElem? (i := 3) rfl) rfl rfl dX3_doneOfAll_19 ?_
    refine lv_iadd hx hb dX3_doneOfAll_22 ?_
    refine lv_topi (fun y5 ey5 => ?_)
    replace hw := hw y5 ey5
    refine lv_istore_n (lv' := [(1, .int y5), (0, .ref (E.2.1 (54 + v))), (2, .int x2)]) hx hb dX3_doneOfAll_23 rfl hl (by decide) rfl (fun ls hl => ?_)
    obtain ⟨y6, ey6⟩ : ∃ y : Int32, y = x2 + 1 := ⟨_, rfl⟩
    replace hw := hw y6 ey6
    refine lv_iinc (v := y6) (lv' := [(2, .int y6), (1, .int y5), (0, .ref (E.2.1 (54 + v)))]) hx hb dX3_doneOfAll_24 hl (k := 2) rfl (by rw [ey6]; rfl) (by decide) rfl (fun ls hl => ?_)
    refine lv_goto (tgt := 4) hx hb dX3_doneOfAll_27 (by decide) ?_
    exact ih4 y5 y6 Z _ _ _ hG (lv_sub hl [2, 1, 0] rfl) hw
  have J4 : ∀ n : Nat, ∀ (x1 : Int32) (x2 : Int32) (Z : zS) (H : Heap) (locs : List Loc) (ls : Array Slot), zG E Z s H locs → lv_has ls 3 [(0, .ref (E.2.1 (54 + v))), (1, .int x1), (2, .int x2)] → wX3_doneOfAll_4 v K n x1 x2 Z → W p l e R s m args below meth c H locs 0 0 (zQi E K below args s) (F0 m 4 ls []) := by
    intro n
    induction n with
    | zero => intro x1 x2 Z H locs ls hG hl hw; exact hw.elim
    | succ n ih => intro x1 x2 Z H locs ls hG hl hw; exact S4 _ ih x1 x2 Z H locs ls hG hl hw
  unfold wX3_doneOfAll at hw
  refine lv_iconst (v := 0) hx hb dX3_doneOfAll_0 (by decide) ?_
  refine lv_topi (fun y1 ey1 => ?_)
  replace hw := hw y1 ey1
  refine lv_istore_n (lv' := [(1, .int y1), (0, .ref (E.2.1 (54 + v)))]) hx hb dX3_doneOfAll_1 rfl hl (by decide) rfl (fun ls hl => ?_)
  refine lv_iconst (v := 0) hx hb dX3_doneOfAll_2 (by decide) ?_
  refine lv_topi (fun y2 ey2 => ?_)
  replace hw := hw y2 ey2
  refine lv_istore_n (lv' := [(2, .int y2), (1, .int y1), (0, .ref (E.2.1 (54 + v)))]) hx hb dX3_doneOfAll_3 rfl hl (by decide) rfl (fun ls hl => ?_)
  obtain ⟨n4, hw⟩ := hw
  exact J4 n4 y1 y2 Z _ _ _ hG (lv_sub hl [2, 1, 0] rfl) hw
set_option maxHeartbeats 4000000 in
set_option maxRecDepth 100000 in
theorem kX3_jobsOfAll (l : Launch) (E : zE) (Z : zS) (v : Nat) (hv : v < 3) {K : Int32 → zS → Prop} (hw : wX3_jobsOfAll v Z K) : zCi l yX3_jobsOfAll wsX3_jobsOfAll ({ frames := 0, cells := 0, slots := 0, locals := 0 } : Room) E Z [.ref (E.2.1 (54 + v))] K := by
  refine z_bodyi (cc := cX3_jobsOfAll) (nL := 3) (ret := .int) (by decide) rfl (Nat.le_of_ble_eq_true rfl) ?_
  intro p e R s m args below meth c ls hfr hlo hF hr hlk hG hl
  have hx := hF.1.1
  have hb := hF.1.2.1
  have hown := hF.1.2.2.2.1
  have hts := hF.1.2.2.2.2
  have in3 : ∀ w ∈ u_ws RX3 TX3 5, w ∈ wsX3_jobsOfAll := fun _ h => List.mem_cons_of_mem _ (List.mem_append_left _ (List.mem_append_right _ h))
  have in5 : ∀ w ∈ u_ws RX5 TX5 15, w ∈ wsX3_jobsOfAll := fun _ h => List.mem_cons_of_mem _ (List.mem_append_right _ h)
  have hl : lv_has ls 3 [(0, .ref (E.2.1 (54 + v)))] := hl
  have S4 : ∀ (L4 : Int32 → Int32 → zS → Prop), (∀ (x1 : Int32) (x2 : Int32) (Z : zS) (H : Heap) (locs : List Loc) (ls : Array Slot), zG E Z s H locs → lv_has ls 3 [(0, .ref (E.2.1 (54 + v))), (1, .int x1), (2, .int x2)] → L4 x1 x2 Z → W p l e R s m args below meth c H locs 0 0 (zQi E K below args s) (F0 m 4 ls [])) → ∀ (x1 : Int32) (x2 : Int32) (Z : zS) (H : Heap) (locs : List Loc) (ls : Array Slot), zG E Z s H locs → lv_has ls 3 [(0, .ref (E.2.1 (54 + v))), (1, .int x1), (2, .int x2)] → wX3_jobsOfAll_4b L4 v x1 x2 Z K → W p l e R s m args below meth c H locs 0 0 (zQi E K below args s) (F0 m 4 ls []) := by
    intro L4 ih4
    intro x1 x2 Z H locs ls hG hl hw
    unfold wX3_jobsOfAll_4b at hw
    refine lv_iload_n hx hb dX3_jobsOfAll_4 rfl (lv_at hl 2 rfl) ?_
    refine lv_aload_n hx hb dX3_jobsOfAll_5 rfl (lv_at hl 0 rfl) ?_
    refine z_get hF hG (54 + v) (zc_pl hv) (z_pl hv) rfl in3 1 (by decide) (List.mem_of_getElem? (i := 1) rfl) rfl rfl dX3_jobsOfAll_6 ?_
    refine lv_icmp_ge (tgt := 30) hx hb dX3_jobsOfAll_9 (by decide) (fun c3 => ?_) (fun c3 => ?_)
    · replace hw := hw.1 c3
      refine lv_iload_n hx hb dX3_jobsOfAll_30 rfl (lv_at hl 1 rfl) ?_
      exact z_iret hF hG hr hlk hw dX3_jobsOfAll_31
    replace hw := hw.2 c3
    refine lv_iload_n hx hb dX3_jobsOfAll_12 rfl (lv_at hl 1 rfl) ?_
    refine lv_aload_n hx hb dX3_jobsOfAll_13 rfl (lv_at hl 0 rfl) ?_
    refine z_get hF hG (54 + v) (zc_pl hv) (z_pl hv) rfl in3 0 (by decide) (List.mem_of_getElem? (i := 2) rfl) rfl rfl dX3_jobsOfAll_14 ?_
    refine lv_iload_n hx hb dX3_jobsOfAll_17 rfl (lv_at hl 2 rfl) ?_
    obtain ⟨q4, hw⟩ := hw
    refine z_aald hF hG (57 + v) 1 (zc_pr hv) (z_pr hv) rfl q4 rfl dX3_jobsOfAll_18 ?_
    refine z_get hF hG (6 * v + (x2 : Int32).toNatClampNeg) (zc_sv (z_vb hv q4)) (z_sv (z_vb hv q4)) rfl in5 10 (by decide) (List.mem_of_getElem? (i := 3) rfl) rfl rfl dX3_jobsOfAll_19 ?_
    refine lv_iadd hx hb dX3_jobsOfAll_22 ?_
    refine lv_topi (fun y5 ey5 => ?_)
    replace hw := hw y5 ey5
    refine lv_istore_n (lv' := [(1, .int y5), (0, .ref (E.2.1 (54 + v))), (2, .int x2)]) hx hb dX3_jobsOfAll_23 rfl hl (by decide) rfl (fun ls hl => ?_)
    obtain ⟨y6, ey6⟩ : ∃ y : Int32, y = x2 + 1 := ⟨_, rfl⟩
    replace hw := hw y6 ey6
    refine lv_iinc (v := y6) (lv' := [(2, .int y6), (1, .int y5), (0, .ref (E.2.1 (54 + v)))]) hx hb dX3_jobsOfAll_24 hl (k := 2) rfl (by rw [ey6]; rfl) (by decide) rfl (fun ls hl => ?_)
    refine lv_goto (tgt := 4) hx hb dX3_jobsOfAll_27 (by decide) ?_
    exact ih4 y5 y6 Z _ _ _ hG (lv_sub hl [2, 1, 0] rfl) hw
  have J4 : ∀ n : Nat, ∀ (x1 : Int32) (x2 : Int32) (Z : zS) (H : Heap) (locs : List Loc) (ls : Array Slot), zG E Z s H locs → lv_has ls 3 [(0, .ref (E.2.1 (54 + v))), (1, .int x1), (2, .int x2)] → wX3_jobsOfAll_4 v K n x1 x2 Z → W p l e R s m args below meth c H locs 0 0 (zQi E K below args s) (F0 m 4 ls []) := by
    intro n
    induction n with
    | zero => intro x1 x2 Z H locs ls hG hl hw; exact hw.elim
    | succ n ih => intro x1 x2 Z H locs ls hG hl hw; exact S4 _ ih x1 x2 Z H locs ls hG hl hw
  unfold wX3_jobsOfAll at hw
  refine lv_iconst (v := 0) hx hb dX3_jobsOfAll_0 (by decide) ?_
  refine lv_topi (fun y1 ey1 => ?_)
  replace hw := hw y1 ey1
  refine lv_istore_n (lv' := [(1, .int y1), (0, .ref (E.2.1 (54 + v)))]) hx hb dX3_jobsOfAll_1 rfl hl (by decide) rfl (fun ls hl => ?_)
  refine lv_iconst (v := 0) hx hb dX3_jobsOfAll_2 (by decide) ?_
  refine lv_topi (fun y2 ey2 => ?_)
  replace hw := hw y2 ey2
  refine lv_istore_n (lv' := [(2, .int y2), (1, .int y1), (0, .ref (E.2.1 (54 + v)))]) hx hb dX3_jobsOfAll_3 rfl hl (by decide) rfl (fun ls hl => ?_)
  obtain ⟨n4, hw⟩ := hw
  exact J4 n4 y1 y2 Z _ _ _ hG (lv_sub hl [2, 1, 0] rfl) hw
set_option maxHeartbeats 4000000 in
set_option maxRecDepth 100000 in
theorem kX3_readyOnes (l : Launch) (E : zE) (Z : zS) (v : Nat) (hv : v < 3) {K : Int32 → zS → Prop} (hw : wX3_readyOnes v Z K) : zCi l yX3_readyOnes wsX3_readyOnes ({ frames := 0, cells := 0, slots := 0, locals := 0 } : Room) E Z [.ref (E.2.1 (54 + v))] K := by
  refine z_bodyi (cc := cX3_readyOnes) (nL := 3) (ret := .int) (by decide) rfl (Nat.le_of_ble_eq_true rfl) ?_
  intro p e R s m args below meth c ls hfr hlo hF hr hlk hG hl
  have hx := hF.1.1
  have hb := hF.1.2.1
  have hown := hF.1.2.2.2.1
  have hts := hF.1.2.2.2.2
  have in3 : ∀ w ∈ u_ws RX3 TX3 5, w ∈ wsX3_readyOnes := fun _ h => List.mem_cons_of_mem _ (List.mem_append_left _ (List.mem_append_right _ h))
  have in5 : ∀ w ∈ u_ws RX5 TX5 15, w ∈ wsX3_readyOnes := fun _ h => List.mem_cons_of_mem _ (List.mem_append_right _ h)
  have hl : lv_has ls 3 [(0, .ref (E.2.1 (54 + v)))] := hl
  have S4 : ∀ (L4 : Int32 → Int32 → zS → Prop), (∀ (x1 : Int32) (x2 : Int32) (Z : zS) (H : Heap) (locs : List Loc) (ls : Array Slot), zG E Z s H locs → lv_has ls 3 [(0, .ref (E.2.1 (54 + v))), (1, .int x1), (2, .int x2)] → L4 x1 x2 Z → W p l e R s m args below meth c H locs 0 0 (zQi E K below args s) (F0 m 4 ls [])) → ∀ (x1 : Int32) (x2 : Int32) (Z : zS) (H : Heap) (locs : List Loc) (ls : Array Slot), zG E Z s H locs → lv_has ls 3 [(0, .ref (E.2.1 (54 + v))), (1, .int x1), (2, .int x2)] → wX3_readyOnes_4b L4 v x1 x2 Z K → W p l e R s m args below meth c H locs 0 0 (zQi E K below args s) (F0 m 4 ls []) := by
    intro L4 ih4
    have J31 : ∀ (x1 : Int32) (x2 : Int32) (Z : zS) (H : Heap) (locs : List Loc) (ls : Array Slot), zG E Z s H locs → lv_has ls 3 [(0, .ref (E.2.1 (54 + v))), (1, .int x1), (2, .int x2)] → wX3_readyOnes_31 L4 v x1 x2 Z K → W p l e R s m args below meth c H locs 0 0 (zQi E K below args s) (F0 m 31 ls []) := by
      intro x1 x2 Z H locs ls hG hl hw
      unfold wX3_readyOnes_31 at hw
      obtain ⟨y7, ey7⟩ : ∃ y : Int32, y = x2 + 1 := ⟨_, rfl⟩
      replace hw := hw y7 ey7
      refine lv_iinc (v := y7) (lv' := [(2, .int y7), (0, .ref (E.2.1 (54 + v))), (1, .int x1)]) hx hb dX3_readyOnes_31 hl (k := 2) rfl (by rw [ey7]; rfl) (by decide) rfl (fun ls hl => ?_)
      refine lv_goto (tgt := 4) hx hb dX3_readyOnes_34 (by decide) ?_
      exact ih4 x1 y7 Z _ _ _ hG (lv_sub hl [1, 2, 0] rfl) hw
    intro x1 x2 Z H locs ls hG hl hw
    unfold wX3_readyOnes_4b at hw
    refine lv_iload_n hx hb dX3_readyOnes_4 rfl (lv_at hl 2 rfl) ?_
    refine lv_aload_n hx hb dX3_readyOnes_5 rfl (lv_at hl 0 rfl) ?_
    refine z_get hF hG (54 + v) (zc_pl hv) (z_pl hv) rfl in3 1 (by decide) (List.mem_of_getElem? (i := 1) rfl) rfl rfl dX3_readyOnes_6 ?_
    refine lv_icmp_ge (tgt := 37) hx hb dX3_readyOnes_9 (by decide) (fun c3 => ?_) (fun c3 => ?_)
    · replace hw := hw.1 c3
      refine lv_iload_n hx hb dX3_readyOnes_37 rfl (lv_at hl 1 rfl) ?_
      exact z_iret hF hG hr hlk hw dX3_readyOnes_38
    replace hw := hw.2 c3
    refine lv_aload_n hx hb dX3_readyOnes_12 rfl (lv_at hl 0 rfl) ?_
    refine z_get hF hG (54 + v) (zc_pl hv) (z_pl hv) rfl in3 0 (by decide) (List.mem_of_getElem? (i := 2) rfl) rfl rfl dX3_readyOnes_13 ?_
    refine lv_iload_n hx hb dX3_readyOnes_16 rfl (lv_at hl 2 rfl) ?_
    obtain ⟨q4, hw⟩ := hw
    refine z_aald hF hG (57 + v) 1 (zc_pr hv) (z_pr hv) rfl q4 rfl dX3_readyOnes_17 ?_
    refine z_get hF hG (6 * v + (x2 : Int32).toNatClampNeg) (zc_sv (z_vb hv q4)) (z_sv (z_vb hv q4)) rfl in5 7 (by decide) (List.mem_of_getElem? (i := 3) rfl) rfl rfl dX3_readyOnes_18 ?_
    refine lv_iconst (v := 1) hx hb dX3_readyOnes_21 (by decide) ?_
    refine lv_icmp_ne (tgt := 31) hx hb dX3_readyOnes_22 (by decide) (fun c5 => ?_) (fun c5 => ?_)
    · replace hw := hw.1 c5
      exact J31 x1 x2 Z _ _ _ hG (lv_sub hl [0, 1, 2] rfl) hw
    replace hw := hw.2 (fun h => h c5)
    refine lv_iload_n hx hb dX3_readyOnes_25 rfl (lv_at hl 1 rfl) ?_
    refine lv_iconst (v := 1) hx hb dX3_readyOnes_26 (by decide) ?_
    refine lv_iload_n hx hb dX3_readyOnes_27 rfl (lv_at hl 2 rfl) ?_
    refine lv_ishl hx hb dX3_readyOnes_28 ?_
    refine lv_ior hx hb dX3_readyOnes_29 ?_
    refine lv_topi (fun y6 ey6 => ?_)
    replace hw := hw y6 ey6
    refine lv_istore_n (lv' := [(1, .int y6), (0, .ref (E.2.1 (54 + v))), (2, .int x2)]) hx hb dX3_readyOnes_30 rfl hl (by decide) rfl (fun ls hl => ?_)
    exact J31 y6 x2 Z _ _ _ hG (lv_sub hl [1, 0, 2] rfl) hw
  have J4 : ∀ n : Nat, ∀ (x1 : Int32) (x2 : Int32) (Z : zS) (H : Heap) (locs : List Loc) (ls : Array Slot), zG E Z s H locs → lv_has ls 3 [(0, .ref (E.2.1 (54 + v))), (1, .int x1), (2, .int x2)] → wX3_readyOnes_4 v K n x1 x2 Z → W p l e R s m args below meth c H locs 0 0 (zQi E K below args s) (F0 m 4 ls []) := by
    intro n
    induction n with
    | zero => intro x1 x2 Z H locs ls hG hl hw; exact hw.elim
    | succ n ih => intro x1 x2 Z H locs ls hG hl hw; exact S4 _ ih x1 x2 Z H locs ls hG hl hw
  unfold wX3_readyOnes at hw
  refine lv_iconst (v := 0) hx hb dX3_readyOnes_0 (by decide) ?_
  refine lv_topi (fun y1 ey1 => ?_)
  replace hw := hw y1 ey1
  refine lv_istore_n (lv' := [(1, .int y1), (0, .ref (E.2.1 (54 + v)))]) hx hb dX3_readyOnes_1 rfl hl (by decide) rfl (fun ls hl => ?_)
  refine lv_iconst (v := 0) hx hb dX3_readyOnes_2 (by decide) ?_
  refine lv_topi (fun y2 ey2 => ?_)
  replace hw := hw y2 ey2
  refine lv_istore_n (lv' := [(2, .int y2), (1, .int y1), (0, .ref (E.2.1 (54 + v)))]) hx hb dX3_readyOnes_3 rfl hl (by decide) rfl (fun ls hl => ?_)
  obtain ⟨n4, hw⟩ := hw
  exact J4 n4 y1 y2 Z _ _ _ hG (lv_sub hl [2, 1, 0] rfl) hw
set_option maxHeartbeats 4000000 in
set_option maxRecDepth 100000 in
theorem kX3_isAllIdle (l : Launch) (E : zE) (Z : zS) (v : Nat) (hv : v < 3) {K : Int32 → zS → Prop} (hw : wX3_isAllIdle v Z K) : zCi l yX3_isAllIdle wsX3_isAllIdle ({ frames := 0, cells := 0, slots := 0, locals := 0 } : Room) E Z [.ref (E.2.1 (54 + v))] K := by
  refine z_bodyi (cc := cX3_isAllIdle) (nL := 2) (ret := .boolean) (by decide) rfl (Nat.le_of_ble_eq_true rfl) ?_
  intro p e R s m args below meth c ls hfr hlo hF hr hlk hG hl
  have hx := hF.1.1
  have hb := hF.1.2.1
  have hown := hF.1.2.2.2.1
  have hts := hF.1.2.2.2.2
  have in3 : ∀ w ∈ u_ws RX3 TX3 5, w ∈ wsX3_isAllIdle := fun _ h => List.mem_cons_of_mem _ (List.mem_append_left _ (List.mem_append_right _ h))
  have in5 : ∀ w ∈ u_ws RX5 TX5 15, w ∈ wsX3_isAllIdle := fun _ h => List.mem_cons_of_mem _ (List.mem_append_right _ h)
  have hl : lv_has ls 2 [(0, .ref (E.2.1 (54 + v)))] := hl
  have S2 : ∀ (L2 : Int32 → zS → Prop), (∀ (x1 : Int32) (Z : zS) (H : Heap) (locs : List Loc) (ls : Array Slot), zG E Z s H locs → lv_has ls 2 [(0, .ref (E.2.1 (54 + v))), (1, .int x1)] → L2 x1 Z → W p l e R s m args below meth c H locs 0 0 (zQi E K below args s) (F0 m 2 ls [])) → ∀ (x1 : Int32) (Z : zS) (H : Heap) (locs : List Loc) (ls : Array Slot), zG E Z s H locs → lv_has ls 2 [(0, .ref (E.2.1 (54 + v))), (1, .int x1)] → wX3_isAllIdle_2b L2 v x1 Z K → W p l e R s m args below meth c H locs 0 0 (zQi E K below args s) (F0 m 2 ls []) := by
    intro L2 ih2
    intro x1 Z H locs ls hG hl hw
    unfold wX3_isAllIdle_2b at hw
    refine lv_iload_n hx hb dX3_isAllIdle_2 rfl (lv_at hl 1 rfl) ?_
    refine lv_aload_n hx hb dX3_isAllIdle_3 rfl (lv_at hl 0 rfl) ?_
    refine z_get hF hG (54 + v) (zc_pl hv) (z_pl hv) rfl in3 1 (by decide) (List.mem_of_getElem? (i := 1) rfl) rfl rfl dX3_isAllIdle_4 ?_
    refine lv_icmp_ge (tgt := 30) hx hb dX3_isAllIdle_7 (by decide) (fun c2 => ?_) (fun c2 => ?_)
    · replace hw := hw.1 c2
      refine lv_iconst (v := 1) hx hb dX3_isAllIdle_30 (by decide) ?_
      exact z_zret hF hG hr hlk (by decide) hw dX3_isAllIdle_31
    replace hw := hw.2 c2
    refine lv_aload_n hx hb dX3_isAllIdle_10 rfl (lv_at hl 0 rfl) ?_
    refine z_get hF hG (54 + v) (zc_pl hv) (z_pl hv) rfl in3 0 (by decide) (List.mem_of_getElem? (i := 2) rfl) rfl rfl dX3_isAllIdle_11 ?_
    refine lv_iload_n hx hb dX3_isAllIdle_14 rfl (lv_at hl 1 rfl) ?_
    obtain ⟨q3, hw⟩ := hw
    refine z_aald hF hG (57 + v) 1 (zc_pr hv) (z_pr hv) rfl q3 rfl dX3_isAllIdle_15 ?_
    refine z_get hF hG (6 * v + (x1 : Int32).toNatClampNeg) (zc_sv (z_vb hv q3)) (z_sv (z_vb hv q3)) rfl in5 7 (by decide) (List.mem_of_getElem? (i := 3) rfl) rfl rfl dX3_isAllIdle_16 ?_
    refine lv_if_eq (tgt := 24) hx hb dX3_isAllIdle_19 (by decide) (fun c4 => ?_) (fun c4 => ?_)
    · replace hw := hw.1 c4
      obtain ⟨y5, ey5⟩ : ∃ y : Int32, y = x1 + 1 := ⟨_, rfl⟩
      replace hw := hw y5 ey5
      refine lv_iinc (v := y5) (lv' := [(1, .int y5), (0, .ref (E.2.1 (54 + v)))]) hx hb dX3_isAllIdle_24 hl (k := 1) rfl (by rw [ey5]; rfl) (by decide) rfl (fun ls hl => ?_)
      refine lv_goto (tgt := 2) hx hb dX3_isAllIdle_27 (by decide) ?_
      exact ih2 y5 Z _ _ _ hG (lv_sub hl [1, 0] rfl) hw
    replace hw := hw.2 c4
    refine lv_iconst (v := 0) hx hb dX3_isAllIdle_22 (by decide) ?_
    exact z_zret hF hG hr hlk (by decide) hw dX3_isAllIdle_23
  have J2 : ∀ n : Nat, ∀ (x1 : Int32) (Z : zS) (H : Heap) (locs : List Loc) (ls : Array Slot), zG E Z s H locs → lv_has ls 2 [(0, .ref (E.2.1 (54 + v))), (1, .int x1)] → wX3_isAllIdle_2 v K n x1 Z → W p l e R s m args below meth c H locs 0 0 (zQi E K below args s) (F0 m 2 ls []) := by
    intro n
    induction n with
    | zero => intro x1 Z H locs ls hG hl hw; exact hw.elim
    | succ n ih => intro x1 Z H locs ls hG hl hw; exact S2 _ ih x1 Z H locs ls hG hl hw
  unfold wX3_isAllIdle at hw
  refine lv_iconst (v := 0) hx hb dX3_isAllIdle_0 (by decide) ?_
  refine lv_topi (fun y1 ey1 => ?_)
  replace hw := hw y1 ey1
  refine lv_istore_n (lv' := [(1, .int y1), (0, .ref (E.2.1 (54 + v)))]) hx hb dX3_isAllIdle_1 rfl hl (by decide) rfl (fun ls hl => ?_)
  obtain ⟨n2, hw⟩ := hw
  exact J2 n2 y1 Z _ _ _ hG (lv_sub hl [1, 0] rfl) hw
set_option maxHeartbeats 4000000 in
set_option maxRecDepth 100000 in
theorem kX3_demandIn (l : Launch) (E : zE) (Z : zS) (v : Nat) (a1 : Int32) (hv : v < 3) {K : Int32 → zS → Prop} (hw : wX3_demandIn v a1 Z K) : zCi l yX3_demandIn wsX3_demandIn ({ frames := 0, cells := 0, slots := 0, locals := 0 } : Room) E Z [.ref (E.2.1 (54 + v)), .int a1] K := by
  refine z_bodyi (cc := cX3_demandIn) (nL := 5) (ret := .int) (by decide) rfl (Nat.le_of_ble_eq_true rfl) ?_
  intro p e R s m args below meth c ls hfr hlo hF hr hlk hG hl
  have hx := hF.1.1
  have hb := hF.1.2.1
  have hown := hF.1.2.2.2.1
  have hts := hF.1.2.2.2.2
  have in3 : ∀ w ∈ u_ws RX3 TX3 5, w ∈ wsX3_demandIn := fun _ h => List.mem_cons_of_mem _ (List.mem_append_left _ (List.mem_append_right _ h))
  have in5 : ∀ w ∈ u_ws RX5 TX5 15, w ∈ wsX3_demandIn := fun _ h => List.mem_cons_of_mem _ (List.mem_append_right _ h)
  have hl : lv_has ls 5 [(0, .ref (E.2.1 (54 + v))), (1, .int a1)] := hl
  have S4 : ∀ (L4 : Int32 → Int32 → zS → Prop), (∀ (x2 : Int32) (x3 : Int32) (Z : zS) (H : Heap) (locs : List Loc) (ls : Array Slot), zG E Z s H locs → lv_has ls 5 [(0, .ref (E.2.1 (54 + v))), (1, .int a1), (2, .int x2), (3, .int x3)] → L4 x2 x3 Z → W p l e R s m args below meth c H locs 0 0 (zQi E K below args s) (F0 m 4 ls [])) → ∀ (x2 : Int32) (x3 : Int32) (Z : zS) (H : Heap) (locs : List Loc) (ls : Array Slot), zG E Z s H locs → lv_has ls 5 [(0, .ref (E.2.1 (54 + v))), (1, .int a1), (2, .int x2), (3, .int x3)] → wX3_demandIn_4b L4 v a1 x2 x3 Z K → W p l e R s m args below meth c H locs 0 0 (zQi E K below args s) (F0 m 4 ls []) := by
    intro L4 ih4
    have J48 : ∀ (x3 : Int32) (s0 : Int32) (s1 : Int32) (Z : zS) (H : Heap) (locs : List Loc) (ls : Array Slot), zG E Z s H locs → lv_has ls 5 [(0, .ref (E.2.1 (54 + v))), (1, .int a1), (3, .int x3)] → wX3_demandIn_48 L4 v a1 x3 s0 s1 Z K → W p l e R s m args below meth c H locs 0 0 (zQi E K below args s) (F0 m 48 ls [.int s0, .int s1]) := by
      intro x3 s0 s1 Z H locs ls hG hl hw
      unfold wX3_demandIn_48 at hw
      refine lv_iadd hx hb dX3_demandIn_48 ?_
      refine lv_topi (fun y8 ey8 => ?_)
      replace hw := hw y8 ey8
      refine lv_istore_n (lv' := [(2, .int y8), (0, .ref (E.2.1 (54 + v))), (1, .int a1), (3, .int x3)]) hx hb dX3_demandIn_49 rfl hl (by decide) rfl (fun ls hl => ?_)
      obtain ⟨y9, ey9⟩ : ∃ y : Int32, y = x3 + 1 := ⟨_, rfl⟩
      replace hw := hw y9 ey9
      refine lv_iinc (v := y9) (lv' := [(3, .int y9), (2, .int y8), (0, .ref (E.2.1 (54 + v))), (1, .int a1)]) hx hb dX3_demandIn_50 hl (k := 3) rfl (by rw [ey9]; rfl) (by decide) rfl (fun ls hl => ?_)
      refine lv_goto (tgt := 4) hx hb dX3_demandIn_53 (by decide) ?_
      exact ih4 y8 y9 Z _ _ _ hG (lv_sub hl [2, 3, 1, 0] rfl) hw
    intro x2 x3 Z H locs ls hG hl hw
    unfold wX3_demandIn_4b at hw
    refine lv_iload_n hx hb dX3_demandIn_4 rfl (lv_at hl 3 rfl) ?_
    refine lv_aload_n hx hb dX3_demandIn_5 rfl (lv_at hl 0 rfl) ?_
    refine z_get hF hG (54 + v) (zc_pl hv) (z_pl hv) rfl in3 1 (by decide) (List.mem_of_getElem? (i := 1) rfl) rfl rfl dX3_demandIn_6 ?_
    refine lv_icmp_ge (tgt := 56) hx hb dX3_demandIn_9 (by decide) (fun c3 => ?_) (fun c3 => ?_)
    · replace hw := hw.1 c3
      refine lv_iload_n hx hb dX3_demandIn_56 rfl (lv_at hl 2 rfl) ?_
      exact z_iret hF hG hr hlk hw dX3_demandIn_57
    replace hw := hw.2 c3
    refine lv_aload_n hx hb dX3_demandIn_12 rfl (lv_at hl 0 rfl) ?_
    refine z_get hF hG (54 + v) (zc_pl hv) (z_pl hv) rfl in3 0 (by decide) (List.mem_of_getElem? (i := 2) rfl) rfl rfl dX3_demandIn_13 ?_
    refine lv_iload_n hx hb dX3_demandIn_16 rfl (lv_at hl 3 rfl) ?_
    obtain ⟨q4, hw⟩ := hw
    refine z_aald hF hG (57 + v) 1 (zc_pr hv) (z_pr hv) rfl q4 rfl dX3_demandIn_17 ?_
    refine z_get hF hG (6 * v + (x3 : Int32).toNatClampNeg) (zc_sv (z_vb hv q4)) (z_sv (z_vb hv q4)) rfl in5 3 (by decide) (List.mem_of_getElem? (i := 3) rfl) rfl rfl dX3_demandIn_18 ?_
    refine lv_topi (fun y5 ey5 => ?_)
    replace hw := hw y5 ey5
    refine lv_istore (lv' := [(4, .int y5), (0, .ref (E.2.1 (54 + v))), (1, .int a1), (2, .int x2), (3, .int x3)]) hx hb dX3_demandIn_21 hl (by decide) rfl (fun ls hl => ?_)
    refine lv_iload_n hx hb dX3_demandIn_23 rfl (lv_at hl 3 rfl) ?_
    refine lv_iload hx hb dX3_demandIn_24 (lv_at hl 0 rfl) ?_
    refine lv_iconst (v := 1) hx hb dX3_demandIn_26 (by decide) ?_
    refine lv_icmp_ge (tgt := 34) hx hb dX3_demandIn_27 (by decide) (fun c6 => ?_) (fun c6 => ?_)
    · replace hw := hw.1 c6
      refine lv_aload_n hx hb dX3_demandIn_34 rfl (lv_at hl 1 rfl) ?_
      refine z_get hF hG (54 + v) (zc_pl hv) (z_pl hv) rfl in3 0 (by decide) (List.mem_of_getElem? (i := 2) rfl) rfl rfl dX3_demandIn_35 ?_
      refine lv_iload_n hx hb dX3_demandIn_38 rfl (lv_at hl 4 rfl) ?_
      obtain ⟨q7, hw⟩ := hw
      refine z_aald hF hG (57 + v) 1 (zc_pr hv) (z_pr hv) rfl q7 rfl dX3_demandIn_39 ?_
      refine z_get hF hG (6 * v + (x3 : Int32).toNatClampNeg) (zc_sv (z_vb hv q7)) (z_sv (z_vb hv q7)) rfl in5 2 (by decide) (List.mem_of_getElem? (i := 4) rfl) rfl rfl dX3_demandIn_40 ?_
      refine lv_iload_n hx hb dX3_demandIn_43 rfl (lv_at hl 2 rfl) ?_
      refine lv_iload hx hb dX3_demandIn_44 (lv_at hl 0 rfl) ?_
      refine lv_idiv hx hb dX3_demandIn_46 hw.1 ?_
      replace hw := hw.2
      refine lv_imul hx hb dX3_demandIn_47 ?_
      exact J48 x3 (((Z (6 * v + (x3 : Int32).toNatClampNeg) 2) * (a1 / y5))) x2 Z _ _ _ hG (lv_sub hl [1, 2, 4] rfl) hw
    replace hw := hw.2 c6
    refine lv_iconst (v := 0) hx hb dX3_demandIn_30 (by decide) ?_
    refine lv_goto (tgt := 48) hx hb dX3_demandIn_31 (by decide) ?_
    exact J48 x3 0 x2 Z _ _ _ hG (lv_sub hl [1, 2, 4] rfl) hw
  have J4 : ∀ n : Nat, ∀ (x2 : Int32) (x3 : Int32) (Z : zS) (H : Heap) (locs : List Loc) (ls : Array Slot), zG E Z s H locs → lv_has ls 5 [(0, .ref (E.2.1 (54 + v))), (1, .int a1), (2, .int x2), (3, .int x3)] → wX3_demandIn_4 v a1 K n x2 x3 Z → W p l e R s m args below meth c H locs 0 0 (zQi E K below args s) (F0 m 4 ls []) := by
    intro n
    induction n with
    | zero => intro x2 x3 Z H locs ls hG hl hw; exact hw.elim
    | succ n ih => intro x2 x3 Z H locs ls hG hl hw; exact S4 _ ih x2 x3 Z H locs ls hG hl hw
  unfold wX3_demandIn at hw
  refine lv_iconst (v := 0) hx hb dX3_demandIn_0 (by decide) ?_
  refine lv_topi (fun y1 ey1 => ?_)
  replace hw := hw y1 ey1
  refine lv_istore_n (lv' := [(2, .int y1), (0, .ref (E.2.1 (54 + v))), (1, .int a1)]) hx hb dX3_demandIn_1 rfl hl (by decide) rfl (fun ls hl => ?_)
  refine lv_iconst (v := 0) hx hb dX3_demandIn_2 (by decide) ?_
  refine lv_topi (fun y2 ey2 => ?_)
  replace hw := hw y2 ey2
  refine lv_istore_n (lv' := [(3, .int y2), (2, .int y1), (0, .ref (E.2.1 (54 + v))), (1, .int a1)]) hx hb dX3_demandIn_3 rfl hl (by decide) rfl (fun ls hl => ?_)
  obtain ⟨n4, hw⟩ := hw
  exact J4 n4 y1 y2 Z _ _ _ hG (lv_sub hl [2, 3, 1, 0] rfl) hw
set_option maxHeartbeats 4000000 in
set_option maxRecDepth 100000 in
theorem kX4_worth (l : Launch) (E : zE) (Z : zS) (v : Int32) (a1 : Int32) {K : Int32 → zS → Prop} (hw : wX4_worth v a1 Z K) : zCi l yX4_worth wsX4_worth ({ frames := 0, cells := 0, slots := 0, locals := 0 } : Room) E Z [.ref (E.2.1 (84 + (v : Int32).toNatClampNeg)), .int a1] K := by
  refine z_bodyi (cc := cX4_worth) (nL := 2) (ret := .int) (by decide) rfl (Nat.le_of_ble_eq_true rfl) ?_
  intro p e R s m args below meth c ls hfr hlo hF hr hlk hG hl
  have hx := hF.1.1
  have hb := hF.1.2.1
  have hown := hF.1.2.2.2.1
  have hts := hF.1.2.2.2.2
  have hl : lv_has ls 2 [(0, .ref (E.2.1 (84 + (v : Int32).toNatClampNeg))), (1, .int a1)] := hl
  unfold wX4_worth at hw
  refine lv_iconst (v := 2) hx hb dX4_worth_0 (by decide) ?_
  refine lv_iload_n hx hb dX4_worth_1 rfl (lv_at hl 1 rfl) ?_
  refine lv_imul hx hb dX4_worth_2 ?_
  exact z_iret hF hG hr hlk hw dX4_worth_3
set_option maxHeartbeats 4000000 in
set_option maxRecDepth 100000 in
theorem kX5_workOfAll (l : Launch) (E : zE) (Z : zS) (v : Nat) (hv : v < 18) {K : Int32 → zS → Prop} (hw : wX5_workOfAll v Z K) : zCi l yX5_workOfAll wsX5_workOfAll ({ frames := 0, cells := 0, slots := 0, locals := 0 } : Room) E Z [.ref (E.2.1 v)] K := by
  refine z_bodyi (cc := cX5_workOfAll) (nL := 3) (ret := .int) (by decide) rfl (Nat.le_of_ble_eq_true rfl) ?_
  intro p e R s m args below meth c ls hfr hlo hF hr hlk hG hl
  have hx := hF.1.1
  have hb := hF.1.2.1
  have hown := hF.1.2.2.2.1
  have hts := hF.1.2.2.2.2
  have in5 : ∀ w ∈ u_ws RX5 TX5 15, w ∈ wsX5_workOfAll := fun _ h => List.mem_cons_of_mem _ (List.mem_append_right _ h)
  have hl : lv_has ls 3 [(0, .ref (E.2.1 v))] := hl
  have S4 : ∀ (L4 : Int32 → Int32 → zS → Prop), (∀ (x1 : Int32) (x2 : Int32) (Z : zS) (H : Heap) (locs : List Loc) (ls : Array Slot), zG E Z s H locs → lv_has ls 3 [(0, .ref (E.2.1 v)), (1, .int x1), (2, .int x2)] → L4 x1 x2 Z → W p l e R s m args below meth c H locs 0 0 (zQi E K below args s) (F0 m 4 ls [])) → ∀ (x1 : Int32) (x2 : Int32) (Z : zS) (H : Heap) (locs : List Loc) (ls : Array Slot), zG E Z s H locs → lv_has ls 3 [(0, .ref (E.2.1 v)), (1, .int x1), (2, .int x2)] → wX5_workOfAll_4b L4 v x1 x2 Z K → W p l e R s m args below meth c H locs 0 0 (zQi E K below args s) (F0 m 4 ls []) := by
    intro L4 ih4
    intro x1 x2 Z H locs ls hG hl hw
    unfold wX5_workOfAll_4b at hw
    refine lv_iload_n hx hb dX5_workOfAll_4 rfl (lv_at hl 2 rfl) ?_
    refine lv_aload_n hx hb dX5_workOfAll_5 rfl (lv_at hl 0 rfl) ?_
    refine z_get hF hG v (zc_sv hv) (z_sv hv) rfl in5 10 (by decide) (List.mem_of_getElem? (i := 1) rfl) rfl rfl dX5_workOfAll_6 ?_
    refine lv_icmp_ge (tgt := 27) hx hb dX5_workOfAll_9 (by decide) (fun c3 => ?_) (fun c3 => ?_)
    · replace hw := hw.1 c3
      refine lv_iload_n hx hb dX5_workOfAll_27 rfl (lv_at hl 1 rfl) ?_
      exact z_iret hF hG hr hlk hw dX5_workOfAll_28
    replace hw := hw.2 c3
    refine lv_iload_n hx hb dX5_workOfAll_12 rfl (lv_at hl 1 rfl) ?_
    refine lv_aload_n hx hb dX5_workOfAll_13 rfl (lv_at hl 0 rfl) ?_
    refine z_get hF hG v (zc_sv hv) (z_sv hv) rfl in5 11 (by decide) (List.mem_of_getElem? (i := 2) rfl) rfl rfl dX5_workOfAll_14 ?_
    refine lv_iload_n hx hb dX5_workOfAll_17 rfl (lv_at hl 2 rfl) ?_
    obtain ⟨q4, hw⟩ := hw
    refine z_iald hF hG (18 + v) (zc_wk hv) (z_wk hv) q4 dX5_workOfAll_18 ?_
    refine lv_iadd hx hb dX5_workOfAll_19 ?_
    refine lv_topi (fun y5 ey5 => ?_)
    replace hw := hw y5 ey5
    refine lv_istore_n (lv' := [(1, .int y5), (0, .ref (E.2.1 v)), (2, .int x2)]) hx hb dX5_workOfAll_20 rfl hl (by decide) rfl (fun ls hl => ?_)
    obtain ⟨y6, ey6⟩ : ∃ y : Int32, y = x2 + 1 := ⟨_, rfl⟩
    replace hw := hw y6 ey6
    refine lv_iinc (v := y6) (lv' := [(2, .int y6), (1, .int y5), (0, .ref (E.2.1 v))]) hx hb dX5_workOfAll_21 hl (k := 2) rfl (by rw [ey6]; rfl) (by decide) rfl (fun ls hl => ?_)
    refine lv_goto (tgt := 4) hx hb dX5_workOfAll_24 (by decide) ?_
    exact ih4 y5 y6 Z _ _ _ hG (lv_sub hl [2, 1, 0] rfl) hw
  have J4 : ∀ n : Nat, ∀ (x1 : Int32) (x2 : Int32) (Z : zS) (H : Heap) (locs : List Loc) (ls : Array Slot), zG E Z s H locs → lv_has ls 3 [(0, .ref (E.2.1 v)), (1, .int x1), (2, .int x2)] → wX5_workOfAll_4 v K n x1 x2 Z → W p l e R s m args below meth c H locs 0 0 (zQi E K below args s) (F0 m 4 ls []) := by
    intro n
    induction n with
    | zero => intro x1 x2 Z H locs ls hG hl hw; exact hw.elim
    | succ n ih => intro x1 x2 Z H locs ls hG hl hw; exact S4 _ ih x1 x2 Z H locs ls hG hl hw
  unfold wX5_workOfAll at hw
  refine lv_iconst (v := 0) hx hb dX5_workOfAll_0 (by decide) ?_
  refine lv_topi (fun y1 ey1 => ?_)
  replace hw := hw y1 ey1
  refine lv_istore_n (lv' := [(1, .int y1), (0, .ref (E.2.1 v))]) hx hb dX5_workOfAll_1 rfl hl (by decide) rfl (fun ls hl => ?_)
  refine lv_iconst (v := 0) hx hb dX5_workOfAll_2 (by decide) ?_
  refine lv_topi (fun y2 ey2 => ?_)
  replace hw := hw y2 ey2
  refine lv_istore_n (lv' := [(2, .int y2), (1, .int y1), (0, .ref (E.2.1 v))]) hx hb dX5_workOfAll_3 rfl hl (by decide) rfl (fun ls hl => ?_)
  obtain ⟨n4, hw⟩ := hw
  exact J4 n4 y1 y2 Z _ _ _ hG (lv_sub hl [2, 1, 0] rfl) hw
set_option maxHeartbeats 4000000 in
set_option maxRecDepth 100000 in
theorem kX5_takeJob (l : Launch) (E : zE) (Z : zS) (v : Nat) (a1 : Int32) (a2 : Int32) (a3 : Int32) (hv : v < 18) {K : zS → Prop} (hw : wX5_takeJob v a1 a2 a3 Z K) : zCv l yX5_takeJob wsX5_takeJob ({ frames := 1, cells := 0, slots := 0, locals := 21 } : Room) E Z [.ref (E.2.1 v), .int a1, .int a2, .int a3] K := by
  refine z_bodyv (cc := cX5_takeJob) (nL := 4) (by decide) rfl (Nat.le_of_ble_eq_true rfl) ?_
  intro p e R s m args below meth c ls hfr hlo hF hr hlk hG hl
  have hx := hF.1.1
  have hb := hF.1.2.1
  have hown := hF.1.2.2.2.1
  have hts := hF.1.2.2.2.2
  have in5 : ∀ w ∈ u_ws RX5 TX5 15, w ∈ wsX5_takeJob := fun _ h => List.mem_cons_of_mem _ (List.mem_append_right _ h)
  have hl : lv_has ls 4 [(0, .ref (E.2.1 v)), (1, .int a1), (2, .int a2), (3, .int a3)] := hl
  have J97 : ∀ (Z : zS) (H : Heap) (locs : List Loc) (ls : Array Slot), zG E Z s H locs → lv_has ls 4 [(0, .ref (E.2.1 v))] → wX5_takeJob_97 v a1 a2 a3 Z K → W p l e R s m args below meth c H locs 0 0 (zQv E K below args s) (F0 m 97 ls []) := by
    intro Z H locs ls hG hl hw
    unfold wX5_takeJob_97 at hw
    refine lv_aload_n hx hb dX5_takeJob_97 rfl (lv_at hl 0 rfl) ?_
    refine lv_iconst (v := 1) hx hb dX5_takeJob_98 (by decide) ?_
    refine z_put hF hG v (zc_sv hv) (z_sv hv) rfl in5 tyX5_ok nmX5 7 (by decide) (List.mem_of_getElem? (i := 4) rfl) rfl rfl (tyX5_ok 7 (by decide)) rfl rfl (Nat.le_of_ble_eq_true rfl) 1 (z_sv hv) dX5_takeJob_99 (fun Z16 H locs eZ16 hG => ?_)
    replace hw := hw Z16 eZ16
    refine lv_aload_n hx hb dX5_takeJob_102 rfl (lv_at hl 0 rfl) ?_
    refine lv_aload_n hx hb dX5_takeJob_103 rfl (lv_at hl 0 rfl) ?_
    refine z_get hF hG v (zc_sv hv) (z_sv hv) rfl in5 6 (by decide) (List.mem_of_getElem? (i := 8) rfl) rfl rfl dX5_takeJob_104 ?_
    refine z_put hF hG v (zc_sv hv) (z_sv hv) rfl in5 tyX5_ok nmX5 14 (by decide) (List.mem_of_getElem? (i := 9) rfl) rfl rfl (tyX5_ok 14 (by decide)) rfl rfl (Nat.le_of_ble_eq_true rfl) ((Z16 v 6)) (z_sv hv) dX5_takeJob_107 (fun Z17 H locs eZ17 hG => ?_)
    replace hw := hw Z17 eZ17
    exact z_vret hF hG hr hlk hw dX5_takeJob_110
  have J76 : ∀ (Z : zS) (H : Heap) (locs : List Loc) (ls : Array Slot), zG E Z s H locs → lv_has ls 4 [(0, .ref (E.2.1 v)), (3, .int a3)] → wX5_takeJob_76 v a1 a2 a3 Z K → W p l e R s m args below meth c H locs 0 0 (zQv E K below args s) (F0 m 76 ls []) := by
    intro Z H locs ls hG hl hw
    unfold wX5_takeJob_76 at hw
    refine lv_aload_n hx hb dX5_takeJob_76 rfl (lv_at hl 0 rfl) ?_
    refine lv_bipush (v := 60) hx hb dX5_takeJob_77 (by decide) ?_
    refine lv_aload_n hx hb dX5_takeJob_79 rfl (lv_at hl 0 rfl) ?_
    refine z_get hF hG v (zc_sv hv) (z_sv hv) rfl in5 2 (by decide) (List.mem_of_getElem? (i := 6) rfl) rfl rfl dX5_takeJob_80 ?_
    refine lv_imul hx hb dX5_takeJob_83 ?_
    refine z_put hF hG v (zc_sv hv) (z_sv hv) rfl in5 tyX5_ok nmX5 5 (by decide) (List.mem_of_getElem? (i := 5) rfl) rfl rfl (tyX5_ok 5 (by decide)) rfl rfl (Nat.le_of_ble_eq_true rfl) ((60 * (Z v 2))) (z_sv hv) dX5_takeJob_84 (fun Z18 H locs eZ18 hG => ?_)
    replace hw := hw Z18 eZ18
    refine lv_aload_n hx hb dX5_takeJob_87 rfl (lv_at hl 0 rfl) ?_
    refine lv_iload_n hx hb dX5_takeJob_88 rfl (lv_at hl 1 rfl) ?_
    refine lv_aload_n hx hb dX5_takeJob_89 rfl (lv_at hl 0 rfl) ?_
    refine z_get hF hG v (zc_sv hv) (z_sv hv) rfl in5 3 (by decide) (List.mem_of_getElem? (i := 7) rfl) rfl rfl dX5_takeJob_90 ?_
    refine lv_iadd hx hb dX5_takeJob_93 ?_
    refine z_put hF hG v (zc_sv hv) (z_sv hv) rfl in5 tyX5_ok nmX5 6 (by decide) (List.mem_of_getElem? (i := 8) rfl) rfl rfl (tyX5_ok 6 (by decide)) rfl rfl (Nat.le_of_ble_eq_true rfl) ((a3 + (Z18 v 3))) (z_sv hv) dX5_takeJob_94 (fun Z19 H locs eZ19 hG => ?_)
    replace hw := hw Z19 eZ19
    exact J97  Z19 _ _ _ hG (lv_sub hl [0] rfl) hw
  have J54 : ∀ (Z : zS) (H : Heap) (locs : List Loc) (ls : Array Slot), zG E Z s H locs → lv_has ls 4 [(0, .ref (E.2.1 v)), (3, .int a3)] → wX5_takeJob_54 v a1 a2 a3 Z K → W p l e R s m args below meth c H locs 0 0 (zQv E K below args s) (F0 m 54 ls []) := by
    intro Z H locs ls hG hl hw
    unfold wX5_takeJob_54 at hw
    refine lv_aload_n hx hb dX5_takeJob_54 rfl (lv_at hl 0 rfl) ?_
    refine z_get hF hG v (zc_sv hv) (z_sv hv) rfl in5 7 (by decide) (List.mem_of_getElem? (i := 4) rfl) rfl rfl dX5_takeJob_55 ?_
    refine lv_if_eq (tgt := 76) hx hb dX5_takeJob_58 (by decide) (fun c11 => ?_) (fun c11 => ?_)
    · replace hw := hw.1 c11
      exact J76  Z _ _ _ hG (lv_sub hl [0, 1] rfl) hw
    replace hw := hw.2 c11
    refine lv_aload_n hx hb dX5_takeJob_61 rfl (lv_at hl 0 rfl) ?_
    refine z_get hF hG v (zc_sv hv) (z_sv hv) rfl in5 5 (by decide) (List.mem_of_getElem? (i := 5) rfl) rfl rfl dX5_takeJob_62 ?_
    refine lv_if_le (tgt := 76) hx hb dX5_takeJob_65 (by decide) (fun c12 => ?_) (fun c12 => ?_)
    · replace hw := hw.1 c12
      exact J76  Z _ _ _ hG (lv_sub hl [0, 1] rfl) hw
    replace hw := hw.2 c12
    refine lv_aload_n hx hb dX5_takeJob_68 rfl (lv_at hl 0 rfl) ?_
    refine lv_iload_n hx hb dX5_takeJob_69 rfl (lv_at hl 1 rfl) ?_
    refine z_ci (va_runV (rest := []) hF.1 (kX5_hasEarned l E Z v a3 hv hw _) (cwV 1 hts gX5_takeJob_X5_hasEarned rfl rfl rfl ⟨rfl, hS_yX5_hasEarned⟩ ⟨Nat.le_trans (Nat.le_of_ble_eq_true rfl) hfr, Nat.le_trans (Nat.le_of_ble_eq_true rfl) hlo⟩) (z_preV hF hG v (zc_sv hv) (z_sv hv) rfl) rfl rfl hl.1 rfl (lv_room (Nat.le_of_ble_eq_true rfl)) dX5_takeJob_70 ⟨Nat.zero_le _, Nat.zero_le _⟩) hG (fun r14 Z13 H locs hw hG => ?_)
    refine lv_if_eq (tgt := 97) hx hb dX5_takeJob_73 (by decide) (fun c15 => ?_) (fun c15 => ?_)
    · replace hw := hw.1 c15
      exact J97  Z13 _ _ _ hG (lv_sub hl [0] rfl) hw
    replace hw := hw.2 c15
    exact J76  Z13 _ _ _ hG (lv_sub hl [0, 1] rfl) hw
  unfold wX5_takeJob at hw
  refine lv_aload_n hx hb dX5_takeJob_0 rfl (lv_at hl 0 rfl) ?_
  refine z_ci (va_runV (rest := []) hF.1 (kX5_isFull l E Z v hv hw _) (cwV 0 hts gX5_takeJob_X5_isFull rfl rfl rfl ⟨rfl, hS_yX5_isFull⟩ ⟨Nat.le_trans (Nat.le_of_ble_eq_true rfl) hfr, Nat.le_trans (Nat.le_of_ble_eq_true rfl) hlo⟩) (z_preV hF hG v (zc_sv hv) (z_sv hv) rfl) rfl rfl hl.1 rfl (lv_room (Nat.le_of_ble_eq_true rfl)) dX5_takeJob_1 ⟨Nat.zero_le _, Nat.zero_le _⟩) hG (fun r2 Z1 H locs hw hG => ?_)
  refine lv_if_eq (tgt := 8) hx hb dX5_takeJob_4 (by decide) (fun c3 => ?_) (fun c3 => ?_)
  · replace hw := hw.1 c3
    refine lv_aload_n hx hb dX5_takeJob_8 rfl (lv_at hl 0 rfl) ?_
    refine z_get hF hG v (zc_sv hv) (z_sv hv) rfl in5 11 (by decide) (List.mem_of_getElem? (i := 1) rfl) rfl rfl dX5_takeJob_9 ?_
    refine lv_aload_n hx hb dX5_takeJob_12 rfl (lv_at hl 0 rfl) ?_
    refine z_get hF hG v (zc_sv hv) (z_sv hv) rfl in5 10 (by decide) (List.mem_of_getElem? (i := 2) rfl) rfl rfl dX5_takeJob_13 ?_
    refine lv_iload_n hx hb dX5_takeJob_16 rfl (lv_at hl 1 rfl) ?_
    obtain ⟨q4, hw⟩ := hw
    refine z_iast hF hG (18 + v) (zc_wk hv) (fun _ => (z_wk hv)) q4 dX5_takeJob_17 (fun Z5 H locs eZ5 hG => ?_)
    replace hw := hw Z5 eZ5
    refine lv_aload_n hx hb dX5_takeJob_18 rfl (lv_at hl 0 rfl) ?_
    refine z_get hF hG v (zc_sv hv) (z_sv hv) rfl in5 12 (by decide) (List.mem_of_getElem? (i := 3) rfl) rfl rfl dX5_takeJob_19 ?_
    refine lv_aload_n hx hb dX5_takeJob_22 rfl (lv_at hl 0 rfl) ?_
    refine z_get hF hG v (zc_sv hv) (z_sv hv) rfl in5 10 (by decide) (List.mem_of_getElem? (i := 2) rfl) rfl rfl dX5_takeJob_23 ?_
    refine lv_iload_n hx hb dX5_takeJob_26 rfl (lv_at hl 2 rfl) ?_
    obtain ⟨q6, hw⟩ := hw
    refine z_iast hF hG (36 + v) (zc_lk hv) (fun _ => (z_lk hv)) q6 dX5_takeJob_27 (fun Z7 H locs eZ7 hG => ?_)
    replace hw := hw Z7 eZ7
    refine lv_aload_n hx hb dX5_takeJob_28 rfl (lv_at hl 0 rfl) ?_
    refine lv_dup hx hb dX5_takeJob_29 rfl ?_
    refine z_get hF hG v (zc_sv hv) (z_sv hv) rfl in5 10 (by decide) (List.mem_of_getElem? (i := 2) rfl) rfl rfl dX5_takeJob_30 ?_
    refine lv_iconst (v := 1) hx hb dX5_takeJob_33 (by decide) ?_
    refine lv_iadd hx hb dX5_takeJob_34 ?_
    refine z_put hF hG v (zc_sv hv) (z_sv hv) rfl in5 tyX5_ok nmX5 10 (by decide) (List.mem_of_getElem? (i := 2) rfl) rfl rfl (tyX5_ok 10 (by decide)) rfl rfl (Nat.le_of_ble_eq_true rfl) (((Z7 v 10) + 1)) (z_sv hv) dX5_takeJob_35 (fun Z8 H locs eZ8 hG => ?_)
    replace hw := hw Z8 eZ8
    refine lv_aload_n hx hb dX5_takeJob_38 rfl (lv_at hl 0 rfl) ?_
    refine z_get hF hG v (zc_sv hv) (z_sv hv) rfl in5 7 (by decide) (List.mem_of_getElem? (i := 4) rfl) rfl rfl dX5_takeJob_39 ?_
    refine lv_if_eq (tgt := 54) hx hb dX5_takeJob_42 (by decide) (fun c9 => ?_) (fun c9 => ?_)
    · replace hw := hw.1 c9
      exact J54  Z8 _ _ _ hG (lv_sub hl [0, 3] rfl) hw
    replace hw := hw.2 c9
    refine lv_aload_n hx hb dX5_takeJob_45 rfl (lv_at hl 0 rfl) ?_
    refine z_get hF hG v (zc_sv hv) (z_sv hv) rfl in5 7 (by decide) (List.mem_of_getElem? (i := 4) rfl) rfl rfl dX5_takeJob_46 ?_
    refine lv_iconst (v := 3) hx hb dX5_takeJob_49 (by decide) ?_
    refine lv_icmp_eq (tgt := 54) hx hb dX5_takeJob_50 (by decide) (fun c10 => ?_) (fun c10 => ?_)
    · replace hw := hw.1 c10
      exact J54  Z8 _ _ _ hG (lv_sub hl [0, 3] rfl) hw
    replace hw := hw.2 c10
    exact z_vret hF hG hr hlk hw dX5_takeJob_53
  replace hw := hw.2 c3
  exact z_vret hF hG hr hlk hw dX5_takeJob_7
set_option maxHeartbeats 4000000 in
set_option maxRecDepth 100000 in
theorem kX6_holdSort (l : Launch) (E : zE) (Z : zS) (v : Nat) (u1 : Int32) (a2 : Int32) (hv : v < 8) {K : zS → Prop} (hw : wX6_holdSort v u1 a2 Z K) : zCv l yX6_holdSort wsX6_holdSort ({ frames := 0, cells := 0, slots := 0, locals := 0 } : Room) E Z [.ref (E.2.1 (60 + v)), .ref (E.2.1 (84 + (u1 : Int32).toNatClampNeg)), .int a2] K := by
  refine z_bodyv (cc := cX6_holdSort) (nL := 3) (by decide) rfl (Nat.le_of_ble_eq_true rfl) ?_
  intro p e R s m args below meth c ls hfr hlo hF hr hlk hG hl
  have hx := hF.1.1
  have hb := hF.1.2.1
  have hown := hF.1.2.2.2.1
  have hts := hF.1.2.2.2.2
  have in6 : ∀ w ∈ u_ws RX6 TX6 6, w ∈ wsX6_holdSort := fun _ h => List.mem_cons_of_mem _ (List.mem_append_right _ h)
  have hl : lv_has ls 3 [(0, .ref (E.2.1 (60 + v))), (1, .ref (E.2.1 (84 + (u1 : Int32).toNatClampNeg))), (2, .int a2)] := hl
  unfold wX6_holdSort at hw
  refine lv_aload_n hx hb dX6_holdSort_0 rfl (lv_at hl 0 rfl) ?_
  refine lv_iconst (v := 1) hx hb dX6_holdSort_1 (by decide) ?_
  refine z_put hF hG (60 + v) (zc_sh hv) (z_sh hv) rfl in6 tyX6_ok nmX6 0 (by decide) (List.mem_of_getElem? (i := 1) rfl) rfl rfl (tyX6_ok 0 (by decide)) rfl rfl (Nat.le_of_ble_eq_true rfl) 1 (z_sh hv) dX6_holdSort_2 (fun Z1 H locs eZ1 hG => ?_)
  replace hw := hw Z1 eZ1
  refine lv_aload_n hx hb dX6_holdSort_5 rfl (lv_at hl 0 rfl) ?_
  refine lv_aload_n hx hb dX6_holdSort_6 rfl (lv_at hl 1 rfl) ?_
  refine z_put hF hG (60 + v) (zc_sh hv) (z_sh hv) rfl in6 tyX6_ok nmX6 1 (by decide) (List.mem_of_getElem? (i := 2) rfl) rfl rfl (tyX6_ok 1 (by decide)) rfl rfl (Nat.le_of_ble_eq_true rfl) u1 (z_sh hv) dX6_holdSort_7 (fun Z2 H locs eZ2 hG => ?_)
  replace hw := hw Z2 eZ2
  refine lv_aload_n hx hb dX6_holdSort_10 rfl (lv_at hl 0 rfl) ?_
  refine lv_iload_n hx hb dX6_holdSort_11 rfl (lv_at hl 2 rfl) ?_
  refine z_put hF hG (60 + v) (zc_sh hv) (z_sh hv) rfl in6 tyX6_ok nmX6 2 (by decide) (List.mem_of_getElem? (i := 3) rfl) rfl rfl (tyX6_ok 2 (by decide)) rfl rfl (Nat.le_of_ble_eq_true rfl) a2 (z_sh hv) dX6_holdSort_12 (fun Z3 H locs eZ3 hG => ?_)
  replace hw := hw Z3 eZ3
  exact z_vret hF hG hr hlk hw dX6_holdSort_15
set_option maxHeartbeats 4000000 in
set_option maxRecDepth 100000 in
theorem kJ7_fill_53178 (l : Launch) (E : zE) (Z : zS) (u1 : Nat) (nu1 : Nat) (a2 : Int32) (hu1 : u1 < 112) (eu1 : ∀ f : Nat → Int32, zent E u1 f = .inl (E.2.2.1 0, nu1, .inl f)) {K : zS → Prop} (hw : wJ7_fill_53178 u1 nu1 a2 Z K) : zCv l yJ7_fill_53178 wsJ7_fill_53178 ({ frames := 0, cells := 0, slots := 0, locals := 0 } : Room) E Z [.ref (E.2.1 u1), .int a2] K := by
  refine z_bodyv (cc := cJ7_fill_53178) (nL := 4) (by decide) rfl (Nat.le_of_ble_eq_true rfl) ?_
  intro p e R s m args below meth c ls hfr hlo hF hr hlk hG hl
  have hx := hF.1.1
  have hb := hF.1.2.1
  have hown := hF.1.2.2.2.1
  have hts := hF.1.2.2.2.2
  have hl : lv_has ls 4 [(0, .ref (E.2.1 u1)), (1, .int a2)] := hl
  have S5 : ∀ (L5 : Int32 → Int32 → zS → Prop), (∀ (x2 : Int32) (x3 : Int32) (Z : zS) (H : Heap) (locs : List Loc) (ls : Array Slot), zG E Z s H locs → lv_has ls 4 [(0, .ref (E.2.1 u1)), (1, .int a2), (2, .int x2), (3, .int x3)] → L5 x2 x3 Z → W p l e R s m args below meth c H locs 0 0 (zQv E K below args s) (F0 m 5 ls [])) → ∀ (x2 : Int32) (x3 : Int32) (Z : zS) (H : Heap) (locs : List Loc) (ls : Array Slot), zG E Z s H locs → lv_has ls 4 [(0, .ref (E.2.1 u1)), (1, .int a2), (2, .int x2), (3, .int x3)] → wJ7_fill_53178_5b L5 u1 nu1 a2 x2 x3 Z K → W p l e R s m args below meth c H locs 0 0 (zQv E K below args s) (F0 m 5 ls []) := by
    intro L5 ih5
    intro x2 x3 Z H locs ls hG hl hw
    unfold wJ7_fill_53178_5b at hw
    refine lv_iload_n hx hb dJ7_fill_53178_5 rfl (lv_at hl 2 rfl) ?_
    refine lv_iload_n hx hb dJ7_fill_53178_6 rfl (lv_at hl 3 rfl) ?_
    refine lv_icmp_ge (tgt := 20) hx hb dJ7_fill_53178_7 (by decide) (fun c3 => ?_) (fun c3 => ?_)
    · replace hw := hw.1 c3
      exact z_vret hF hG hr hlk hw dJ7_fill_53178_20
    replace hw := hw.2 c3
    refine lv_aload_n hx hb dJ7_fill_53178_10 rfl (lv_at hl 0 rfl) ?_
    refine lv_iload_n hx hb dJ7_fill_53178_11 rfl (lv_at hl 2 rfl) ?_
    refine lv_iload_n hx hb dJ7_fill_53178_12 rfl (lv_at hl 1 rfl) ?_
    obtain ⟨q4, hw⟩ := hw
    refine z_iast hF hG u1 hu1 (fun _ => (eu1 _)) q4 dJ7_fill_53178_13 (fun Z5 H locs eZ5 hG => ?_)
    replace hw := hw Z5 eZ5
    obtain ⟨y6, ey6⟩ : ∃ y : Int32, y = x2 + 1 := ⟨_, rfl⟩
    replace hw := hw y6 ey6
    refine lv_iinc (v := y6) (lv' := [(2, .int y6), (0, .ref (E.2.1 u1)), (1, .int a2), (3, .int x3)]) hx hb dJ7_fill_53178_14 hl (k := 2) rfl (by rw [ey6]; rfl) (by decide) rfl (fun ls hl => ?_)
    refine lv_goto (tgt := 5) hx hb dJ7_fill_53178_17 (by decide) ?_
    exact ih5 y6 x3 Z5 _ _ _ hG (lv_sub hl [1, 2, 0, 3] rfl) hw
  have J5 : ∀ n : Nat, ∀ (x2 : Int32) (x3 : Int32) (Z : zS) (H : Heap) (locs : List Loc) (ls : Array Slot), zG E Z s H locs → lv_has ls 4 [(0, .ref (E.2.1 u1)), (1, .int a2), (2, .int x2), (3, .int x3)] → wJ7_fill_53178_5 u1 nu1 a2 K n x2 x3 Z → W p l e R s m args below meth c H locs 0 0 (zQv E K below args s) (F0 m 5 ls []) := by
    intro n
    induction n with
    | zero => intro x2 x3 Z H locs ls hG hl hw; exact hw.elim
    | succ n ih => intro x2 x3 Z H locs ls hG hl hw; exact S5 _ ih x2 x3 Z H locs ls hG hl hw
  unfold wJ7_fill_53178 at hw
  refine lv_iconst (v := 0) hx hb dJ7_fill_53178_0 (by decide) ?_
  refine lv_topi (fun y1 ey1 => ?_)
  replace hw := hw y1 ey1
  refine lv_istore_n (lv' := [(2, .int y1), (0, .ref (E.2.1 u1)), (1, .int a2)]) hx hb dJ7_fill_53178_1 rfl hl (by decide) rfl (fun ls hl => ?_)
  refine lv_aload_n hx hb dJ7_fill_53178_2 rfl (lv_at hl 1 rfl) ?_
  refine z_alen hF hG u1 0 hu1 (eu1 _) rfl rfl dJ7_fill_53178_3 ?_
  refine lv_topi (fun y2 ey2 => ?_)
  replace hw := hw y2 ey2
  refine lv_istore_n (lv' := [(3, .int y2), (2, .int y1), (0, .ref (E.2.1 u1)), (1, .int a2)]) hx hb dJ7_fill_53178_4 rfl hl (by decide) rfl (fun ls hl => ?_)
  obtain ⟨n5, hw⟩ := hw
  exact J5 n5 y1 y2 Z _ _ _ hG (lv_sub hl [2, 3, 1, 0] rfl) hw
theorem hS_yJ7_fill_53178 : yJ7_fill_53178.cls ≠ "java/lang/invoke/MethodHandle" ∧ yJ7_fill_53178.cls ≠ "java/lang/invoke/VarHandle" ∧ (parseMethodDescriptor yJ7_fill_53178.desc).map (fun d => d.parameters.length) = some 2 := by decide +kernel
set_option maxHeartbeats 4000000 in
set_option maxRecDepth 100000 in
theorem kX6_holdRow (l : Launch) (E : zE) (Z : zS) (v : Nat) (a1 : Int32) (a2 : Int32) (hv : v < 8) {K : zS → Prop} (hw : wX6_holdRow v a1 a2 Z K) : zCv l yX6_holdRow wsX6_holdRow ({ frames := 1, cells := 0, slots := 0, locals := 23 } : Room) E Z [.ref (E.2.1 (60 + v)), .int a1, .int a2] K := by
  refine z_bodyv (cc := cX6_holdRow) (nL := 3) (by decide) rfl (Nat.le_of_ble_eq_true rfl) ?_
  intro p e R s m args below meth c ls hfr hlo hF hr hlk hG hl
  have hx := hF.1.1
  have hb := hF.1.2.1
  have hown := hF.1.2.2.2.1
  have hts := hF.1.2.2.2.2
  have in6 : ∀ w ∈ u_ws RX6 TX6 6, w ∈ wsX6_holdRow := fun _ h => List.mem_cons_of_mem _ (List.mem_append_right _ h)
  have hl : lv_has ls 3 [(0, .ref (E.2.1 (60 + v))), (1, .int a1), (2, .int a2)] := hl
  unfold wX6_holdRow at hw
  refine lv_aload_n hx hb dX6_holdRow_0 rfl (lv_at hl 0 rfl) ?_
  refine lv_iconst (v := 2) hx hb dX6_holdRow_1 (by decide) ?_
  refine z_put hF hG (60 + v) (zc_sh hv) (z_sh hv) rfl in6 tyX6_ok nmX6 0 (by decide) (List.mem_of_getElem? (i := 1) rfl) rfl rfl (tyX6_ok 0 (by decide)) rfl rfl (Nat.le_of_ble_eq_true rfl) 2 (z_sh hv) dX6_holdRow_2 (fun Z1 H locs eZ1 hG => ?_)
  replace hw := hw Z1 eZ1
  refine lv_aload_n hx hb dX6_holdRow_5 rfl (lv_at hl 0 rfl) ?_
  refine lv_iload_n hx hb dX6_holdRow_6 rfl (lv_at hl 1 rfl) ?_
  refine z_put hF hG (60 + v) (zc_sh hv) (z_sh hv) rfl in6 tyX6_ok nmX6 3 (by decide) (List.mem_of_getElem? (i := 2) rfl) rfl rfl (tyX6_ok 3 (by decide)) rfl rfl (Nat.le_of_ble_eq_true rfl) a1 (z_sh hv) dX6_holdRow_7 (fun Z2 H locs eZ2 hG => ?_)
  replace hw := hw Z2 eZ2
  refine lv_aload_n hx hb dX6_holdRow_10 rfl (lv_at hl 0 rfl) ?_
  refine lv_iload_n hx hb dX6_holdRow_11 rfl (lv_at hl 2 rfl) ?_
  refine z_put hF hG (60 + v) (zc_sh hv) (z_sh hv) rfl in6 tyX6_ok nmX6 4 (by decide) (List.mem_of_getElem? (i := 3) rfl) rfl rfl (tyX6_ok 4 (by decide)) rfl rfl (Nat.le_of_ble_eq_true rfl) a2 (z_sh hv) dX6_holdRow_12 (fun Z3 H locs eZ3 hG => ?_)
  replace hw := hw Z3 eZ3
  refine lv_aload_n hx hb dX6_holdRow_15 rfl (lv_at hl 0 rfl) ?_
  refine z_get hF hG (60 + v) (zc_sh hv) (z_sh hv) rfl in6 5 (by decide) (List.mem_of_getElem? (i := 4) rfl) rfl rfl dX6_holdRow_16 ?_
  refine lv_iconst (v := 0) hx hb dX6_holdRow_19 (by decide) ?_
  refine z_cv (va_runS (rest := []) hF.1 (kJ7_fill_53178 l E Z3 (68 + v) 100 0 (zc_el hv) (fun _ => (z_el hv)) hw _) (va_cwS 2 hts gX6_holdRow_J7_fill_53178 rfl rfl rfl hS_yJ7_fill_53178 ⟨Nat.le_trans (Nat.le_of_ble_eq_true rfl) hfr, Nat.le_trans (Nat.le_of_ble_eq_true rfl) hlo⟩) (z_preS hF hG) rfl rfl hl.1 rfl (lv_room (Nat.le_of_ble_eq_true rfl)) dX6_holdRow_20 ⟨Nat.zero_le _, Nat.zero_le _⟩) hG (fun Z4 H locs hw hG => ?_)
  exact z_vret hF hG hr hlk hw dX6_holdRow_23
set_option maxHeartbeats 4000000 in
set_option maxRecDepth 100000 in
theorem kX6_hasPlaces (l : Launch) (E : zE) (Z : zS) (v : Nat) (a1 : Int32) (a2 : Int32) (hv : v < 8) {K : Int32 → zS → Prop} (hw : wX6_hasPlaces v a1 a2 Z K) : zCi l yX6_hasPlaces wsX6_hasPlaces ({ frames := 1, cells := 0, slots := 0, locals := 22 } : Room) E Z [.ref (E.2.1 (60 + v)), .int a1, .int a2] K := by
  refine z_bodyi (cc := cX6_hasPlaces) (nL := 3) (ret := .boolean) (by decide) rfl (Nat.le_of_ble_eq_true rfl) ?_
  intro p e R s m args below meth c ls hfr hlo hF hr hlk hG hl
  have hx := hF.1.1
  have hb := hF.1.2.1
  have hown := hF.1.2.2.2.1
  have hts := hF.1.2.2.2.2
  have in6 : ∀ w ∈ u_ws RX6 TX6 6, w ∈ wsX6_hasPlaces := fun _ h => List.mem_cons_of_mem _ (List.mem_append_right _ h)
  have hl : lv_has ls 3 [(0, .ref (E.2.1 (60 + v))), (1, .int a1), (2, .int a2)] := hl
  unfold wX6_hasPlaces at hw
  refine lv_iload_n hx hb dX6_hasPlaces_0 rfl (lv_at hl 1 rfl) ?_
  refine lv_iconst (v := 0) hx hb dX6_hasPlaces_1 (by decide) ?_
  refine lv_aload_n hx hb dX6_hasPlaces_2 rfl (lv_at hl 0 rfl) ?_
  refine z_get hF hG (60 + v) (zc_sh hv) (z_sh hv) rfl in6 4 (by decide) (List.mem_of_getElem? (i := 1) rfl) rfl rfl dX6_hasPlaces_3 ?_
  refine z_ci (va_runSN (rest := []) hF.1 (kX11_within l E Z a1 0 ((Z (60 + v) 4))  hw _) ⟨va_cnB 3 hts gX6_hasPlaces_X11_within_n38 rfl rfl rfl hF.2.2.1.2.2.1 (hts (.initialized RX11) (List.mem_of_getElem? (i := 3) rfl)) hS_yX11_within ⟨Nat.le_trans (Nat.le_of_ble_eq_true rfl) hfr, Nat.le_trans (Nat.le_of_ble_eq_true rfl) hlo⟩, hts (.static yX11_within) (List.mem_of_getElem? (i := 2) rfl), trivial⟩ (z_preS hF hG) rfl rfl hl.1 rfl (lv_room (Nat.le_of_ble_eq_true rfl)) dX6_hasPlaces_6 ⟨Nat.zero_le _, Nat.zero_le _⟩) hG (fun r2 Z1 H locs hw hG => ?_)
  refine lv_if_eq (tgt := 30) hx hb dX6_hasPlaces_9 (by decide) (fun c3 => ?_) (fun c3 => ?_)
  · replace hw := hw.1 c3
    refine lv_iconst (v := 0) hx hb dX6_hasPlaces_30 (by decide) ?_
    exact z_zret hF hG hr hlk (by decide) hw dX6_hasPlaces_31
  replace hw := hw.2 c3
  refine lv_iload_n hx hb dX6_hasPlaces_12 rfl (lv_at hl 2 rfl) ?_
  refine lv_iconst (v := 0) hx hb dX6_hasPlaces_13 (by decide) ?_
  refine lv_aload_n hx hb dX6_hasPlaces_14 rfl (lv_at hl 0 rfl) ?_
  refine z_get hF hG (60 + v) (zc_sh hv) (z_sh hv) rfl in6 4 (by decide) (List.mem_of_getElem? (i := 1) rfl) rfl rfl dX6_hasPlaces_15 ?_
  refine lv_iload_n hx hb dX6_hasPlaces_18 rfl (lv_at hl 1 rfl) ?_
  refine lv_isub hx hb dX6_hasPlaces_19 ?_
  refine z_ci (va_runSN (rest := []) hF.1 (kX11_within l E Z1 a2 0 (((Z1 (60 + v) 4) - a1))  hw _) ⟨va_cnB 3 hts gX6_hasPlaces_X11_within_n38 rfl rfl rfl hF.2.2.1.2.2.1 (hts (.initialized RX11) (List.mem_of_getElem? (i := 3) rfl)) hS_yX11_within ⟨Nat.le_trans (Nat.le_of_ble_eq_true rfl) hfr, Nat.le_trans (Nat.le_of_ble_eq_true rfl) hlo⟩, hts (.static yX11_within) (List.mem_of_getElem? (i := 2) rfl), trivial⟩ (z_preS hF hG) rfl rfl hl.1 rfl (lv_room (Nat.le_of_ble_eq_true rfl)) dX6_hasPlaces_20 ⟨Nat.zero_le _, Nat.zero_le _⟩) hG (fun r5 Z4 H locs hw hG => ?_)
  refine lv_if_eq (tgt := 30) hx hb dX6_hasPlaces_23 (by decide) (fun c6 => ?_) (fun c6 => ?_)
  · replace hw := hw.1 c6
    refine lv_iconst (v := 0) hx hb dX6_hasPlaces_30 (by decide) ?_
    exact z_zret hF hG hr hlk (by decide) hw dX6_hasPlaces_31
  replace hw := hw.2 c6
  refine lv_iconst (v := 1) hx hb dX6_hasPlaces_26 (by decide) ?_
  refine lv_goto (tgt := 31) hx hb dX6_hasPlaces_27 (by decide) ?_
  exact z_zret hF hG hr hlk (by decide) hw dX6_hasPlaces_31
set_option maxHeartbeats 4000000 in
set_option maxRecDepth 100000 in
theorem kX6_at (l : Launch) (E : zE) (Z : zS) (v : Nat) (a1 : Int32) (hv : v < 8) {K : Int32 → zS → Prop} (hw : wX6_at v a1 Z K) : zCi l yX6_at wsX6_at ({ frames := 1, cells := 0, slots := 0, locals := 22 } : Room) E Z [.ref (E.2.1 (60 + v)), .int a1] K := by
  refine z_bodyi (cc := cX6_at) (nL := 2) (ret := .int) (by decide) rfl (Nat.le_of_ble_eq_true rfl) ?_
  intro p e R s m args below meth c ls hfr hlo hF hr hlk hG hl
  have hx := hF.1.1
  have hb := hF.1.2.1
  have hown := hF.1.2.2.2.1
  have hts := hF.1.2.2.2.2
  have in6 : ∀ w ∈ u_ws RX6 TX6 6, w ∈ wsX6_at := fun _ h => List.mem_cons_of_mem _ (List.mem_append_right _ h)
  have hl : lv_has ls 2 [(0, .ref (E.2.1 (60 + v))), (1, .int a1)] := hl
  unfold wX6_at at hw
  refine lv_iload_n hx hb dX6_at_0 rfl (lv_at hl 1 rfl) ?_
  refine lv_iconst (v := 0) hx hb dX6_at_1 (by decide) ?_
  refine lv_bipush (v := 99) hx hb dX6_at_2 (by decide) ?_
  refine z_ci (va_runSN (rest := []) hF.1 (kX11_within l E Z a1 0 99  hw _) ⟨va_cnB 3 hts gX6_at_X11_within_n38 rfl rfl rfl hF.2.2.1.2.2.1 (hts (.initialized RX11) (List.mem_of_getElem? (i := 3) rfl)) hS_yX11_within ⟨Nat.le_trans (Nat.le_of_ble_eq_true rfl) hfr, Nat.le_trans (Nat.le_of_ble_eq_true rfl) hlo⟩, hts (.static yX11_within) (List.mem_of_getElem? (i := 2) rfl), trivial⟩ (z_preS hF hG) rfl rfl hl.1 rfl (lv_room (Nat.le_of_ble_eq_true rfl)) dX6_at_4 ⟨Nat.zero_le _, Nat.zero_le _⟩) hG (fun r2 Z1 H locs hw hG => ?_)
  refine lv_if_eq (tgt := 19) hx hb dX6_at_7 (by decide) (fun c3 => ?_) (fun c3 => ?_)
  · replace hw := hw.1 c3
    refine lv_iconst (v := 0) hx hb dX6_at_19 (by decide) ?_
    exact z_iret hF hG hr hlk hw dX6_at_20
  replace hw := hw.2 c3
  refine lv_aload_n hx hb dX6_at_10 rfl (lv_at hl 0 rfl) ?_
  refine z_get hF hG (60 + v) (zc_sh hv) (z_sh hv) rfl in6 5 (by decide) (List.mem_of_getElem? (i := 1) rfl) rfl rfl dX6_at_11 ?_
  refine lv_iload_n hx hb dX6_at_14 rfl (lv_at hl 1 rfl) ?_
  obtain ⟨q4, hw⟩ := hw
  refine z_iald hF hG (68 + v) (zc_el hv) (z_el hv) q4 dX6_at_15 ?_
  refine lv_goto (tgt := 20) hx hb dX6_at_16 (by decide) ?_
  exact z_iret hF hG hr hlk hw dX6_at_20
set_option maxHeartbeats 4000000 in
set_option maxRecDepth 100000 in
theorem kX6_setElement (l : Launch) (E : zE) (Z : zS) (v : Nat) (a1 : Int32) (a2 : Int32) (hv : v < 8) {K : zS → Prop} (hw : wX6_setElement v a1 a2 Z K) : zCv l yX6_setElement wsX6_setElement ({ frames := 0, cells := 0, slots := 0, locals := 0 } : Room) E Z [.ref (E.2.1 (60 + v)), .int a1, .int a2] K := by
  refine z_bodyv (cc := cX6_setElement) (nL := 3) (by decide) rfl (Nat.le_of_ble_eq_true rfl) ?_
  intro p e R s m args below meth c ls hfr hlo hF hr hlk hG hl
  have hx := hF.1.1
  have hb := hF.1.2.1
  have hown := hF.1.2.2.2.1
  have hts := hF.1.2.2.2.2
  have in6 : ∀ w ∈ u_ws RX6 TX6 6, w ∈ wsX6_setElement := fun _ h => List.mem_cons_of_mem _ (List.mem_append_right _ h)
  have hl : lv_has ls 3 [(0, .ref (E.2.1 (60 + v))), (1, .int a1), (2, .int a2)] := hl
  have J31 : ∀ (s0 : Int32) (s1 : Int32) (Z : zS) (H : Heap) (locs : List Loc) (ls : Array Slot), zG E Z s H locs → lv_has ls 3 [] → wX6_setElement_31 v a1 a2 s0 s1 Z K → W p l e R s m args below meth c H locs 0 0 (zQv E K below args s) (F0 m 31 ls [.int s0, .int s1, .ref (E.2.1 (68 + v))]) := by
    intro s0 s1 Z H locs ls hG hl hw
    unfold wX6_setElement_31 at hw
    obtain ⟨q3, hw⟩ := hw
    refine z_iast hF hG (68 + v) (zc_el hv) (fun _ => (z_el hv)) q3 dX6_setElement_31 (fun Z4 H locs eZ4 hG => ?_)
    replace hw := hw Z4 eZ4
    exact z_vret hF hG hr hlk hw dX6_setElement_32
  unfold wX6_setElement at hw
  refine lv_aload_n hx hb dX6_setElement_0 rfl (lv_at hl 0 rfl) ?_
  refine z_get hF hG (60 + v) (zc_sh hv) (z_sh hv) rfl in6 5 (by decide) (List.mem_of_getElem? (i := 1) rfl) rfl rfl dX6_setElement_1 ?_
  refine lv_iload_n hx hb dX6_setElement_4 rfl (lv_at hl 1 rfl) ?_
  refine lv_aload_n hx hb dX6_setElement_5 rfl (lv_at hl 0 rfl) ?_
  refine z_get hF hG (60 + v) (zc_sh hv) (z_sh hv) rfl in6 3 (by decide) (List.mem_of_getElem? (i := 2) rfl) rfl rfl dX6_setElement_6 ?_
  refine lv_if_ne (tgt := 17) hx hb dX6_setElement_9 (by decide) (fun c1 => ?_) (fun c1 => ?_)
  · replace hw := hw.1 c1
    refine lv_aload_n hx hb dX6_setElement_17 rfl (lv_at hl 0 rfl) ?_
    refine z_get hF hG (60 + v) (zc_sh hv) (z_sh hv) rfl in6 3 (by decide) (List.mem_of_getElem? (i := 2) rfl) rfl rfl dX6_setElement_18 ?_
    refine lv_iconst (v := 1) hx hb dX6_setElement_21 (by decide) ?_
    refine lv_icmp_ne (tgt := 30) hx hb dX6_setElement_22 (by decide) (fun c2 => ?_) (fun c2 => ?_)
    · replace hw := hw.1 c2
      refine lv_iload_n hx hb dX6_setElement_30 rfl (lv_at hl 2 rfl) ?_
      exact J31 a2 a1 Z _ _ _ hG (lv_sub hl [] rfl) hw
    replace hw := hw.2 (fun h => h c2)
    refine lv_iload_n hx hb dX6_setElement_25 rfl (lv_at hl 2 rfl) ?_
    refine lv_i2s hx hb dX6_setElement_26 rfl ?_
    refine lv_goto (tgt := 31) hx hb dX6_setElement_27 (by decide) ?_
    exact J31 ((Int16.toInt32 (Int32.toInt16 a2))) a1 Z _ _ _ hG (lv_sub hl [] rfl) hw
  replace hw := hw.2 (fun h => h c1)
  refine lv_iload_n hx hb dX6_setElement_12 rfl (lv_at hl 2 rfl) ?_
  refine lv_i2b hx hb dX6_setElement_13 rfl ?_
  refine lv_goto (tgt := 31) hx hb dX6_setElement_14 (by decide) ?_
  exact J31 ((Int8.toInt32 (Int32.toInt8 a2))) a1 Z _ _ _ hG (lv_sub hl [] rfl) hw
theorem hS_yX6_at : yX6_at.cls ≠ "java/lang/invoke/MethodHandle" ∧ yX6_at.cls ≠ "java/lang/invoke/VarHandle" ∧ (parseMethodDescriptor yX6_at.desc).map (fun d => d.parameters.length) = some 1 := by decide +kernel
set_option maxHeartbeats 4000000 in
set_option maxRecDepth 100000 in
theorem kX6_isSkipped (l : Launch) (E : zE) (Z : zS) (v : Nat) (a1 : Int32) (hv : v < 8) {K : Int32 → zS → Prop} (hw : wX6_isSkipped v a1 Z K) : zCi l yX6_isSkipped wsX6_isSkipped ({ frames := 2, cells := 0, slots := 0, locals := 43 } : Room) E Z [.ref (E.2.1 (60 + v)), .int a1] K := by
  refine z_bodyi (cc := cX6_isSkipped) (nL := 2) (ret := .boolean) (by decide) rfl (Nat.le_of_ble_eq_true rfl) ?_
  intro p e R s m args below meth c ls hfr hlo hF hr hlk hG hl
  have hx := hF.1.1
  have hb := hF.1.2.1
  have hown := hF.1.2.2.2.1
  have hts := hF.1.2.2.2.2
  have in6 : ∀ w ∈ u_ws RX6 TX6 6, w ∈ wsX6_isSkipped := fun _ h => List.mem_cons_of_mem _ (List.mem_append_right _ h)
  have hl : lv_has ls 2 [(0, .ref (E.2.1 (60 + v))), (1, .int a1)] := hl
  have J33 : ∀ (s0 : Int32) (s1 : Int32) (Z : zS) (H : Heap) (locs : List Loc) (ls : Array Slot), zG E Z s H locs → lv_has ls 2 [] → wX6_isSkipped_33 v a1 s0 s1 Z K → W p l e R s m args below meth c H locs 0 0 (zQi E K below args s) (F0 m 33 ls [.int s0, .int s1]) := by
    intro s0 s1 Z H locs ls hG hl hw
    unfold wX6_isSkipped_33 at hw
    refine lv_icmp_ne (tgt := 40) hx hb dX6_isSkipped_33 (by decide) (fun c5 => ?_) (fun c5 => ?_)
    · replace hw := hw.1 c5
      refine lv_iconst (v := 0) hx hb dX6_isSkipped_40 (by decide) ?_
      exact z_zret hF hG hr hlk (by decide) hw dX6_isSkipped_41
    replace hw := hw.2 (fun h => h c5)
    refine lv_iconst (v := 1) hx hb dX6_isSkipped_36 (by decide) ?_
    refine lv_goto (tgt := 41) hx hb dX6_isSkipped_37 (by decide) ?_
    exact z_zret hF hG hr hlk (by decide) hw dX6_isSkipped_41
  unfold wX6_isSkipped at hw
  refine lv_aload_n hx hb dX6_isSkipped_0 rfl (lv_at hl 0 rfl) ?_
  refine lv_iload_n hx hb dX6_isSkipped_1 rfl (lv_at hl 1 rfl) ?_
  refine z_ci (va_runV (rest := []) hF.1 (kX6_at l E Z v a1 hv hw _) (cwV 1 hts gX6_isSkipped_X6_at rfl rfl rfl ⟨rfl, hS_yX6_at⟩ ⟨Nat.le_trans (Nat.le_of_ble_eq_true rfl) hfr, Nat.le_trans (Nat.le_of_ble_eq_true rfl) hlo⟩) (z_preV hF hG (60 + v) (zc_sh hv) (z_sh hv) rfl) rfl rfl hl.1 rfl (lv_room (Nat.le_of_ble_eq_true rfl)) dX6_isSkipped_2 ⟨Nat.zero_le _, Nat.zero_le _⟩) hG (fun r2 Z1 H locs hw hG => ?_)
  refine lv_aload_n hx hb dX6_isSkipped_5 rfl (lv_at hl 0 rfl) ?_
  refine z_get hF hG (60 + v) (zc_sh hv) (z_sh hv) rfl in6 3 (by decide) (List.mem_of_getElem? (i := 1) rfl) rfl rfl dX6_isSkipped_6 ?_
  refine lv_if_ne (tgt := 17) hx hb dX6_isSkipped_9 (by decide) (fun c3 => ?_) (fun c3 => ?_)
  · replace hw := hw.1 c3
    refine lv_aload_n hx hb dX6_isSkipped_17 rfl (lv_at hl 0 rfl) ?_
    refine z_get hF hG (60 + v) (zc_sh hv) (z_sh hv) rfl in6 3 (by decide) (List.mem_of_getElem? (i := 1) rfl) rfl rfl dX6_isSkipped_18 ?_
    refine lv_iconst (v := 1) hx hb dX6_isSkipped_21 (by decide) ?_
    refine lv_icmp_ne (tgt := 31) hx hb dX6_isSkipped_22 (by decide) (fun c4 => ?_) (fun c4 => ?_)
    · replace hw := hw.1 c4
      refine lv_ldc hx hb hown (hts (.constant RX6 46 (-2147483648)) (List.mem_of_getElem? (i := 2) rfl)) dX6_isSkipped_31 ?_
      exact J33 ((-2147483648)) r2 Z1 _ _ _ hG (lv_sub hl [] rfl) hw
    replace hw := hw.2 (fun h => h c4)
    refine lv_sipush (v := (-32768)) hx hb dX6_isSkipped_25 (by decide) ?_
    refine lv_goto (tgt := 33) hx hb dX6_isSkipped_28 (by decide) ?_
    exact J33 ((-32768)) r2 Z1 _ _ _ hG (lv_sub hl [] rfl) hw
  replace hw := hw.2 (fun h => h c3)
  refine lv_bipush (v := (-128)) hx hb dX6_isSkipped_12 (by decide) ?_
  refine lv_goto (tgt := 33) hx hb dX6_isSkipped_14 (by decide) ?_
  exact J33 ((-128)) r2 Z1 _ _ _ hG (lv_sub hl [] rfl) hw
theorem hS_yX0_worth : yX0_worth.cls ≠ "java/lang/invoke/MethodHandle" ∧ yX0_worth.cls ≠ "java/lang/invoke/VarHandle" ∧ (parseMethodDescriptor yX0_worth.desc).map (fun d => d.parameters.length) = some 1 := by decide +kernel
set_option maxHeartbeats 4000000 in
set_option maxRecDepth 100000 in
theorem kX7_worth (l : Launch) (E : zE) (Z : zS) (v : Int32) (a1 : Int32) {K : Int32 → zS → Prop} (hw : wX7_worth v a1 Z K) : zCi l yX7_worth wsX7_worth ({ frames := 1, cells := 0, slots := 0, locals := 21 } : Room) E Z [.ref (E.2.1 (84 + (v : Int32).toNatClampNeg)), .int a1] K := by
  refine z_bodyi (cc := cX7_worth) (nL := 2) (ret := .int) (by decide) rfl (Nat.le_of_ble_eq_true rfl) ?_
  intro p e R s m args below meth c ls hfr hlo hF hr hlk hG hl
  have hx := hF.1.1
  have hb := hF.1.2.1
  have hown := hF.1.2.2.2.1
  have hts := hF.1.2.2.2.2
  have hl : lv_has ls 2 [(0, .ref (E.2.1 (84 + (v : Int32).toNatClampNeg))), (1, .int a1)] := hl
  unfold wX7_worth at hw
  refine lv_aload_n hx hb dX7_worth_0 rfl (lv_at hl 0 rfl) ?_
  refine lv_iload_n hx hb dX7_worth_1 rfl (lv_at hl 1 rfl) ?_
  obtain ⟨hki, hw⟩ := hw
  obtain ⟨C0, cC0, hcat, hpv⟩ := z_preK hF hG (As := [.int a1]) hki
  refine z_ci (va_runSU (rest := []) hcat hF.1 (kX0_worth l E Z v a1  hw _) (va_cwSU 1 hts gX7_worth_X0_worth_s26 rfl rfl rfl ⟨by decide, hS_yX0_worth.2.2⟩ ⟨Nat.le_trans (Nat.le_of_ble_eq_true rfl) hfr, Nat.le_trans (Nat.le_of_ble_eq_true rfl) hlo⟩) hpv rfl rfl hl.1 rfl (lv_room (Nat.le_of_ble_eq_true rfl)) dX7_worth_2 ⟨Nat.zero_le _, Nat.zero_le _⟩) hG (fun r2 Z1 H locs hw hG => ?_)
  refine lv_iconst (v := 3) hx hb dX7_worth_5 (by decide) ?_
  refine lv_iadd hx hb dX7_worth_6 ?_
  exact z_iret hF hG hr hlk hw dX7_worth_7
