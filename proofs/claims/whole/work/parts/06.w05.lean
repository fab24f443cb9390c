theorem hS_yX6_isSkipped : yX6_isSkipped.cls ≠ "java/lang/invoke/MethodHandle" ∧ yX6_isSkipped.cls ≠ "java/lang/invoke/VarHandle" ∧ (parseMethodDescriptor yX6_isSkipped.desc).map (fun d => d.parameters.length) = some 1 := by decide +kernel
set_option maxHeartbeats 4000000 in
set_option maxRecDepth 100000 in
theorem kX11_goesOnAsTold (l : Launch) (E : zE) (Z : zS) (u1 : Nat) (hu1 : u1 < 8) {K : Int32 → zS → Prop} (hw : wX11_goesOnAsTold u1 Z K) : zCi l yX11_goesOnAsTold wsX11_goesOnAsTold ({ frames := 5, cells := 0, slots := 0, locals := 100 } : Room) E Z [.ref (E.2.1 96), .ref (E.2.1 (60 + u1))] K := by
  refine z_bodyi (cc := cX11_goesOnAsTold) (nL := 4) (ret := .boolean) (by decide) rfl (Nat.le_of_ble_eq_true rfl) ?_
  intro p e R s m args below meth c ls hfr hlo hF hr hlk hG hl
  have hx := hF.1.1
  have hb := hF.1.2.1
  have hown := hF.1.2.2.2.1
  have hts := hF.1.2.2.2.2
  have in3 : ∀ w ∈ u_ws RX3 TX3 5, w ∈ wsX11_goesOnAsTold := fun _ h => List.mem_cons_of_mem _ (List.mem_append_left _ (List.mem_append_right _ h))
  have in6 : ∀ w ∈ u_ws RX6 TX6 6, w ∈ wsX11_goesOnAsTold := fun _ h => List.mem_cons_of_mem _ (List.mem_append_left _ (List.mem_append_left _ (List.mem_append_left _ (List.mem_append_right _ h))))
  have in11 : ∀ w ∈ u_ws RX11 TX11 11, w ∈ wsX11_goesOnAsTold := fun _ h => List.mem_cons_of_mem _ (List.mem_append_left _ (List.mem_append_left _ (List.mem_append_right _ h)))
  have hl : lv_has ls 4 [(0, .ref (E.2.1 96)), (1, .ref (E.2.1 (60 + u1)))] := hl
  have S2 : ∀ (L2 : Int32 → zS → Prop), (∀ (x2 : Int32) (Z : zS) (H : Heap) (locs : List Loc) (ls : Array Slot), zG E Z s H locs → lv_has ls 4 [(0, .ref (E.2.1 96)), (1, .ref (E.2.1 (60 + u1))), (2, .int x2)] → L2 x2 Z → W p l e R s m args below meth c H locs 0 0 (zQi E K below args s) (F0 m 2 ls [])) → ∀ (x2 : Int32) (Z : zS) (H : Heap) (locs : List Loc) (ls : Array Slot), zG E Z s H locs → lv_has ls 4 [(0, .ref (E.2.1 96)), (1, .ref (E.2.1 (60 + u1))), (2, .int x2)] → wX11_goesOnAsTold_2b L2 u1 x2 Z K → W p l e R s m args below meth c H locs 0 0 (zQi E K below args s) (F0 m 2 ls []) := by
    intro L2 ih2
    have J62 : ∀ (x2 : Int32) (Z : zS) (H : Heap) (locs : List Loc) (ls : Array Slot), zG E Z s H locs → lv_has ls 4 [(0, .ref (E.2.1 96)), (1, .ref (E.2.1 (60 + u1))), (2, .int x2)] → wX11_goesOnAsTold_62 L2 u1 x2 Z K → W p l e R s m args below meth c H locs 0 0 (zQi E K below args s) (F0 m 62 ls []) := by
      intro x2 Z H locs ls hG hl hw
      unfold wX11_goesOnAsTold_62 at hw
      obtain ⟨y11, ey11⟩ : ∃ y : Int32, y = x2 + 1 := ⟨_, rfl⟩
      replace hw := hw y11 ey11
      refine lv_iinc (v := y11) (lv' := [(2, .int y11), (0, .ref (E.2.1 96)), (1, .ref (E.2.1 (60 + u1)))]) hx hb dX11_goesOnAsTold_62 hl (k := 2) rfl (by rw [ey11]; rfl) (by decide) rfl (fun ls hl => ?_)
      refine lv_goto (tgt := 2) hx hb dX11_goesOnAsTold_65 (by decide) ?_
      exact ih2 y11 Z _ _ _ hG (lv_sub hl [1, 2, 0] rfl) hw
    have J42 : ∀ (x2 : Int32) (s0 : Int32) (Z : zS) (H : Heap) (locs : List Loc) (ls : Array Slot), zG E Z s H locs → lv_has ls 4 [(0, .ref (E.2.1 96)), (1, .ref (E.2.1 (60 + u1))), (2, .int x2)] → wX11_goesOnAsTold_42 L2 u1 x2 s0 Z K → W p l e R s m args below meth c H locs 0 0 (zQi E K below args s) (F0 m 42 ls [.int s0]) := by
      intro x2 s0 Z H locs ls hG hl hw
      unfold wX11_goesOnAsTold_42 at hw
      refine lv_istore_n (lv' := [(3, .int s0), (0, .ref (E.2.1 96)), (1, .ref (E.2.1 (60 + u1))), (2, .int x2)]) hx hb dX11_goesOnAsTold_42 rfl hl (by decide) rfl (fun ls hl => ?_)
      refine lv_aload_n hx hb dX11_goesOnAsTold_43 rfl (lv_at hl 2 rfl) ?_
      refine lv_iload_n hx hb dX11_goesOnAsTold_44 rfl (lv_at hl 3 rfl) ?_
      refine z_ci (va_runV (rest := []) hF.1 (kX6_isSkipped l E Z u1 x2 hu1 hw _) (cwV 1 hts gX11_goesOnAsTold_X6_isSkipped rfl rfl rfl ⟨rfl, hS_yX6_isSkipped⟩ ⟨Nat.le_trans (Nat.le_of_ble_eq_true rfl) hfr, Nat.le_trans (Nat.le_of_ble_eq_true rfl) hlo⟩) (z_preV hF hG (60 + u1) (zc_sh hu1) (z_sh hu1) rfl) rfl rfl hl.1 rfl (lv_room (Nat.le_of_ble_eq_true rfl)) dX11_goesOnAsTold_45 ⟨Nat.zero_le _, Nat.zero_le _⟩) hG (fun r6 Z5 H locs hw hG => ?_)
      refine lv_if_ne (tgt := 62) hx hb dX11_goesOnAsTold_48 (by decide) (fun c7 => ?_) (fun c7 => ?_)
      · replace hw := hw.1 c7
        exact J62 x2 Z5 _ _ _ hG (lv_sub hl [1, 2, 3] rfl) hw
      replace hw := hw.2 (fun h => h c7)
      refine lv_aload_n hx hb dX11_goesOnAsTold_51 rfl (lv_at hl 2 rfl) ?_
      refine lv_iload_n hx hb dX11_goesOnAsTold_52 rfl (lv_at hl 3 rfl) ?_
      refine z_ci (va_runV (rest := []) hF.1 (kX6_at l E Z5 u1 x2 hu1 hw _) (cwV 1 hts gX11_goesOnAsTold_X6_at rfl rfl rfl ⟨rfl, hS_yX6_at⟩ ⟨Nat.le_trans (Nat.le_of_ble_eq_true rfl) hfr, Nat.le_trans (Nat.le_of_ble_eq_true rfl) hlo⟩) (z_preV hF hG (60 + u1) (zc_sh hu1) (z_sh hu1) rfl) rfl rfl hl.1 rfl (lv_room (Nat.le_of_ble_eq_true rfl)) dX11_goesOnAsTold_53 ⟨Nat.zero_le _, Nat.zero_le _⟩) hG (fun r9 Z8 H locs hw hG => ?_)
      refine lv_iload_n hx hb dX11_goesOnAsTold_56 rfl (lv_at hl 0 rfl) ?_
      refine lv_icmp_eq (tgt := 62) hx hb dX11_goesOnAsTold_57 (by decide) (fun c10 => ?_) (fun c10 => ?_)
      · replace hw := hw.1 c10
        exact J62 x2 Z8 _ _ _ hG (lv_sub hl [1, 2, 3] rfl) hw
      replace hw := hw.2 c10
      refine lv_iconst (v := 0) hx hb dX11_goesOnAsTold_60 (by decide) ?_
      exact z_zret hF hG hr hlk (by decide) hw dX11_goesOnAsTold_61
    intro x2 Z H locs ls hG hl hw
    unfold wX11_goesOnAsTold_2b at hw
    refine lv_iload_n hx hb dX11_goesOnAsTold_2 rfl (lv_at hl 2 rfl) ?_
    refine lv_aload_n hx hb dX11_goesOnAsTold_3 rfl (lv_at hl 1 rfl) ?_
    refine z_get hF hG (60 + u1) (zc_sh hu1) (z_sh hu1) rfl in6 4 (by decide) (List.mem_of_getElem? (i := 1) rfl) rfl rfl dX11_goesOnAsTold_4 ?_
    refine lv_icmp_ge (tgt := 68) hx hb dX11_goesOnAsTold_7 (by decide) (fun c2 => ?_) (fun c2 => ?_)
    · replace hw := hw.1 c2
      refine lv_iconst (v := 1) hx hb dX11_goesOnAsTold_68 (by decide) ?_
      exact z_zret hF hG hr hlk (by decide) hw dX11_goesOnAsTold_69
    replace hw := hw.2 c2
    refine lv_aload_n hx hb dX11_goesOnAsTold_10 rfl (lv_at hl 0 rfl) ?_
    refine z_get hF hG 96 (by decide) z_gs rfl in11 2 (by decide) (List.mem_of_getElem? (i := 2) rfl) rfl rfl dX11_goesOnAsTold_11 ?_
    refine lv_iconst (v := 0) hx hb dX11_goesOnAsTold_14 (by decide) ?_
    refine z_cv (va_runV (rest := []) hF.1 (kX3_goOn l E Z 1 0 (by decide) hw _) (cwV 1 hts gX11_goesOnAsTold_X3_goOn rfl rfl rfl ⟨rfl, hS_yX3_goOn⟩ ⟨Nat.le_trans (Nat.le_of_ble_eq_true rfl) hfr, Nat.le_trans (Nat.le_of_ble_eq_true rfl) hlo⟩) (z_preV hF hG (54 + 1) (zc_pl (by decide)) (z_pl (by decide)) rfl) rfl rfl hl.1 rfl (lv_room (Nat.le_of_ble_eq_true rfl)) dX11_goesOnAsTold_15 ⟨Nat.zero_le _, Nat.zero_le _⟩) hG (fun Z3 H locs hw hG => ?_)
    refine lv_aload_n hx hb dX11_goesOnAsTold_18 rfl (lv_at hl 0 rfl) ?_
    refine z_get hF hG 96 (by decide) z_gs rfl in11 2 (by decide) (List.mem_of_getElem? (i := 2) rfl) rfl rfl dX11_goesOnAsTold_19 ?_
    refine z_get hF hG (54 + 1) (zc_pl (by decide)) (z_pl (by decide)) rfl in3 4 (by decide) (List.mem_of_getElem? (i := 3) rfl) rfl rfl dX11_goesOnAsTold_22 ?_
    refine lv_bipush (v := (-4)) hx hb dX11_goesOnAsTold_25 (by decide) ?_
    refine lv_icmp_ne (tgt := 35) hx hb dX11_goesOnAsTold_27 (by decide) (fun c4 => ?_) (fun c4 => ?_)
    · replace hw := hw.1 c4
      refine lv_aload_n hx hb dX11_goesOnAsTold_35 rfl (lv_at hl 0 rfl) ?_
      refine z_get hF hG 96 (by decide) z_gs rfl in11 2 (by decide) (List.mem_of_getElem? (i := 2) rfl) rfl rfl dX11_goesOnAsTold_36 ?_
      refine z_get hF hG (54 + 1) (zc_pl (by decide)) (z_pl (by decide)) rfl in3 4 (by decide) (List.mem_of_getElem? (i := 3) rfl) rfl rfl dX11_goesOnAsTold_39 ?_
      exact J42 x2 ((Z3 (54 + 1) 4)) Z3 _ _ _ hG (lv_sub hl [0, 1, 2] rfl) hw
    replace hw := hw.2 (fun h => h c4)
    refine lv_bipush (v := 6) hx hb dX11_goesOnAsTold_30 (by decide) ?_
    refine lv_goto (tgt := 42) hx hb dX11_goesOnAsTold_32 (by decide) ?_
    exact J42 x2 6 Z3 _ _ _ hG (lv_sub hl [0, 1, 2] rfl) hw
  have J2 : ∀ n : Nat, ∀ (x2 : Int32) (Z : zS) (H : Heap) (locs : List Loc) (ls : Array Slot), zG E Z s H locs → lv_has ls 4 [(0, .ref (E.2.1 96)), (1, .ref (E.2.1 (60 + u1))), (2, .int x2)] → wX11_goesOnAsTold_2 u1 K n x2 Z → W p l e R s m args below meth c H locs 0 0 (zQi E K below args s) (F0 m 2 ls []) := by
    intro n
    induction n with
    | zero => intro x2 Z H locs ls hG hl hw; exact hw.elim
    | succ n ih => intro x2 Z H locs ls hG hl hw; exact S2 _ ih x2 Z H locs ls hG hl hw
  unfold wX11_goesOnAsTold at hw
  refine lv_iconst (v := 0) hx hb dX11_goesOnAsTold_0 (by decide) ?_
  refine lv_topi (fun y1 ey1 => ?_)
  replace hw := hw y1 ey1
  refine lv_istore_n (lv' := [(2, .int y1), (0, .ref (E.2.1 96)), (1, .ref (E.2.1 (60 + u1)))]) hx hb dX11_goesOnAsTold_1 rfl hl (by decide) rfl (fun ls hl => ?_)
  obtain ⟨n2, hw⟩ := hw
  exact J2 n2 y1 Z _ _ _ hG (lv_sub hl [1, 2, 0] rfl) hw
theorem hS_yX11_goesOnAsTold : yX11_goesOnAsTold.cls ≠ "java/lang/invoke/MethodHandle" ∧ yX11_goesOnAsTold.cls ≠ "java/lang/invoke/VarHandle" ∧ (parseMethodDescriptor yX11_goesOnAsTold.desc).map (fun d => d.parameters.length) = some 1 := by decide +kernel
set_option maxHeartbeats 4000000 in
set_option maxRecDepth 100000 in
theorem kX11_whoRan (l : Launch) (E : zE) (Z : zS) (a1 : Int32) (a2 : Int32) (a3 : Int32) {K : Int32 → zS → Prop} (hw : wX11_whoRan a1 a2 a3 Z K) : zCi l yX11_whoRan wsX11_whoRan ({ frames := 6, cells := 0, slots := 0, locals := 123 } : Room) E Z [.ref (E.2.1 96), .int a1, .int a2, .int a3] K := by
  refine z_bodyi (cc := cX11_whoRan) (nL := 8) (ret := .int) (by decide) rfl (Nat.le_of_ble_eq_true rfl) ?_
  intro p e R s m args below meth c ls hfr hlo hF hr hlk hG hl
  have hx := hF.1.1
  have hb := hF.1.2.1
  have hown := hF.1.2.2.2.1
  have hts := hF.1.2.2.2.2
  have in3 : ∀ w ∈ u_ws RX3 TX3 5, w ∈ wsX11_whoRan := fun _ h => List.mem_cons_of_mem _ (List.mem_append_left _ (List.mem_append_left _ (List.mem_append_right _ h)))
  have in5 : ∀ w ∈ u_ws RX5 TX5 15, w ∈ wsX11_whoRan := fun _ h => List.mem_cons_of_mem _ (List.mem_append_left _ (List.mem_append_right _ h))
  have in11 : ∀ w ∈ u_ws RX11 TX11 11, w ∈ wsX11_whoRan := fun _ h => List.mem_cons_of_mem _ (List.mem_append_left _ (List.mem_append_left _ (List.mem_append_left _ (List.mem_append_right _ h))))
  have hl : lv_has ls 8 [(0, .ref (E.2.1 96)), (1, .int a1), (2, .int a2), (3, .int a3)] := hl
  have S63 : ∀ (L63 : Int32 → Int32 → Int32 → zS → Prop), (∀ (x5 : Int32) (x6 : Int32) (x7 : Int32) (Z : zS) (H : Heap) (locs : List Loc) (ls : Array Slot), zG E Z s H locs → lv_has ls 8 [(0, .ref (E.2.1 96)), (1, .int a1), (2, .int a2), (3, .int a3), (5, .int x5), (6, .int x6), (7, .int x7)] → L63 x5 x6 x7 Z → W p l e R s m args below meth c H locs 0 0 (zQi E K below args s) (F0 m 63 ls [])) → ∀ (x5 : Int32) (x6 : Int32) (x7 : Int32) (Z : zS) (H : Heap) (locs : List Loc) (ls : Array Slot), zG E Z s H locs → lv_has ls 8 [(0, .ref (E.2.1 96)), (1, .int a1), (2, .int a2), (3, .int a3), (5, .int x5), (6, .int x6), (7, .int x7)] → wX11_whoRan_63b L63 a1 a2 a3 x5 x6 x7 Z K → W p l e R s m args below meth c H locs 0 0 (zQi E K below args s) (F0 m 63 ls []) := by
    intro L63 ih63
    have J143 : ∀ (x5 : Int32) (x6 : Int32) (x7 : Int32) (Z : zS) (H : Heap) (locs : List Loc) (ls : Array Slot), zG E Z s H locs → lv_has ls 8 [(0, .ref (E.2.1 96)), (1, .int a1), (2, .int a2), (3, .int a3), (5, .int x5), (6, .int x6), (7, .int x7)] → wX11_whoRan_143 L63 a1 a2 a3 x5 x6 x7 Z K → W p l e R s m args below meth c H locs 0 0 (zQi E K below args s) (F0 m 143 ls []) := by
      intro x5 x6 x7 Z H locs ls hG hl hw
      unfold wX11_whoRan_143 at hw
      obtain ⟨y29, ey29⟩ : ∃ y : Int32, y = x7 + 1 := ⟨_, rfl⟩
      replace hw := hw y29 ey29
      refine lv_iinc (v := y29) (lv' := [(7, .int y29), (0, .ref (E.2.1 96)), (1, .int a1), (2, .int a2), (3, .int a3), (5, .int x5), (6, .int x6)]) hx hb dX11_whoRan_143 hl (k := 6) rfl (by rw [ey29]; rfl) (by decide) rfl (fun ls hl => ?_)
      refine lv_goto (tgt := 63) hx hb dX11_whoRan_146 (by decide) ?_
      exact ih63 x5 x6 y29 Z _ _ _ hG (lv_sub hl [1, 2, 3, 4, 5, 6, 0] rfl) hw
    have J121 : ∀ (x5 : Int32) (x6 : Int32) (x7 : Int32) (Z : zS) (H : Heap) (locs : List Loc) (ls : Array Slot), zG E Z s H locs → lv_has ls 8 [(0, .ref (E.2.1 96)), (1, .int a1), (2, .int a2), (3, .int a3), (5, .int x5), (6, .int x6), (7, .int x7)] → wX11_whoRan_121 L63 a1 a2 a3 x5 x6 x7 Z K → W p l e R s m args below meth c H locs 0 0 (zQi E K below args s) (F0 m 121 ls []) := by
      intro x5 x6 x7 Z H locs ls hG hl hw
      unfold wX11_whoRan_121 at hw
      refine lv_aload_n hx hb dX11_whoRan_121 rfl (lv_at hl 0 rfl) ?_
      refine lv_aload_n hx hb dX11_whoRan_122 rfl (lv_at hl 0 rfl) ?_
      refine z_get hF hG 96 (by decide) z_gs rfl in11 5 (by decide) (List.mem_of_getElem? (i := 7) rfl) rfl rfl dX11_whoRan_123 ?_
      refine lv_iload_n hx hb dX11_whoRan_126 rfl (lv_at hl 1 rfl) ?_
      obtain ⟨q24, hw⟩ := hw
      refine z_aald hF hG 91 2 (by decide) z_shelves rfl q24 rfl dX11_whoRan_127 ?_
      refine z_ci (va_runV (rest := []) hF.1 (kX11_goesOnAsTold l E Z ((a1 : Int32).toNatClampNeg) (z_ib q24) hw _) (cwV 1 hts gX11_whoRan_X11_goesOnAsTold rfl rfl rfl ⟨rfl, hS_yX11_goesOnAsTold⟩ ⟨Nat.le_trans (Nat.le_of_ble_eq_true rfl) hfr, Nat.le_trans (Nat.le_of_ble_eq_true rfl) hlo⟩) (z_preV hF hG 96 (by decide) z_gs rfl) rfl rfl hl.1 rfl (lv_room (Nat.le_of_ble_eq_true rfl)) dX11_whoRan_128 ⟨Nat.zero_le _, Nat.zero_le _⟩) hG (fun r26 Z25 H locs hw hG => ?_)
      refine lv_if_eq (tgt := 143) hx hb dX11_whoRan_131 (by decide) (fun c27 => ?_) (fun c27 => ?_)
      · replace hw := hw.1 c27
        exact J143 x5 x6 x7 Z25 _ _ _ hG (lv_sub hl [0, 1, 2, 3, 4, 5, 6] rfl) hw
      replace hw := hw.2 c27
      refine lv_iload hx hb dX11_whoRan_134 (lv_at hl 4 rfl) ?_
      refine lv_iconst (v := 1) hx hb dX11_whoRan_136 (by decide) ?_
      refine lv_iload hx hb dX11_whoRan_137 (lv_at hl 6 rfl) ?_
      refine lv_ishl hx hb dX11_whoRan_139 ?_
      refine lv_ior hx hb dX11_whoRan_140 ?_
      refine lv_topi (fun y28 ey28 => ?_)
      replace hw := hw y28 ey28
      refine lv_istore (lv' := [(5, .int y28), (0, .ref (E.2.1 96)), (1, .int a1), (2, .int a2), (3, .int a3), (6, .int x6), (7, .int x7)]) hx hb dX11_whoRan_141 hl (by decide) rfl (fun ls hl => ?_)
      exact J143 y28 x6 x7 Z25 _ _ _ hG (lv_sub hl [1, 2, 3, 4, 0, 5, 6] rfl) hw
    intro x5 x6 x7 Z H locs ls hG hl hw
    unfold wX11_whoRan_63b at hw
    refine lv_iload hx hb dX11_whoRan_63 (lv_at hl 6 rfl) ?_
    refine lv_iload hx hb dX11_whoRan_65 (lv_at hl 5 rfl) ?_
    refine lv_icmp_ge (tgt := 149) hx hb dX11_whoRan_67 (by decide) (fun c16 => ?_) (fun c16 => ?_)
    · replace hw := hw.1 c16
      refine lv_iload hx hb dX11_whoRan_149 (lv_at hl 4 rfl) ?_
      exact z_iret hF hG hr hlk hw dX11_whoRan_151
    replace hw := hw.2 c16
    refine lv_aload_n hx hb dX11_whoRan_70 rfl (lv_at hl 0 rfl) ?_
    refine z_get hF hG 96 (by decide) z_gs rfl in11 2 (by decide) (List.mem_of_getElem? (i := 2) rfl) rfl rfl dX11_whoRan_71 ?_
    refine lv_aload_n hx hb dX11_whoRan_74 rfl (lv_at hl 0 rfl) ?_
    refine z_get hF hG 96 (by decide) z_gs rfl in11 1 (by decide) (List.mem_of_getElem? (i := 1) rfl) rfl rfl dX11_whoRan_75 ?_
    refine z_cv (va_runV (rest := []) hF.1 (kX3_becomes l E Z 1 0 (by decide) (by decide) hw _) (cwV 1 hts gX11_whoRan_X3_becomes rfl rfl rfl ⟨rfl, hS_yX3_becomes⟩ ⟨Nat.le_trans (Nat.le_of_ble_eq_true rfl) hfr, Nat.le_trans (Nat.le_of_ble_eq_true rfl) hlo⟩) (z_preV hF hG (54 + 1) (zc_pl (by decide)) (z_pl (by decide)) rfl) rfl rfl hl.1 rfl (lv_room (Nat.le_of_ble_eq_true rfl)) dX11_whoRan_78 ⟨Nat.zero_le _, Nat.zero_le _⟩) hG (fun Z17 H locs hw hG => ?_)
    refine lv_iload_n hx hb dX11_whoRan_81 rfl (lv_at hl 3 rfl) ?_
    refine lv_if_ne (tgt := 107) hx hb dX11_whoRan_82 (by decide) (fun c18 => ?_) (fun c18 => ?_)
    · replace hw := hw.1 c18
      refine lv_aload_n hx hb dX11_whoRan_107 rfl (lv_at hl 0 rfl) ?_
      refine z_get hF hG 96 (by decide) z_gs rfl in11 2 (by decide) (List.mem_of_getElem? (i := 2) rfl) rfl rfl dX11_whoRan_108 ?_
      refine z_get hF hG (54 + 1) (zc_pl (by decide)) (z_pl (by decide)) rfl in3 0 (by decide) (List.mem_of_getElem? (i := 3) rfl) rfl rfl dX11_whoRan_111 ?_
      refine lv_iload_n hx hb dX11_whoRan_114 rfl (lv_at hl 2 rfl) ?_
      obtain ⟨q19, hw⟩ := hw
      refine z_aald hF hG (57 + 1) 1 (zc_pr (by decide)) (z_pr (by decide)) rfl q19 rfl dX11_whoRan_115 ?_
      refine lv_iload hx hb dX11_whoRan_116 (lv_at hl 6 rfl) ?_
      refine z_put hF hG (6 * 1 + (a2 : Int32).toNatClampNeg) (zc_sv (z_vb (by decide) q19)) (z_sv (z_vb (by decide) q19)) rfl in5 tyX5_ok nmX5 1 (by decide) (List.mem_of_getElem? (i := 6) rfl) rfl rfl (tyX5_ok 1 (by decide)) rfl rfl (Nat.le_of_ble_eq_true rfl) x7 (z_sv (z_vb (by decide) q19)) dX11_whoRan_118 (fun Z20 H locs eZ20 hG => ?_)
      replace hw := hw Z20 eZ20
      exact J121 x5 x6 x7 Z20 _ _ _ hG (lv_sub hl [0, 1, 2, 3, 4, 5, 6] rfl) hw
    replace hw := hw.2 (fun h => h c18)
    refine lv_aload_n hx hb dX11_whoRan_85 rfl (lv_at hl 0 rfl) ?_
    refine z_get hF hG 96 (by decide) z_gs rfl in11 2 (by decide) (List.mem_of_getElem? (i := 2) rfl) rfl rfl dX11_whoRan_86 ?_
    refine z_get hF hG (54 + 1) (zc_pl (by decide)) (z_pl (by decide)) rfl in3 0 (by decide) (List.mem_of_getElem? (i := 3) rfl) rfl rfl dX11_whoRan_89 ?_
    refine lv_iload_n hx hb dX11_whoRan_92 rfl (lv_at hl 2 rfl) ?_
    obtain ⟨q21, hw⟩ := hw
    refine z_aald hF hG (57 + 1) 1 (zc_pr (by decide)) (z_pr (by decide)) rfl q21 rfl dX11_whoRan_93 ?_
    refine lv_aload_n hx hb dX11_whoRan_94 rfl (lv_at hl 0 rfl) ?_
    refine z_get hF hG 96 (by decide) z_gs rfl in11 0 (by decide) (List.mem_of_getElem? (i := 4) rfl) rfl rfl dX11_whoRan_95 ?_
    refine lv_iload hx hb dX11_whoRan_98 (lv_at hl 6 rfl) ?_
    obtain ⟨q22, hw⟩ := hw
    refine z_aald hF hG 90 4 (by decide) z_kinds rfl q22 rfl dX11_whoRan_100 ?_
    refine z_put hF hG (6 * 1 + (a2 : Int32).toNatClampNeg) (zc_sv (z_vb (by decide) q21)) (z_sv (z_vb (by decide) q21)) rfl in5 tyX5_ok nmX5 0 (by decide) (List.mem_of_getElem? (i := 5) rfl) rfl rfl (tyX5_ok 0 (by decide)) rfl rfl (Nat.le_of_ble_eq_true rfl) x7 (z_sv (z_vb (by decide) q21)) dX11_whoRan_101 (fun Z23 H locs eZ23 hG => ?_)
    replace hw := hw Z23 eZ23
    refine lv_goto (tgt := 121) hx hb dX11_whoRan_104 (by decide) ?_
    exact J121 x5 x6 x7 Z23 _ _ _ hG (lv_sub hl [0, 1, 2, 3, 4, 5, 6] rfl) hw
  have J63 : ∀ n : Nat, ∀ (x5 : Int32) (x6 : Int32) (x7 : Int32) (Z : zS) (H : Heap) (locs : List Loc) (ls : Array Slot), zG E Z s H locs → lv_has ls 8 [(0, .ref (E.2.1 96)), (1, .int a1), (2, .int a2), (3, .int a3), (5, .int x5), (6, .int x6), (7, .int x7)] → wX11_whoRan_63 a1 a2 a3 K n x5 x6 x7 Z → W p l e R s m args below meth c H locs 0 0 (zQi E K below args s) (F0 m 63 ls []) := by
    intro n
    induction n with
    | zero => intro x5 x6 x7 Z H locs ls hG hl hw; exact hw.elim
    | succ n ih => intro x5 x6 x7 Z H locs ls hG hl hw; exact S63 _ ih x5 x6 x7 Z H locs ls hG hl hw
  have J58 : ∀ (x5 : Int32) (s0 : Int32) (Z : zS) (H : Heap) (locs : List Loc) (ls : Array Slot), zG E Z s H locs → lv_has ls 8 [(0, .ref (E.2.1 96)), (1, .int a1), (2, .int a2), (3, .int a3), (5, .int x5)] → wX11_whoRan_58 a1 a2 a3 x5 s0 Z K → W p l e R s m args below meth c H locs 0 0 (zQi E K below args s) (F0 m 58 ls [.int s0]) := by
    intro x5 s0 Z H locs ls hG hl hw
    unfold wX11_whoRan_58 at hw
    refine lv_istore (lv' := [(6, .int s0), (0, .ref (E.2.1 96)), (1, .int a1), (2, .int a2), (3, .int a3), (5, .int x5)]) hx hb dX11_whoRan_58 hl (by decide) rfl (fun ls hl => ?_)
    refine lv_iconst (v := 0) hx hb dX11_whoRan_60 (by decide) ?_
    refine lv_topi (fun y15 ey15 => ?_)
    replace hw := hw y15 ey15
    refine lv_istore (lv' := [(7, .int y15), (6, .int s0), (0, .ref (E.2.1 96)), (1, .int a1), (2, .int a2), (3, .int a3), (5, .int x5)]) hx hb dX11_whoRan_61 hl (by decide) rfl (fun ls hl => ?_)
    obtain ⟨n63, hw⟩ := hw
    exact J63 n63 x5 s0 y15 Z _ _ _ hG (lv_sub hl [2, 3, 4, 5, 6, 1, 0] rfl) hw
  unfold wX11_whoRan at hw
  refine lv_iload_n hx hb dX11_whoRan_0 rfl (lv_at hl 1 rfl) ?_
  refine z_ci (va_runS (rest := []) hF.1 (kX11_isShelf l E Z a1  hw _) (va_cwS 1 hts gX11_whoRan_X11_isShelf rfl rfl rfl hS_yX11_isShelf ⟨Nat.le_trans (Nat.le_of_ble_eq_true rfl) hfr, Nat.le_trans (Nat.le_of_ble_eq_true rfl) hlo⟩) (z_preS hF hG) rfl rfl hl.1 rfl (lv_room (Nat.le_of_ble_eq_true rfl)) dX11_whoRan_1 ⟨Nat.zero_le _, Nat.zero_le _⟩) hG (fun r2 Z1 H locs hw hG => ?_)
  refine lv_if_eq (tgt := 27) hx hb dX11_whoRan_4 (by decide) (fun c3 => ?_) (fun c3 => ?_)
  · replace hw := hw.1 c3
    refine lv_iconst (v := (-1)) hx hb dX11_whoRan_27 (by decide) ?_
    exact z_iret hF hG hr hlk hw dX11_whoRan_28
  replace hw := hw.2 c3
  refine lv_aload_n hx hb dX11_whoRan_7 rfl (lv_at hl 0 rfl) ?_
  refine z_get hF hG 96 (by decide) z_gs rfl in11 1 (by decide) (List.mem_of_getElem? (i := 1) rfl) rfl rfl dX11_whoRan_8 ?_
  refine lv_iload_n hx hb dX11_whoRan_11 rfl (lv_at hl 2 rfl) ?_
  refine z_ci (va_runV (rest := []) hF.1 (kX3_has l E Z1 0 a2 (by decide) hw _) (cwV 1 hts gX11_whoRan_X3_has rfl rfl rfl ⟨rfl, hS_yX3_has⟩ ⟨Nat.le_trans (Nat.le_of_ble_eq_true rfl) hfr, Nat.le_trans (Nat.le_of_ble_eq_true rfl) hlo⟩) (z_preV hF hG (54 + 0) (zc_pl (by decide)) (z_pl (by decide)) rfl) rfl rfl hl.1 rfl (lv_room (Nat.le_of_ble_eq_true rfl)) dX11_whoRan_12 ⟨Nat.zero_le _, Nat.zero_le _⟩) hG (fun r5 Z4 H locs hw hG => ?_)
  refine lv_if_eq (tgt := 27) hx hb dX11_whoRan_15 (by decide) (fun c6 => ?_) (fun c6 => ?_)
  · replace hw := hw.1 c6
    refine lv_iconst (v := (-1)) hx hb dX11_whoRan_27 (by decide) ?_
    exact z_iret hF hG hr hlk hw dX11_whoRan_28
  replace hw := hw.2 c6
  refine lv_iload_n hx hb dX11_whoRan_18 rfl (lv_at hl 3 rfl) ?_
  refine lv_iconst (v := 0) hx hb dX11_whoRan_19 (by decide) ?_
  refine lv_iconst (v := 1) hx hb dX11_whoRan_20 (by decide) ?_
  refine z_ci (va_runS (rest := []) hF.1 (kX11_within l E Z4 a3 0 1  hw _) (va_cwS 3 hts gX11_whoRan_X11_within rfl rfl rfl hS_yX11_within ⟨Nat.le_trans (Nat.le_of_ble_eq_true rfl) hfr, Nat.le_trans (Nat.le_of_ble_eq_true rfl) hlo⟩) (z_preS hF hG) rfl rfl hl.1 rfl (lv_room (Nat.le_of_ble_eq_true rfl)) dX11_whoRan_21 ⟨Nat.zero_le _, Nat.zero_le _⟩) hG (fun r8 Z7 H locs hw hG => ?_)
  refine lv_if_ne (tgt := 29) hx hb dX11_whoRan_24 (by decide) (fun c9 => ?_) (fun c9 => ?_)
  · replace hw := hw.1 c9
    refine lv_aload_n hx hb dX11_whoRan_29 rfl (lv_at hl 0 rfl) ?_
    refine lv_iload_n hx hb dX11_whoRan_30 rfl (lv_at hl 1 rfl) ?_
    refine z_ci (va_runV (rest := []) hF.1 (kX11_rowRefusal l E Z7 a1  hw _) (cwV 1 hts gX11_whoRan_X11_rowRefusal rfl rfl rfl ⟨rfl, hS_yX11_rowRefusal⟩ ⟨Nat.le_trans (Nat.le_of_ble_eq_true rfl) hfr, Nat.le_trans (Nat.le_of_ble_eq_true rfl) hlo⟩) (z_preV hF hG 96 (by decide) z_gs rfl) rfl rfl hl.1 rfl (lv_room (Nat.le_of_ble_eq_true rfl)) dX11_whoRan_31 ⟨Nat.zero_le _, Nat.zero_le _⟩) hG (fun r11 Z10 H locs hw hG => ?_)
    refine lv_istore (lv' := [(4, .int r11), (0, .ref (E.2.1 96)), (1, .int a1), (2, .int a2), (3, .int a3)]) hx hb dX11_whoRan_34 hl (by decide) rfl (fun ls hl => ?_)
    refine lv_iload hx hb dX11_whoRan_36 (lv_at hl 0 rfl) ?_
    refine lv_if_eq (tgt := 44) hx hb dX11_whoRan_38 (by decide) (fun c12 => ?_) (fun c12 => ?_)
    · replace hw := hw.1 c12
      refine lv_iconst (v := 0) hx hb dX11_whoRan_44 (by decide) ?_
      refine lv_topi (fun y13 ey13 => ?_)
      replace hw := hw y13 ey13
      refine lv_istore (lv' := [(5, .int y13), (4, .int r11), (0, .ref (E.2.1 96)), (1, .int a1), (2, .int a2), (3, .int a3)]) hx hb dX11_whoRan_45 hl (by decide) rfl (fun ls hl => ?_)
      refine lv_iload_n hx hb dX11_whoRan_47 rfl (lv_at hl 5 rfl) ?_
      refine lv_if_ne (tgt := 56) hx hb dX11_whoRan_48 (by decide) (fun c14 => ?_) (fun c14 => ?_)
      · replace hw := hw.1 c14
        refine lv_bipush (v := 10) hx hb dX11_whoRan_56 (by decide) ?_
        exact J58 y13 10 Z10 _ _ _ hG (lv_sub hl [2, 3, 4, 5, 0] rfl) hw
      replace hw := hw.2 (fun h => h c14)
      refine lv_bipush (v := 6) hx hb dX11_whoRan_51 (by decide) ?_
      refine lv_goto (tgt := 58) hx hb dX11_whoRan_53 (by decide) ?_
      exact J58 y13 6 Z10 _ _ _ hG (lv_sub hl [2, 3, 4, 5, 0] rfl) hw
    replace hw := hw.2 c12
    refine lv_iload hx hb dX11_whoRan_41 (lv_at hl 0 rfl) ?_
    exact z_iret hF hG hr hlk hw dX11_whoRan_43
  replace hw := hw.2 (fun h => h c9)
  refine lv_iconst (v := (-1)) hx hb dX11_whoRan_27 (by decide) ?_
  exact z_iret hF hG hr hlk hw dX11_whoRan_28
set_option maxHeartbeats 4000000 in
set_option maxRecDepth 100000 in
theorem kX11_tryPair (l : Launch) (E : zE) (Z : zS) (a1 : Int32) (a2 : Int32) (a3 : Int32) (a4 : Int32) {K : zS → Prop} (hw : wX11_tryPair a1 a2 a3 a4 Z K) : zCv l yX11_tryPair wsX11_tryPair ({ frames := 6, cells := 0, slots := 0, locals := 122 } : Room) E Z [.ref (E.2.1 96), .int a1, .int a2, .int a3, .int a4] K := by
  refine z_bodyv (cc := cX11_tryPair) (nL := 7) (by decide) rfl (Nat.le_of_ble_eq_true rfl) ?_
  intro p e R s m args below meth c ls hfr hlo hF hr hlk hG hl
  have hx := hF.1.1
  have hb := hF.1.2.1
  have hown := hF.1.2.2.2.1
  have hts := hF.1.2.2.2.2
  have in3 : ∀ w ∈ u_ws RX3 TX3 5, w ∈ wsX11_tryPair := fun _ h => List.mem_cons_of_mem _ (List.mem_append_left _ (List.mem_append_right _ h))
  have in11 : ∀ w ∈ u_ws RX11 TX11 11, w ∈ wsX11_tryPair := fun _ h => List.mem_cons_of_mem _ (List.mem_append_left _ (List.mem_append_left _ (List.mem_append_right _ h)))
  have hl : lv_has ls 7 [(0, .ref (E.2.1 96)), (1, .int a1), (2, .int a2), (3, .int a3), (4, .int a4)] := hl
  have J77 : ∀ (x5 : Int32) (x6 : Int32) (Z : zS) (H : Heap) (locs : List Loc) (ls : Array Slot), zG E Z s H locs → lv_has ls 7 [(0, .ref (E.2.1 96)), (1, .int a1), (2, .int a2), (3, .int a3), (4, .int a4), (5, .int x5), (6, .int x6)] → wX11_tryPair_77 a1 a2 a3 a4 x5 x6 Z K → W p l e R s m args below meth c H locs 0 0 (zQv E K below args s) (F0 m 77 ls []) := by
    intro x5 x6 Z H locs ls hG hl hw
    unfold wX11_tryPair_77 at hw
    refine lv_aload_n hx hb dX11_tryPair_77 rfl (lv_at hl 0 rfl) ?_
    refine z_get hF hG 96 (by decide) z_gs rfl in11 2 (by decide) (List.mem_of_getElem? (i := 1) rfl) rfl rfl dX11_tryPair_78 ?_
    refine lv_iload_n hx hb dX11_tryPair_81 rfl (lv_at hl 3 rfl) ?_
    refine z_cv (va_runV (rest := []) hF.1 (kX3_goOnFor l E Z 1 a3 (by decide) hw _) (cwV 1 hts gX11_tryPair_X3_goOnFor rfl rfl rfl ⟨rfl, hS_yX3_goOnFor⟩ ⟨Nat.le_trans (Nat.le_of_ble_eq_true rfl) hfr, Nat.le_trans (Nat.le_of_ble_eq_true rfl) hlo⟩) (z_preV hF hG (54 + 1) (zc_pl (by decide)) (z_pl (by decide)) rfl) rfl rfl hl.1 rfl (lv_room (Nat.le_of_ble_eq_true rfl)) dX11_tryPair_82 ⟨Nat.zero_le _, Nat.zero_le _⟩) hG (fun Z10 H locs hw hG => ?_)
    refine lv_aload_n hx hb dX11_tryPair_85 rfl (lv_at hl 0 rfl) ?_
    refine z_get hF hG 96 (by decide) z_gs rfl in11 7 (by decide) (List.mem_of_getElem? (i := 5) rfl) rfl rfl dX11_tryPair_86 ?_
    refine lv_iload hx hb dX11_tryPair_89 (lv_at hl 4 rfl) ?_
    refine lv_iconst (v := 4) hx hb dX11_tryPair_91 (by decide) ?_
    refine lv_iload hx hb dX11_tryPair_92 (lv_at hl 5 rfl) ?_
    refine lv_imul hx hb dX11_tryPair_94 ?_
    refine lv_aload_n hx hb dX11_tryPair_95 rfl (lv_at hl 0 rfl) ?_
    refine lv_iload_n hx hb dX11_tryPair_96 rfl (lv_at hl 1 rfl) ?_
    refine z_ci (va_runV (rest := [.int ((4 * x5)), .int a4, .ref (E.2.1 93)]) hF.1 (kX11_lateMore l E Z10 a1  hw _) (cwV 1 hts gX11_tryPair_X11_lateMore rfl rfl rfl ⟨rfl, hS_yX11_lateMore⟩ ⟨Nat.le_trans (Nat.le_of_ble_eq_true rfl) hfr, Nat.le_trans (Nat.le_of_ble_eq_true rfl) hlo⟩) (z_preV hF hG 96 (by decide) z_gs rfl) rfl rfl hl.1 rfl (lv_room (Nat.le_of_ble_eq_true rfl)) dX11_tryPair_97 ⟨Nat.zero_le _, Nat.zero_le _⟩) hG (fun r12 Z11 H locs hw hG => ?_)
    refine lv_isub hx hb dX11_tryPair_100 ?_
    obtain ⟨q13, hw⟩ := hw
    refine z_iast hF hG 93 (by decide) (fun _ => z_m93) q13 dX11_tryPair_101 (fun Z14 H locs eZ14 hG => ?_)
    replace hw := hw Z14 eZ14
    refine lv_aload_n hx hb dX11_tryPair_102 rfl (lv_at hl 0 rfl) ?_
    refine z_get hF hG 96 (by decide) z_gs rfl in11 8 (by decide) (List.mem_of_getElem? (i := 6) rfl) rfl rfl dX11_tryPair_103 ?_
    refine lv_iload hx hb dX11_tryPair_106 (lv_at hl 4 rfl) ?_
    refine lv_iconst (v := 4) hx hb dX11_tryPair_108 (by decide) ?_
    refine lv_iload hx hb dX11_tryPair_109 (lv_at hl 6 rfl) ?_
    refine lv_imul hx hb dX11_tryPair_111 ?_
    refine lv_aload_n hx hb dX11_tryPair_112 rfl (lv_at hl 0 rfl) ?_
    refine lv_iload_n hx hb dX11_tryPair_113 rfl (lv_at hl 2 rfl) ?_
    refine z_ci (va_runV (rest := [.int ((4 * x6)), .int a4, .ref (E.2.1 94)]) hF.1 (kX11_lateMore l E Z14 a2  hw _) (cwV 1 hts gX11_tryPair_X11_lateMore rfl rfl rfl ⟨rfl, hS_yX11_lateMore⟩ ⟨Nat.le_trans (Nat.le_of_ble_eq_true rfl) hfr, Nat.le_trans (Nat.le_of_ble_eq_true rfl) hlo⟩) (z_preV hF hG 96 (by decide) z_gs rfl) rfl rfl hl.1 rfl (lv_room (Nat.le_of_ble_eq_true rfl)) dX11_tryPair_114 ⟨Nat.zero_le _, Nat.zero_le _⟩) hG (fun r16 Z15 H locs hw hG => ?_)
    refine lv_isub hx hb dX11_tryPair_117 ?_
    obtain ⟨q17, hw⟩ := hw
    refine z_iast hF hG 94 (by decide) (fun _ => z_m94) q17 dX11_tryPair_118 (fun Z18 H locs eZ18 hG => ?_)
    replace hw := hw Z18 eZ18
    exact z_vret hF hG hr hlk hw dX11_tryPair_119
  have J50 : ∀ (x5 : Int32) (x6 : Int32) (Z : zS) (H : Heap) (locs : List Loc) (ls : Array Slot), zG E Z s H locs → lv_has ls 7 [(0, .ref (E.2.1 96)), (1, .int a1), (2, .int a2), (3, .int a3), (4, .int a4), (5, .int x5), (6, .int x6)] → wX11_tryPair_50 a1 a2 a3 a4 x5 x6 Z K → W p l e R s m args below meth c H locs 0 0 (zQv E K below args s) (F0 m 50 ls []) := by
    intro x5 x6 Z H locs ls hG hl hw
    unfold wX11_tryPair_50 at hw
    refine lv_iload hx hb dX11_tryPair_50 (lv_at hl 6 rfl) ?_
    refine lv_iconst (v := 1) hx hb dX11_tryPair_52 (by decide) ?_
    refine lv_icmp_ne (tgt := 77) hx hb dX11_tryPair_53 (by decide) (fun c7 => ?_) (fun c7 => ?_)
    · replace hw := hw.1 c7
      exact J77 x5 x6 Z _ _ _ hG (lv_sub hl [0, 1, 2, 3, 4, 5, 6] rfl) hw
    replace hw := hw.2 (fun h => h c7)
    refine lv_aload_n hx hb dX11_tryPair_56 rfl (lv_at hl 0 rfl) ?_
    refine z_get hF hG 96 (by decide) z_gs rfl in11 2 (by decide) (List.mem_of_getElem? (i := 1) rfl) rfl rfl dX11_tryPair_57 ?_
    refine z_get hF hG (54 + 1) (zc_pl (by decide)) (z_pl (by decide)) rfl in3 0 (by decide) (List.mem_of_getElem? (i := 3) rfl) rfl rfl dX11_tryPair_60 ?_
    refine lv_iload_n hx hb dX11_tryPair_63 rfl (lv_at hl 2 rfl) ?_
    obtain ⟨q8, hw⟩ := hw
    refine z_aald hF hG (57 + 1) 1 (zc_pr (by decide)) (z_pr (by decide)) rfl q8 rfl dX11_tryPair_64 ?_
    refine lv_iconst (v := 5) hx hb dX11_tryPair_65 (by decide) ?_
    refine lv_iconst (v := 3) hx hb dX11_tryPair_66 (by decide) ?_
    refine lv_aload_n hx hb dX11_tryPair_67 rfl (lv_at hl 0 rfl) ?_
    refine z_get hF hG 96 (by decide) z_gs rfl in11 2 (by decide) (List.mem_of_getElem? (i := 1) rfl) rfl rfl dX11_tryPair_68 ?_
    refine z_get hF hG (54 + 1) (zc_pl (by decide)) (z_pl (by decide)) rfl in3 2 (by decide) (List.mem_of_getElem? (i := 4) rfl) rfl rfl dX11_tryPair_71 ?_
    refine z_cv (va_runV (rest := []) hF.1 (kX5_takeJob l E Z ((6 * 1 + (a2 : Int32).toNatClampNeg)) 5 3 ((Z (54 + 1) 2)) (z_vb (by decide) q8) hw _) (cwV 3 hts gX11_tryPair_X5_takeJob rfl rfl rfl ⟨rfl, hS_yX5_takeJob⟩ ⟨Nat.le_trans (Nat.le_of_ble_eq_true rfl) hfr, Nat.le_trans (Nat.le_of_ble_eq_true rfl) hlo⟩) (z_preV hF hG (6 * 1 + (a2 : Int32).toNatClampNeg) (zc_sv (z_vb (by decide) q8)) (z_sv (z_vb (by decide) q8)) rfl) rfl rfl hl.1 rfl (lv_room (Nat.le_of_ble_eq_true rfl)) dX11_tryPair_74 ⟨Nat.zero_le _, Nat.zero_le _⟩) hG (fun Z9 H locs hw hG => ?_)
    exact J77 x5 x6 Z9 _ _ _ hG (lv_sub hl [0, 1, 2, 3, 4, 5, 6] rfl) hw
  unfold wX11_tryPair at hw
  refine lv_iload hx hb dX11_tryPair_0 (lv_at hl 4 rfl) ?_
  refine lv_iconst (v := 1) hx hb dX11_tryPair_2 (by decide) ?_
  refine lv_ishr hx hb dX11_tryPair_3 ?_
  refine lv_topi (fun y1 ey1 => ?_)
  replace hw := hw y1 ey1
  refine lv_istore (lv' := [(5, .int y1), (0, .ref (E.2.1 96)), (1, .int a1), (2, .int a2), (3, .int a3), (4, .int a4)]) hx hb dX11_tryPair_4 hl (by decide) rfl (fun ls hl => ?_)
  refine lv_iload hx hb dX11_tryPair_6 (lv_at hl 5 rfl) ?_
  refine lv_iconst (v := 1) hx hb dX11_tryPair_8 (by decide) ?_
  refine lv_iand hx hb dX11_tryPair_9 ?_
  refine lv_topi (fun y2 ey2 => ?_)
  replace hw := hw y2 ey2
  refine lv_istore (lv' := [(6, .int y2), (5, .int y1), (0, .ref (E.2.1 96)), (1, .int a1), (2, .int a2), (3, .int a3), (4, .int a4)]) hx hb dX11_tryPair_10 hl (by decide) rfl (fun ls hl => ?_)
  refine lv_aload_n hx hb dX11_tryPair_12 rfl (lv_at hl 2 rfl) ?_
  refine z_get hF hG 96 (by decide) z_gs rfl in11 2 (by decide) (List.mem_of_getElem? (i := 1) rfl) rfl rfl dX11_tryPair_13 ?_
  refine lv_aload_n hx hb dX11_tryPair_16 rfl (lv_at hl 2 rfl) ?_
  refine z_get hF hG 96 (by decide) z_gs rfl in11 1 (by decide) (List.mem_of_getElem? (i := 2) rfl) rfl rfl dX11_tryPair_17 ?_
  refine z_cv (va_runV (rest := []) hF.1 (kX3_becomes l E Z 1 0 (by decide) (by decide) hw _) (cwV 1 hts gX11_tryPair_X3_becomes rfl rfl rfl ⟨rfl, hS_yX3_becomes⟩ ⟨Nat.le_trans (Nat.le_of_ble_eq_true rfl) hfr, Nat.le_trans (Nat.le_of_ble_eq_true rfl) hlo⟩) (z_preV hF hG (54 + 1) (zc_pl (by decide)) (z_pl (by decide)) rfl) rfl rfl hl.1 rfl (lv_room (Nat.le_of_ble_eq_true rfl)) dX11_tryPair_20 ⟨Nat.zero_le _, Nat.zero_le _⟩) hG (fun Z3 H locs hw hG => ?_)
  refine lv_iload hx hb dX11_tryPair_23 (lv_at hl 1 rfl) ?_
  refine lv_iconst (v := 1) hx hb dX11_tryPair_25 (by decide) ?_
  refine lv_icmp_ne (tgt := 50) hx hb dX11_tryPair_26 (by decide) (fun c4 => ?_) (fun c4 => ?_)
  · replace hw := hw.1 c4
    exact J50 y1 y2 Z3 _ _ _ hG (lv_sub hl [2, 3, 4, 5, 6, 1, 0] rfl) hw
  replace hw := hw.2 (fun h => h c4)
  refine lv_aload_n hx hb dX11_tryPair_29 rfl (lv_at hl 2 rfl) ?_
  refine z_get hF hG 96 (by decide) z_gs rfl in11 2 (by decide) (List.mem_of_getElem? (i := 1) rfl) rfl rfl dX11_tryPair_30 ?_
  refine z_get hF hG (54 + 1) (zc_pl (by decide)) (z_pl (by decide)) rfl in3 0 (by decide) (List.mem_of_getElem? (i := 3) rfl) rfl rfl dX11_tryPair_33 ?_
  refine lv_iload_n hx hb dX11_tryPair_36 rfl (lv_at hl 3 rfl) ?_
  obtain ⟨q5, hw⟩ := hw
  refine z_aald hF hG (57 + 1) 1 (zc_pr (by decide)) (z_pr (by decide)) rfl q5 rfl dX11_tryPair_37 ?_
  refine lv_iconst (v := 5) hx hb dX11_tryPair_38 (by decide) ?_
  refine lv_iconst (v := 3) hx hb dX11_tryPair_39 (by decide) ?_
  refine lv_aload_n hx hb dX11_tryPair_40 rfl (lv_at hl 2 rfl) ?_
  refine z_get hF hG 96 (by decide) z_gs rfl in11 2 (by decide) (List.mem_of_getElem? (i := 1) rfl) rfl rfl dX11_tryPair_41 ?_
  refine z_get hF hG (54 + 1) (zc_pl (by decide)) (z_pl (by decide)) rfl in3 2 (by decide) (List.mem_of_getElem? (i := 4) rfl) rfl rfl dX11_tryPair_44 ?_
  refine z_cv (va_runV (rest := []) hF.1 (kX5_takeJob l E Z3 ((6 * 1 + (a1 : Int32).toNatClampNeg)) 5 3 ((Z3 (54 + 1) 2)) (z_vb (by decide) q5) hw _) (cwV 3 hts gX11_tryPair_X5_takeJob rfl rfl rfl ⟨rfl, hS_yX5_takeJob⟩ ⟨Nat.le_trans (Nat.le_of_ble_eq_true rfl) hfr, Nat.le_trans (Nat.le_of_ble_eq_true rfl) hlo⟩) (z_preV hF hG (6 * 1 + (a1 : Int32).toNatClampNeg) (zc_sv (z_vb (by decide) q5)) (z_sv (z_vb (by decide) q5)) rfl) rfl rfl hl.1 rfl (lv_room (Nat.le_of_ble_eq_true rfl)) dX11_tryPair_47 ⟨Nat.zero_le _, Nat.zero_le _⟩) hG (fun Z6 H locs hw hG => ?_)
  exact J50 y1 y2 Z6 _ _ _ hG (lv_sub hl [2, 3, 4, 5, 6, 1, 0] rfl) hw
theorem hS_yX11_tryPair : yX11_tryPair.cls ≠ "java/lang/invoke/MethodHandle" ∧ yX11_tryPair.cls ≠ "java/lang/invoke/VarHandle" ∧ (parseMethodDescriptor yX11_tryPair.desc).map (fun d => d.parameters.length) = some 4 := by decide +kernel
set_option maxHeartbeats 4000000 in
set_option maxRecDepth 100000 in
theorem kX11_two (l : Launch) (E : zE) (Z : zS) (a1 : Int32) (a2 : Int32) (a3 : Int32) {K : Int32 → zS → Prop} (hw : wX11_two a1 a2 a3 Z K) : zCi l yX11_two wsX11_two ({ frames := 7, cells := 0, slots := 0, locals := 148 } : Room) E Z [.ref (E.2.1 96), .int a1, .int a2, .int a3] K := by
  refine z_bodyi (cc := cX11_two) (nL := 5) (ret := .int) (by decide) rfl (Nat.le_of_ble_eq_true rfl) ?_
  intro p e R s m args below meth c ls hfr hlo hF hr hlk hG hl
  have hx := hF.1.1
  have hb := hF.1.2.1
  have hown := hF.1.2.2.2.1
  have hts := hF.1.2.2.2.2
  have in3 : ∀ w ∈ u_ws RX3 TX3 5, w ∈ wsX11_two := fun _ h => List.mem_cons_of_mem _ (List.mem_append_left _ (List.mem_append_right _ h))
  have in11 : ∀ w ∈ u_ws RX11 TX11 11, w ∈ wsX11_two := fun _ h => List.mem_cons_of_mem _ (List.mem_append_left _ (List.mem_append_left _ (List.mem_append_right _ h)))
  have hl : lv_has ls 5 [(0, .ref (E.2.1 96)), (1, .int a1), (2, .int a2), (3, .int a3)] := hl
  have S99 : ∀ (L99 : Int32 → zS → Prop), (∀ (x4 : Int32) (Z : zS) (H : Heap) (locs : List Loc) (ls : Array Slot), zG E Z s H locs → lv_has ls 5 [(0, .ref (E.2.1 96)), (4, .int x4)] → L99 x4 Z → W p l e R s m args below meth c H locs 0 0 (zQi E K below args s) (F0 m 99 ls [])) → ∀ (x4 : Int32) (Z : zS) (H : Heap) (locs : List Loc) (ls : Array Slot), zG E Z s H locs → lv_has ls 5 [(0, .ref (E.2.1 96)), (4, .int x4)] → wX11_two_99b L99 a1 a2 a3 x4 Z K → W p l e R s m args below meth c H locs 0 0 (zQi E K below args s) (F0 m 99 ls []) := by
    intro L99 ih99
    have J156 : ∀ (x4 : Int32) (Z : zS) (H : Heap) (locs : List Loc) (ls : Array Slot), zG E Z s H locs → lv_has ls 5 [(0, .ref (E.2.1 96)), (4, .int x4)] → wX11_two_156 L99 a1 a2 a3 x4 Z K → W p l e R s m args below meth c H locs 0 0 (zQi E K below args s) (F0 m 156 ls []) := by
      intro x4 Z H locs ls hG hl hw
      unfold wX11_two_156 at hw
      obtain ⟨y31, ey31⟩ : ∃ y : Int32, y = x4 + 1 := ⟨_, rfl⟩
      replace hw := hw y31 ey31
      refine lv_iinc (v := y31) (lv' := [(4, .int y31), (0, .ref (E.2.1 96))]) hx hb dX11_two_156 hl (k := 1) rfl (by rw [ey31]; rfl) (by decide) rfl (fun ls hl => ?_)
      refine lv_goto (tgt := 99) hx hb dX11_two_159 (by decide) ?_
      exact ih99 y31 Z _ _ _ hG (lv_sub hl [1, 0] rfl) hw
    intro x4 Z H locs ls hG hl hw
    unfold wX11_two_99b at hw
    refine lv_iload hx hb dX11_two_99 (lv_at hl 1 rfl) ?_
    refine lv_iconst (v := 4) hx hb dX11_two_101 (by decide) ?_
    refine lv_icmp_ge (tgt := 162) hx hb dX11_two_102 (by decide) (fun c24 => ?_) (fun c24 => ?_)
    · replace hw := hw.1 c24
      refine lv_bipush (v := (-4)) hx hb dX11_two_162 (by decide) ?_
      exact z_iret hF hG hr hlk hw dX11_two_164
    replace hw := hw.2 c24
    refine lv_aload_n hx hb dX11_two_105 rfl (lv_at hl 0 rfl) ?_
    refine z_get hF hG 96 (by decide) z_gs rfl in11 7 (by decide) (List.mem_of_getElem? (i := 3) rfl) rfl rfl dX11_two_106 ?_
    refine lv_iload hx hb dX11_two_109 (lv_at hl 1 rfl) ?_
    obtain ⟨q25, hw⟩ := hw
    refine z_iald hF hG 93 (by decide) z_m93 q25 dX11_two_111 ?_
    refine lv_aload_n hx hb dX11_two_112 rfl (lv_at hl 0 rfl) ?_
    refine z_get hF hG 96 (by decide) z_gs rfl in11 7 (by decide) (List.mem_of_getElem? (i := 3) rfl) rfl rfl dX11_two_113 ?_
    refine lv_iload hx hb dX11_two_116 (lv_at hl 1 rfl) ?_
    refine lv_iconst (v := 2) hx hb dX11_two_118 (by decide) ?_
    refine lv_ixor hx hb dX11_two_119 ?_
    obtain ⟨q26, hw⟩ := hw
    refine z_iald hF hG 93 (by decide) z_m93 q26 dX11_two_120 ?_
    refine lv_icmp_lt (tgt := 156) hx hb dX11_two_121 (by decide) (fun c27 => ?_) (fun c27 => ?_)
    · replace hw := hw.1 c27
      exact J156 x4 Z _ _ _ hG (lv_sub hl [0, 1] rfl) hw
    replace hw := hw.2 c27
    refine lv_aload_n hx hb dX11_two_124 rfl (lv_at hl 0 rfl) ?_
    refine z_get hF hG 96 (by decide) z_gs rfl in11 8 (by decide) (List.mem_of_getElem? (i := 4) rfl) rfl rfl dX11_two_125 ?_
    refine lv_iload hx hb dX11_two_128 (lv_at hl 1 rfl) ?_
    obtain ⟨q28, hw⟩ := hw
    refine z_iald hF hG 94 (by decide) z_m94 q28 dX11_two_130 ?_
    refine lv_aload_n hx hb dX11_two_131 rfl (lv_at hl 0 rfl) ?_
    refine z_get hF hG 96 (by decide) z_gs rfl in11 8 (by decide) (List.mem_of_getElem? (i := 4) rfl) rfl rfl dX11_two_132 ?_
    refine lv_iload hx hb dX11_two_135 (lv_at hl 1 rfl) ?_
    refine lv_iconst (v := 1) hx hb dX11_two_137 (by decide) ?_
    refine lv_ixor hx hb dX11_two_138 ?_
    obtain ⟨q29, hw⟩ := hw
    refine z_iald hF hG 94 (by decide) z_m94 q29 dX11_two_139 ?_
    refine lv_icmp_lt (tgt := 156) hx hb dX11_two_140 (by decide) (fun c30 => ?_) (fun c30 => ?_)
    · replace hw := hw.1 c30
      exact J156 x4 Z _ _ _ hG (lv_sub hl [0, 1] rfl) hw
    replace hw := hw.2 c30
    refine lv_bipush (v := 10) hx hb dX11_two_143 (by decide) ?_
    refine lv_iload hx hb dX11_two_145 (lv_at hl 1 rfl) ?_
    refine lv_iconst (v := 1) hx hb dX11_two_147 (by decide) ?_
    refine lv_ishr hx hb dX11_two_148 ?_
    refine lv_imul hx hb dX11_two_149 ?_
    refine lv_iload hx hb dX11_two_150 (lv_at hl 1 rfl) ?_
    refine lv_iconst (v := 1) hx hb dX11_two_152 (by decide) ?_
    refine lv_iand hx hb dX11_two_153 ?_
    refine lv_iadd hx hb dX11_two_154 ?_
    exact z_iret hF hG hr hlk hw dX11_two_155
  have J99 : ∀ n : Nat, ∀ (x4 : Int32) (Z : zS) (H : Heap) (locs : List Loc) (ls : Array Slot), zG E Z s H locs → lv_has ls 5 [(0, .ref (E.2.1 96)), (4, .int x4)] → wX11_two_99 a1 a2 a3 K n x4 Z → W p l e R s m args below meth c H locs 0 0 (zQi E K below args s) (F0 m 99 ls []) := by
    intro n
    induction n with
    | zero => intro x4 Z H locs ls hG hl hw; exact hw.elim
    | succ n ih => intro x4 Z H locs ls hG hl hw; exact S99 _ ih x4 Z H locs ls hG hl hw
  have S75 : ∀ (L75 : Int32 → zS → Prop), (∀ (x4 : Int32) (Z : zS) (H : Heap) (locs : List Loc) (ls : Array Slot), zG E Z s H locs → lv_has ls 5 [(0, .ref (E.2.1 96)), (1, .int a1), (2, .int a2), (3, .int a3), (4, .int x4)] → L75 x4 Z → W p l e R s m args below meth c H locs 0 0 (zQi E K below args s) (F0 m 75 ls [])) → ∀ (x4 : Int32) (Z : zS) (H : Heap) (locs : List Loc) (ls : Array Slot), zG E Z s H locs → lv_has ls 5 [(0, .ref (E.2.1 96)), (1, .int a1), (2, .int a2), (3, .int a3), (4, .int x4)] → wX11_two_75b L75 a1 a2 a3 x4 Z K → W p l e R s m args below meth c H locs 0 0 (zQi E K below args s) (F0 m 75 ls []) := by
    intro L75 ih75
    intro x4 Z H locs ls hG hl hw
    unfold wX11_two_75b at hw
    refine lv_iload hx hb dX11_two_75 (lv_at hl 4 rfl) ?_
    refine lv_iconst (v := 4) hx hb dX11_two_77 (by decide) ?_
    refine lv_icmp_ge (tgt := 96) hx hb dX11_two_78 (by decide) (fun c20 => ?_) (fun c20 => ?_)
    · replace hw := hw.1 c20
      refine lv_iconst (v := 0) hx hb dX11_two_96 (by decide) ?_
      refine lv_topi (fun y21 ey21 => ?_)
      replace hw := hw y21 ey21
      refine lv_istore (lv' := [(4, .int y21), (0, .ref (E.2.1 96)), (1, .int a1), (2, .int a2), (3, .int a3)]) hx hb dX11_two_97 hl (by decide) rfl (fun ls hl => ?_)
      obtain ⟨n99, hw⟩ := hw
      exact J99 n99 y21 Z _ _ _ hG (lv_sub hl [1, 0] rfl) hw
    replace hw := hw.2 c20
    refine lv_aload_n hx hb dX11_two_81 rfl (lv_at hl 0 rfl) ?_
    refine lv_iload_n hx hb dX11_two_82 rfl (lv_at hl 1 rfl) ?_
    refine lv_iload_n hx hb dX11_two_83 rfl (lv_at hl 2 rfl) ?_
    refine lv_iload_n hx hb dX11_two_84 rfl (lv_at hl 3 rfl) ?_
    refine lv_iload hx hb dX11_two_85 (lv_at hl 4 rfl) ?_
    refine z_cv (va_runV (rest := []) hF.1 (kX11_tryPair l E Z a1 a2 a3 x4  hw _) (cwV 4 hts gX11_two_X11_tryPair rfl rfl rfl ⟨rfl, hS_yX11_tryPair⟩ ⟨Nat.le_trans (Nat.le_of_ble_eq_true rfl) hfr, Nat.le_trans (Nat.le_of_ble_eq_true rfl) hlo⟩) (z_preV hF hG 96 (by decide) z_gs rfl) rfl rfl hl.1 rfl (lv_room (Nat.le_of_ble_eq_true rfl)) dX11_two_87 ⟨Nat.zero_le _, Nat.zero_le _⟩) hG (fun Z22 H locs hw hG => ?_)
    obtain ⟨y23, ey23⟩ : ∃ y : Int32, y = x4 + 1 := ⟨_, rfl⟩
    replace hw := hw y23 ey23
    refine lv_iinc (v := y23) (lv' := [(4, .int y23), (0, .ref (E.2.1 96)), (1, .int a1), (2, .int a2), (3, .int a3)]) hx hb dX11_two_90 hl (k := 4) rfl (by rw [ey23]; rfl) (by decide) rfl (fun ls hl => ?_)
    refine lv_goto (tgt := 75) hx hb dX11_two_93 (by decide) ?_
    exact ih75 y23 Z22 _ _ _ hG (lv_sub hl [1, 2, 3, 4, 0] rfl) hw
  have J75 : ∀ n : Nat, ∀ (x4 : Int32) (Z : zS) (H : Heap) (locs : List Loc) (ls : Array Slot), zG E Z s H locs → lv_has ls 5 [(0, .ref (E.2.1 96)), (1, .int a1), (2, .int a2), (3, .int a3), (4, .int x4)] → wX11_two_75 a1 a2 a3 K n x4 Z → W p l e R s m args below meth c H locs 0 0 (zQi E K below args s) (F0 m 75 ls []) := by
    intro n
    induction n with
    | zero => intro x4 Z H locs ls hG hl hw; exact hw.elim
    | succ n ih => intro x4 Z H locs ls hG hl hw; exact S75 _ ih x4 Z H locs ls hG hl hw
  unfold wX11_two at hw
  refine lv_aload_n hx hb dX11_two_0 rfl (lv_at hl 0 rfl) ?_
  refine z_get hF hG 96 (by decide) z_gs rfl in11 1 (by decide) (List.mem_of_getElem? (i := 1) rfl) rfl rfl dX11_two_1 ?_
  refine lv_iload_n hx hb dX11_two_4 rfl (lv_at hl 1 rfl) ?_
  refine z_ci (va_runV (rest := []) hF.1 (kX3_has l E Z 0 a1 (by decide) hw _) (cwV 1 hts gX11_two_X3_has rfl rfl rfl ⟨rfl, hS_yX3_has⟩ ⟨Nat.le_trans (Nat.le_of_ble_eq_true rfl) hfr, Nat.le_trans (Nat.le_of_ble_eq_true rfl) hlo⟩) (z_preV hF hG (54 + 0) (zc_pl (by decide)) (z_pl (by decide)) rfl) rfl rfl hl.1 rfl (lv_room (Nat.le_of_ble_eq_true rfl)) dX11_two_5 ⟨Nat.zero_le _, Nat.zero_le _⟩) hG (fun r2 Z1 H locs hw hG => ?_)
  refine lv_if_eq (tgt := 37) hx hb dX11_two_8 (by decide) (fun c3 => ?_) (fun c3 => ?_)
  · replace hw := hw.1 c3
    refine lv_iconst (v := (-1)) hx hb dX11_two_37 (by decide) ?_
    exact z_iret hF hG hr hlk hw dX11_two_38
  replace hw := hw.2 c3
  refine lv_aload_n hx hb dX11_two_11 rfl (lv_at hl 0 rfl) ?_
  refine z_get hF hG 96 (by decide) z_gs rfl in11 1 (by decide) (List.mem_of_getElem? (i := 1) rfl) rfl rfl dX11_two_12 ?_
  refine lv_iload_n hx hb dX11_two_15 rfl (lv_at hl 2 rfl) ?_
  refine z_ci (va_runV (rest := []) hF.1 (kX3_has l E Z1 0 a2 (by decide) hw _) (cwV 1 hts gX11_two_X3_has rfl rfl rfl ⟨rfl, hS_yX3_has⟩ ⟨Nat.le_trans (Nat.le_of_ble_eq_true rfl) hfr, Nat.le_trans (Nat.le_of_ble_eq_true rfl) hlo⟩) (z_preV hF hG (54 + 0) (zc_pl (by decide)) (z_pl (by decide)) rfl) rfl rfl hl.1 rfl (lv_room (Nat.le_of_ble_eq_true rfl)) dX11_two_16 ⟨Nat.zero_le _, Nat.zero_le _⟩) hG (fun r5 Z4 H locs hw hG => ?_)
  refine lv_if_eq (tgt := 37) hx hb dX11_two_19 (by decide) (fun c6 => ?_) (fun c6 => ?_)
  · replace hw := hw.1 c6
    refine lv_iconst (v := (-1)) hx hb dX11_two_37 (by decide) ?_
    exact z_iret hF hG hr hlk hw dX11_two_38
  replace hw := hw.2 c6
  refine lv_iload_n hx hb dX11_two_22 rfl (lv_at hl 1 rfl) ?_
  refine lv_iload_n hx hb dX11_two_23 rfl (lv_at hl 2 rfl) ?_
  refine lv_icmp_eq (tgt := 37) hx hb dX11_two_24 (by decide) (fun c7 => ?_) (fun c7 => ?_)
  · replace hw := hw.1 c7
    refine lv_iconst (v := (-1)) hx hb dX11_two_37 (by decide) ?_
    exact z_iret hF hG hr hlk hw dX11_two_38
  replace hw := hw.2 c7
  refine lv_iload_n hx hb dX11_two_27 rfl (lv_at hl 3 rfl) ?_
  refine lv_iconst (v := 1) hx hb dX11_two_28 (by decide) ?_
  refine lv_bipush (v := 60) hx hb dX11_two_29 (by decide) ?_
  refine z_ci (va_runS (rest := []) hF.1 (kX11_within l E Z4 a3 1 60  hw _) (va_cwS 3 hts gX11_two_X11_within rfl rfl rfl hS_yX11_within ⟨Nat.le_trans (Nat.le_of_ble_eq_true rfl) hfr, Nat.le_trans (Nat.le_of_ble_eq_true rfl) hlo⟩) (z_preS hF hG) rfl rfl hl.1 rfl (lv_room (Nat.le_of_ble_eq_true rfl)) dX11_two_31 ⟨Nat.zero_le _, Nat.zero_le _⟩) hG (fun r9 Z8 H locs hw hG => ?_)
  refine lv_if_ne (tgt := 39) hx hb dX11_two_34 (by decide) (fun c10 => ?_) (fun c10 => ?_)
  · replace hw := hw.1 c10
    refine lv_aload_n hx hb dX11_two_39 rfl (lv_at hl 0 rfl) ?_
    refine z_get hF hG 96 (by decide) z_gs rfl in11 1 (by decide) (List.mem_of_getElem? (i := 1) rfl) rfl rfl dX11_two_40 ?_
    refine z_get hF hG (54 + 0) (zc_pl (by decide)) (z_pl (by decide)) rfl in3 0 (by decide) (List.mem_of_getElem? (i := 2) rfl) rfl rfl dX11_two_43 ?_
    refine lv_iload_n hx hb dX11_two_46 rfl (lv_at hl 1 rfl) ?_
    obtain ⟨q11, hw⟩ := hw
    refine z_aald hF hG (57 + 0) 1 (zc_pr (by decide)) (z_pr (by decide)) rfl q11 rfl dX11_two_47 ?_
    refine z_ci (va_runV (rest := []) hF.1 (kX5_isFull l E Z8 ((6 * 0 + (a1 : Int32).toNatClampNeg)) (z_vb (by decide) q11) hw _) (cwV 0 hts gX11_two_X5_isFull rfl rfl rfl ⟨rfl, hS_yX5_isFull⟩ ⟨Nat.le_trans (Nat.le_of_ble_eq_true rfl) hfr, Nat.le_trans (Nat.le_of_ble_eq_true rfl) hlo⟩) (z_preV hF hG (6 * 0 + (a1 : Int32).toNatClampNeg) (zc_sv (z_vb (by decide) q11)) (z_sv (z_vb (by decide) q11)) rfl) rfl rfl hl.1 rfl (lv_room (Nat.le_of_ble_eq_true rfl)) dX11_two_48 ⟨Nat.zero_le _, Nat.zero_le _⟩) hG (fun r13 Z12 H locs hw hG => ?_)
    refine lv_if_ne (tgt := 69) hx hb dX11_two_51 (by decide) (fun c14 => ?_) (fun c14 => ?_)
    · replace hw := hw.1 c14
      refine lv_bipush (v := (-2)) hx hb dX11_two_69 (by decide) ?_
      exact z_iret hF hG hr hlk hw dX11_two_71
    replace hw := hw.2 (fun h => h c14)
    refine lv_aload_n hx hb dX11_two_54 rfl (lv_at hl 0 rfl) ?_
    refine z_get hF hG 96 (by decide) z_gs rfl in11 1 (by decide) (List.mem_of_getElem? (i := 1) rfl) rfl rfl dX11_two_55 ?_
    refine z_get hF hG (54 + 0) (zc_pl (by decide)) (z_pl (by decide)) rfl in3 0 (by decide) (List.mem_of_getElem? (i := 2) rfl) rfl rfl dX11_two_58 ?_
    refine lv_iload_n hx hb dX11_two_61 rfl (lv_at hl 2 rfl) ?_
    obtain ⟨q15, hw⟩ := hw
    refine z_aald hF hG (57 + 0) 1 (zc_pr (by decide)) (z_pr (by decide)) rfl q15 rfl dX11_two_62 ?_
    refine z_ci (va_runV (rest := []) hF.1 (kX5_isFull l E Z12 ((6 * 0 + (a2 : Int32).toNatClampNeg)) (z_vb (by decide) q15) hw _) (cwV 0 hts gX11_two_X5_isFull rfl rfl rfl ⟨rfl, hS_yX5_isFull⟩ ⟨Nat.le_trans (Nat.le_of_ble_eq_true rfl) hfr, Nat.le_trans (Nat.le_of_ble_eq_true rfl) hlo⟩) (z_preV hF hG (6 * 0 + (a2 : Int32).toNatClampNeg) (zc_sv (z_vb (by decide) q15)) (z_sv (z_vb (by decide) q15)) rfl) rfl rfl hl.1 rfl (lv_room (Nat.le_of_ble_eq_true rfl)) dX11_two_63 ⟨Nat.zero_le _, Nat.zero_le _⟩) hG (fun r17 Z16 H locs hw hG => ?_)
    refine lv_if_eq (tgt := 72) hx hb dX11_two_66 (by decide) (fun c18 => ?_) (fun c18 => ?_)
    · replace hw := hw.1 c18
      refine lv_iconst (v := 0) hx hb dX11_two_72 (by decide) ?_
      refine lv_topi (fun y19 ey19 => ?_)
      replace hw := hw y19 ey19
      refine lv_istore (lv' := [(4, .int y19), (0, .ref (E.2.1 96)), (1, .int a1), (2, .int a2), (3, .int a3)]) hx hb dX11_two_73 hl (by decide) rfl (fun ls hl => ?_)
      obtain ⟨n75, hw⟩ := hw
      exact J75 n75 y19 Z16 _ _ _ hG (lv_sub hl [1, 2, 3, 4, 0] rfl) hw
    replace hw := hw.2 c18
    refine lv_bipush (v := (-2)) hx hb dX11_two_69 (by decide) ?_
    exact z_iret hF hG hr hlk hw dX11_two_71
  replace hw := hw.2 (fun h => h c10)
  refine lv_iconst (v := (-1)) hx hb dX11_two_37 (by decide) ?_
  exact z_iret hF hG hr hlk hw dX11_two_38
set_option maxHeartbeats 4000000 in
set_option maxRecDepth 100000 in
theorem kJ6_bitCount_0f7a4 (l : Launch) (E : zE) (Z : zS) (a1 : Int32) {K : Int32 → zS → Prop} (hw : wJ6_bitCount_0f7a4 a1 Z K) : zCi l yJ6_bitCount_0f7a4 wsJ6_bitCount_0f7a4 ({ frames := 0, cells := 0, slots := 0, locals := 0 } : Room) E Z [.int a1] K := by
  refine z_bodyi (cc := cJ6_bitCount_0f7a4) (nL := 1) (ret := .int) (by decide) rfl (Nat.le_of_ble_eq_true rfl) ?_
  intro p e R s m args below meth c ls hfr hlo hF hr hlk hG hl
  have hx := hF.1.1
  have hb := hF.1.2.1
  have hown := hF.1.2.2.2.1
  have hts := hF.1.2.2.2.2
  have hl : lv_has ls 1 [(0, .int a1)] := hl
  unfold wJ6_bitCount_0f7a4 at hw
  refine lv_iload_n hx hb dJ6_bitCount_0f7a4_0 rfl (lv_at hl 0 rfl) ?_
  refine lv_iload_n hx hb dJ6_bitCount_0f7a4_1 rfl (lv_at hl 0 rfl) ?_
  refine lv_iconst (v := 1) hx hb dJ6_bitCount_0f7a4_2 (by decide) ?_
  refine lv_iushr hx hb dJ6_bitCount_0f7a4_3 rfl ?_
  refine lv_ldcw hx hb hown (hts (.constant RJ6 265 (1431655765)) (List.mem_of_getElem? (i := 1) rfl)) dJ6_bitCount_0f7a4_4 ?_
  refine lv_iand hx hb dJ6_bitCount_0f7a4_7 ?_
  refine lv_isub hx hb dJ6_bitCount_0f7a4_8 ?_
  refine lv_topi (fun y1 ey1 => ?_)
  replace hw := hw y1 ey1
  refine lv_istore_n (lv' := [(0, .int y1)]) hx hb dJ6_bitCount_0f7a4_9 rfl hl (by decide) rfl (fun ls hl => ?_)
  refine lv_iload_n hx hb dJ6_bitCount_0f7a4_10 rfl (lv_at hl 0 rfl) ?_
  refine lv_ldcw hx hb hown (hts (.constant RJ6 266 (858993459)) (List.mem_of_getElem? (i := 2) rfl)) dJ6_bitCount_0f7a4_11 ?_
  refine lv_iand hx hb dJ6_bitCount_0f7a4_14 ?_
  refine lv_iload_n hx hb dJ6_bitCount_0f7a4_15 rfl (lv_at hl 0 rfl) ?_
  refine lv_iconst (v := 2) hx hb dJ6_bitCount_0f7a4_16 (by decide) ?_
  refine lv_iushr hx hb dJ6_bitCount_0f7a4_17 rfl ?_
  refine lv_ldcw hx hb hown (hts (.constant RJ6 266 (858993459)) (List.mem_of_getElem? (i := 2) rfl)) dJ6_bitCount_0f7a4_18 ?_
  refine lv_iand hx hb dJ6_bitCount_0f7a4_21 ?_
  refine lv_iadd hx hb dJ6_bitCount_0f7a4_22 ?_
  refine lv_topi (fun y2 ey2 => ?_)
  replace hw := hw y2 ey2
  refine lv_istore_n (lv' := [(0, .int y2)]) hx hb dJ6_bitCount_0f7a4_23 rfl hl (by decide) rfl (fun ls hl => ?_)
  refine lv_iload_n hx hb dJ6_bitCount_0f7a4_24 rfl (lv_at hl 0 rfl) ?_
  refine lv_iload_n hx hb dJ6_bitCount_0f7a4_25 rfl (lv_at hl 0 rfl) ?_
  refine lv_iconst (v := 4) hx hb dJ6_bitCount_0f7a4_26 (by decide) ?_
  refine lv_iushr hx hb dJ6_bitCount_0f7a4_27 rfl ?_
  refine lv_iadd hx hb dJ6_bitCount_0f7a4_28 ?_
  refine lv_ldcw hx hb hown (hts (.constant RJ6 267 (252645135)) (List.mem_of_getElem? (i := 3) rfl)) dJ6_bitCount_0f7a4_29 ?_
  refine lv_iand hx hb dJ6_bitCount_0f7a4_32 ?_
  refine lv_topi (fun y3 ey3 => ?_)
  replace hw := hw y3 ey3
  refine lv_istore_n (lv' := [(0, .int y3)]) hx hb dJ6_bitCount_0f7a4_33 rfl hl (by decide) rfl (fun ls hl => ?_)
  refine lv_iload_n hx hb dJ6_bitCount_0f7a4_34 rfl (lv_at hl 0 rfl) ?_
  refine lv_iload_n hx hb dJ6_bitCount_0f7a4_35 rfl (lv_at hl 0 rfl) ?_
  refine lv_bipush (v := 8) hx hb dJ6_bitCount_0f7a4_36 (by decide) ?_
  refine lv_iushr hx hb dJ6_bitCount_0f7a4_38 rfl ?_
  refine lv_iadd hx hb dJ6_bitCount_0f7a4_39 ?_
  refine lv_topi (fun y4 ey4 => ?_)
  replace hw := hw y4 ey4
  refine lv_istore_n (lv' := [(0, .int y4)]) hx hb dJ6_bitCount_0f7a4_40 rfl hl (by decide) rfl (fun ls hl => ?_)
  refine lv_iload_n hx hb dJ6_bitCount_0f7a4_41 rfl (lv_at hl 0 rfl) ?_
  refine lv_iload_n hx hb dJ6_bitCount_0f7a4_42 rfl (lv_at hl 0 rfl) ?_
  refine lv_bipush (v := 16) hx hb dJ6_bitCount_0f7a4_43 (by decide) ?_
  refine lv_iushr hx hb dJ6_bitCount_0f7a4_45 rfl ?_
  refine lv_iadd hx hb dJ6_bitCount_0f7a4_46 ?_
  refine lv_topi (fun y5 ey5 => ?_)
  replace hw := hw y5 ey5
  refine lv_istore_n (lv' := [(0, .int y5)]) hx hb dJ6_bitCount_0f7a4_47 rfl hl (by decide) rfl (fun ls hl => ?_)
  refine lv_iload_n hx hb dJ6_bitCount_0f7a4_48 rfl (lv_at hl 0 rfl) ?_
  refine lv_bipush (v := 63) hx hb dJ6_bitCount_0f7a4_49 (by decide) ?_
  refine lv_iand hx hb dJ6_bitCount_0f7a4_51 ?_
  exact z_iret hF hG hr hlk hw dJ6_bitCount_0f7a4_52
set_option maxHeartbeats 4000000 in
set_option maxRecDepth 100000 in
theorem kX11_inLeastTerms (l : Launch) (E : zE) (Z : zS) (a1 : Int64) (a2 : Int64) (a3 : Int32) {K : Int64 → zS → Prop} (hw : wX11_inLeastTerms a1 a2 a3 Z K) : zCl l yX11_inLeastTerms wsX11_inLeastTerms ({ frames := 0, cells := 0, slots := 0, locals := 0 } : Room) E Z [.long a1, .long a2, .int a3] K := by
  refine z_bodyl (cc := cX11_inLeastTerms) (nL := 12) (by decide) rfl (Nat.le_of_ble_eq_true rfl) ?_
  intro p e R s m args below meth c ls hfr hlo hF hr hlk hG hl
  have hx := hF.1.1
  have hb := hF.1.2.1
  have hown := hF.1.2.2.2.1
  have hts := hF.1.2.2.2.2
  have hl : lv_has ls 12 [(0, .long a1), (2, .long a2), (4, .int a3)] := hl
  have J54 : ∀ (x5 : Int64) (s0 : Int64) (Z : zS) (H : Heap) (locs : List Loc) (ls : Array Slot), zG E Z s H locs → lv_has ls 12 [(5, .long x5)] → wX11_inLeastTerms_54 a1 a2 a3 x5 s0 Z K → W p l e R s m args below meth c H locs 0 0 (zQl E K below args s) (F0 m 54 ls [.long s0]) := by
    intro x5 s0 Z H locs ls hG hl hw
    unfold wX11_inLeastTerms_54 at hw
    refine lv_lstore (lv' := [(9, .long s0), (5, .long x5)]) hx hb dX11_inLeastTerms_54 hl (by decide) rfl (fun ls hl => ?_)
    refine lv_lload hx hb dX11_inLeastTerms_56 (lv_at hl 1 rfl) ?_
    refine lv_lconst (v := 0) hx hb dX11_inLeastTerms_58 rfl ?_
    refine W.lcmp hx hb dX11_inLeastTerms_59 ?_
    refine lv_if_ne (tgt := 68) hx hb dX11_inLeastTerms_60 (by decide) (fun c7 => ?_) (fun c7 => ?_)
    · replace hw := hw.1 c7
      refine lv_lload hx hb dX11_inLeastTerms_68 (lv_at hl 0 rfl) ?_
      refine lv_lload hx hb dX11_inLeastTerms_70 (lv_at hl 1 rfl) ?_
      refine lv_ldiv hx hb dX11_inLeastTerms_72 hw.1 ?_
      replace hw := hw.2
      exact z_lret hF hG hr hlk hw dX11_inLeastTerms_73
    replace hw := hw.2 (fun h => h c7)
    refine lv_lload hx hb dX11_inLeastTerms_63 (lv_at hl 0 rfl) ?_
    refine lv_goto (tgt := 73) hx hb dX11_inLeastTerms_65 (by decide) ?_
    exact z_lret hF hG hr hlk hw dX11_inLeastTerms_73
  have J44 : ∀ (x5 : Int64) (Z : zS) (H : Heap) (locs : List Loc) (ls : Array Slot), zG E Z s H locs → lv_has ls 12 [(0, .long a1), (2, .long a2), (4, .int a3), (5, .long x5)] → wX11_inLeastTerms_44 a1 a2 a3 x5 Z K → W p l e R s m args below meth c H locs 0 0 (zQl E K below args s) (F0 m 44 ls []) := by
    intro x5 Z H locs ls hG hl hw
    unfold wX11_inLeastTerms_44 at hw
    refine lv_iload hx hb dX11_inLeastTerms_44 (lv_at hl 2 rfl) ?_
    refine lv_if_ne (tgt := 53) hx hb dX11_inLeastTerms_46 (by decide) (fun c6 => ?_) (fun c6 => ?_)
    · replace hw := hw.1 c6
      refine lv_lload_n hx hb dX11_inLeastTerms_53 rfl (lv_at hl 1 rfl) ?_
      exact J54 x5 a2 Z _ _ _ hG (lv_sub hl [3] rfl) hw
    replace hw := hw.2 (fun h => h c6)
    refine lv_lload_n hx hb dX11_inLeastTerms_49 rfl (lv_at hl 0 rfl) ?_
    refine lv_goto (tgt := 54) hx hb dX11_inLeastTerms_50 (by decide) ?_
    exact J54 x5 a1 Z _ _ _ hG (lv_sub hl [3] rfl) hw
  have S9 : ∀ (L9 : Int64 → Int64 → Int32 → zS → Prop), (∀ (x5 : Int64) (x7 : Int64) (x9 : Int32) (Z : zS) (H : Heap) (locs : List Loc) (ls : Array Slot), zG E Z s H locs → lv_has ls 12 [(0, .long a1), (2, .long a2), (4, .int a3), (5, .long x5), (7, .long x7), (9, .int x9)] → L9 x5 x7 x9 Z → W p l e R s m args below meth c H locs 0 0 (zQl E K below args s) (F0 m 9 ls [])) → ∀ (x5 : Int64) (x7 : Int64) (x9 : Int32) (Z : zS) (H : Heap) (locs : List Loc) (ls : Array Slot), zG E Z s H locs → lv_has ls 12 [(0, .long a1), (2, .long a2), (4, .int a3), (5, .long x5), (7, .long x7), (9, .int x9)] → wX11_inLeastTerms_9b L9 a1 a2 a3 x5 x7 x9 Z K → W p l e R s m args below meth c H locs 0 0 (zQl E K below args s) (F0 m 9 ls []) := by
    intro L9 ih9
    intro x5 x7 x9 Z H locs ls hG hl hw
    unfold wX11_inLeastTerms_9b at hw
    refine lv_iload hx hb dX11_inLeastTerms_9 (lv_at hl 5 rfl) ?_
    refine lv_bipush (v := 100) hx hb dX11_inLeastTerms_11 (by decide) ?_
    refine lv_icmp_ge (tgt := 44) hx hb dX11_inLeastTerms_13 (by decide) (fun c2 => ?_) (fun c2 => ?_)
    · replace hw := hw.1 c2
      exact J44 x5 Z _ _ _ hG (lv_sub hl [0, 1, 2, 3] rfl) hw
    replace hw := hw.2 c2
    refine lv_lload hx hb dX11_inLeastTerms_16 (lv_at hl 4 rfl) ?_
    refine lv_lconst (v := 0) hx hb dX11_inLeastTerms_18 rfl ?_
    refine W.lcmp hx hb dX11_inLeastTerms_19 ?_
    refine lv_if_eq (tgt := 44) hx hb dX11_inLeastTerms_20 (by decide) (fun c3 => ?_) (fun c3 => ?_)
    · replace hw := hw.1 c3
      exact J44 x5 Z _ _ _ hG (lv_sub hl [0, 1, 2, 3] rfl) hw
    replace hw := hw.2 c3
    refine lv_lload hx hb dX11_inLeastTerms_23 (lv_at hl 3 rfl) ?_
    refine lv_lload hx hb dX11_inLeastTerms_25 (lv_at hl 4 rfl) ?_
    refine lv_lrem hx hb dX11_inLeastTerms_27 hw.1 ?_
    replace hw := hw.2
    refine lv_topl (fun y4 ey4 => ?_)
    replace hw := hw y4 ey4
    refine lv_lstore (lv' := [(10, .long y4), (0, .long a1), (2, .long a2), (4, .int a3), (5, .long x5), (7, .long x7), (9, .int x9)]) hx hb dX11_inLeastTerms_28 hl (by decide) rfl (fun ls hl => ?_)
    refine lv_lload hx hb dX11_inLeastTerms_30 (lv_at hl 5 rfl) ?_
    refine lv_lstore (lv' := [(5, .long x7), (10, .long y4), (0, .long a1), (2, .long a2), (4, .int a3), (7, .long x7), (9, .int x9)]) hx hb dX11_inLeastTerms_32 hl (by decide) rfl (fun ls hl => ?_)
    refine lv_lload hx hb dX11_inLeastTerms_34 (lv_at hl 1 rfl) ?_
    refine lv_lstore (lv' := [(7, .long y4), (5, .long x7), (10, .long y4), (0, .long a1), (2, .long a2), (4, .int a3), (9, .int x9)]) hx hb dX11_inLeastTerms_36 hl (by decide) rfl (fun ls hl => ?_)
    obtain ⟨y5, ey5⟩ : ∃ y : Int32, y = x9 + 1 := ⟨_, rfl⟩
    replace hw := hw y5 ey5
    refine lv_iinc (v := y5) (lv' := [(9, .int y5), (7, .long y4), (5, .long x7), (10, .long y4), (0, .long a1), (2, .long a2), (4, .int a3)]) hx hb dX11_inLeastTerms_38 hl (k := 6) rfl (by rw [ey5]; rfl) (by decide) rfl (fun ls hl => ?_)
    refine lv_goto (tgt := 9) hx hb dX11_inLeastTerms_41 (by decide) ?_
    exact ih9 x7 y4 y5 Z _ _ _ hG (lv_sub hl [4, 5, 6, 2, 1, 0] rfl) hw
  have J9 : ∀ n : Nat, ∀ (x5 : Int64) (x7 : Int64) (x9 : Int32) (Z : zS) (H : Heap) (locs : List Loc) (ls : Array Slot), zG E Z s H locs → lv_has ls 12 [(0, .long a1), (2, .long a2), (4, .int a3), (5, .long x5), (7, .long x7), (9, .int x9)] → wX11_inLeastTerms_9 a1 a2 a3 K n x5 x7 x9 Z → W p l e R s m args below meth c H locs 0 0 (zQl E K below args s) (F0 m 9 ls []) := by
    intro n
    induction n with
    | zero => intro x5 x7 x9 Z H locs ls hG hl hw; exact hw.elim
    | succ n ih => intro x5 x7 x9 Z H locs ls hG hl hw; exact S9 _ ih x5 x7 x9 Z H locs ls hG hl hw
  unfold wX11_inLeastTerms at hw
  refine lv_lload_n hx hb dX11_inLeastTerms_0 rfl (lv_at hl 1 rfl) ?_
  refine lv_lstore (lv' := [(5, .long a2), (0, .long a1), (2, .long a2), (4, .int a3)]) hx hb dX11_inLeastTerms_1 hl (by decide) rfl (fun ls hl => ?_)
  refine lv_lload_n hx hb dX11_inLeastTerms_3 rfl (lv_at hl 1 rfl) ?_
  refine lv_lstore (lv' := [(7, .long a1), (5, .long a2), (0, .long a1), (2, .long a2), (4, .int a3)]) hx hb dX11_inLeastTerms_4 hl (by decide) rfl (fun ls hl => ?_)
  refine lv_iconst (v := 0) hx hb dX11_inLeastTerms_6 (by decide) ?_
  refine lv_topi (fun y1 ey1 => ?_)
  replace hw := hw y1 ey1
  refine lv_istore (lv' := [(9, .int y1), (7, .long a1), (5, .long a2), (0, .long a1), (2, .long a2), (4, .int a3)]) hx hb dX11_inLeastTerms_7 hl (by decide) rfl (fun ls hl => ?_)
  obtain ⟨n9, hw⟩ := hw
  exact J9 n9 a2 a1 y1 Z _ _ _ hG (lv_sub hl [3, 4, 5, 2, 1, 0] rfl) hw
set_option maxHeartbeats 4000000 in
set_option maxRecDepth 100000 in
theorem kX11_isLateWithBreaks (l : Launch) (E : zE) (Z : zS) (a1 : Int32) (a2 : Int32) (a3 : Int32) {K : Int32 → zS → Prop} (hw : wX11_isLateWithBreaks a1 a2 a3 Z K) : zCi l yX11_isLateWithBreaks wsX11_isLateWithBreaks ({ frames := 5, cells := 0, slots := 0, locals := 100 } : Room) E Z [.ref (E.2.1 96), .int a1, .int a2, .int a3] K := by
  refine z_bodyi (cc := cX11_isLateWithBreaks) (nL := 5) (ret := .boolean) (by decide) rfl (Nat.le_of_ble_eq_true rfl) ?_
  intro p e R s m args below meth c ls hfr hlo hF hr hlk hG hl
  have hx := hF.1.1
  have hb := hF.1.2.1
  have hown := hF.1.2.2.2.1
  have hts := hF.1.2.2.2.2
  have in11 : ∀ w ∈ u_ws RX11 TX11 11, w ∈ wsX11_isLateWithBreaks := fun _ h => List.mem_cons_of_mem _ (List.mem_append_left _ (List.mem_append_left _ (List.mem_append_right _ h)))
  have hl : lv_has ls 5 [(0, .ref (E.2.1 96)), (1, .int a1), (2, .int a2), (3, .int a3)] := hl
  have S14 : ∀ (L14 : Int32 → zS → Prop), (∀ (x4 : Int32) (Z : zS) (H : Heap) (locs : List Loc) (ls : Array Slot), zG E Z s H locs → lv_has ls 5 [(0, .ref (E.2.1 96)), (1, .int a1), (2, .int a2), (3, .int a3), (4, .int x4)] → L14 x4 Z → W p l e R s m args below meth c H locs 0 0 (zQi E K below args s) (F0 m 14 ls [])) → ∀ (x4 : Int32) (Z : zS) (H : Heap) (locs : List Loc) (ls : Array Slot), zG E Z s H locs → lv_has ls 5 [(0, .ref (E.2.1 96)), (1, .int a1), (2, .int a2), (3, .int a3), (4, .int x4)] → wX11_isLateWithBreaks_14b L14 a1 a2 a3 x4 Z K → W p l e R s m args below meth c H locs 0 0 (zQi E K below args s) (F0 m 14 ls []) := by
    intro L14 ih14
    have J39 : ∀ (x4 : Int32) (s0 : Int32) (Z : zS) (H : Heap) (locs : List Loc) (ls : Array Slot), zG E Z s H locs → lv_has ls 5 [(0, .ref (E.2.1 96)), (1, .int a1), (2, .int a2), (3, .int a3), (4, .int x4)] → wX11_isLateWithBreaks_39 L14 a1 a2 a3 x4 s0 Z K → W p l e R s m args below meth c H locs 0 0 (zQi E K below args s) (F0 m 39 ls [.int s0, .ref (E.2.1 (54 + 1))]) := by
      intro x4 s0 Z H locs ls hG hl hw
      unfold wX11_isLateWithBreaks_39 at hw
      refine z_cv (va_runV (rest := []) hF.1 (kX3_goOn l E Z 1 s0 (by decide) hw _) (cwV 1 hts gX11_isLateWithBreaks_X3_goOn rfl rfl rfl ⟨rfl, hS_yX3_goOn⟩ ⟨Nat.le_trans (Nat.le_of_ble_eq_true rfl) hfr, Nat.le_trans (Nat.le_of_ble_eq_true rfl) hlo⟩) (z_preV hF hG (54 + 1) (zc_pl (by decide)) (z_pl (by decide)) rfl) rfl rfl hl.1 rfl (lv_room (Nat.le_of_ble_eq_true rfl)) dX11_isLateWithBreaks_39 ⟨Nat.zero_le _, Nat.zero_le _⟩) hG (fun Z5 H locs hw hG => ?_)
      refine lv_aload_n hx hb dX11_isLateWithBreaks_42 rfl (lv_at hl 0 rfl) ?_
      refine lv_iload_n hx hb dX11_isLateWithBreaks_43 rfl (lv_at hl 1 rfl) ?_
      refine z_ci (va_runV (rest := []) hF.1 (kX11_lateMore l E Z5 a1  hw _) (cwV 1 hts gX11_isLateWithBreaks_X11_lateMore rfl rfl rfl ⟨rfl, hS_yX11_lateMore⟩ ⟨Nat.le_trans (Nat.le_of_ble_eq_true rfl) hfr, Nat.le_trans (Nat.le_of_ble_eq_true rfl) hlo⟩) (z_preV hF hG 96 (by decide) z_gs rfl) rfl rfl hl.1 rfl (lv_room (Nat.le_of_ble_eq_true rfl)) dX11_isLateWithBreaks_44 ⟨Nat.zero_le _, Nat.zero_le _⟩) hG (fun r7 Z6 H locs hw hG => ?_)
      refine lv_if_le (tgt := 52) hx hb dX11_isLateWithBreaks_47 (by decide) (fun c8 => ?_) (fun c8 => ?_)
      · replace hw := hw.1 c8
        obtain ⟨y9, ey9⟩ : ∃ y : Int32, y = x4 + 1 := ⟨_, rfl⟩
        replace hw := hw y9 ey9
        refine lv_iinc (v := y9) (lv' := [(4, .int y9), (0, .ref (E.2.1 96)), (1, .int a1), (2, .int a2), (3, .int a3)]) hx hb dX11_isLateWithBreaks_52 hl (k := 4) rfl (by rw [ey9]; rfl) (by decide) rfl (fun ls hl => ?_)
        refine lv_goto (tgt := 14) hx hb dX11_isLateWithBreaks_55 (by decide) ?_
        exact ih14 y9 Z6 _ _ _ hG (lv_sub hl [1, 2, 3, 4, 0] rfl) hw
      replace hw := hw.2 c8
      refine lv_iconst (v := 1) hx hb dX11_isLateWithBreaks_50 (by decide) ?_
      exact z_zret hF hG hr hlk (by decide) hw dX11_isLateWithBreaks_51
    intro x4 Z H locs ls hG hl hw
    unfold wX11_isLateWithBreaks_14b at hw
    refine lv_iload hx hb dX11_isLateWithBreaks_14 (lv_at hl 4 rfl) ?_
    refine lv_iload_n hx hb dX11_isLateWithBreaks_16 rfl (lv_at hl 2 rfl) ?_
    refine lv_icmp_ge (tgt := 58) hx hb dX11_isLateWithBreaks_17 (by decide) (fun c3 => ?_) (fun c3 => ?_)
    · replace hw := hw.1 c3
      refine lv_iconst (v := 0) hx hb dX11_isLateWithBreaks_58 (by decide) ?_
      exact z_zret hF hG hr hlk (by decide) hw dX11_isLateWithBreaks_59
    replace hw := hw.2 c3
    refine lv_aload_n hx hb dX11_isLateWithBreaks_20 rfl (lv_at hl 0 rfl) ?_
    refine z_get hF hG 96 (by decide) z_gs rfl in11 2 (by decide) (List.mem_of_getElem? (i := 1) rfl) rfl rfl dX11_isLateWithBreaks_21 ?_
    refine lv_iload_n hx hb dX11_isLateWithBreaks_24 rfl (lv_at hl 3 rfl) ?_
    refine lv_iload hx hb dX11_isLateWithBreaks_25 (lv_at hl 4 rfl) ?_
    refine lv_ishr hx hb dX11_isLateWithBreaks_27 ?_
    refine lv_iconst (v := 1) hx hb dX11_isLateWithBreaks_28 (by decide) ?_
    refine lv_iand hx hb dX11_isLateWithBreaks_29 ?_
    refine lv_iconst (v := 1) hx hb dX11_isLateWithBreaks_30 (by decide) ?_
    refine lv_icmp_ne (tgt := 38) hx hb dX11_isLateWithBreaks_31 (by decide) (fun c4 => ?_) (fun c4 => ?_)
    · replace hw := hw.1 c4
      refine lv_iconst (v := 0) hx hb dX11_isLateWithBreaks_38 (by decide) ?_
      exact J39 x4 0 Z _ _ _ hG (lv_sub hl [0, 1, 2, 3, 4] rfl) hw
    replace hw := hw.2 (fun h => h c4)
    refine lv_iconst (v := 1) hx hb dX11_isLateWithBreaks_34 (by decide) ?_
    refine lv_goto (tgt := 39) hx hb dX11_isLateWithBreaks_35 (by decide) ?_
    exact J39 x4 1 Z _ _ _ hG (lv_sub hl [0, 1, 2, 3, 4] rfl) hw
  have J14 : ∀ n : Nat, ∀ (x4 : Int32) (Z : zS) (H : Heap) (locs : List Loc) (ls : Array Slot), zG E Z s H locs → lv_has ls 5 [(0, .ref (E.2.1 96)), (1, .int a1), (2, .int a2), (3, .int a3), (4, .int x4)] → wX11_isLateWithBreaks_14 a1 a2 a3 K n x4 Z → W p l e R s m args below meth c H locs 0 0 (zQi E K below args s) (F0 m 14 ls []) := by
    intro n
    induction n with
    | zero => intro x4 Z H locs ls hG hl hw; exact hw.elim
    | succ n ih => intro x4 Z H locs ls hG hl hw; exact S14 _ ih x4 Z H locs ls hG hl hw
  unfold wX11_isLateWithBreaks at hw
  refine lv_aload_n hx hb dX11_isLateWithBreaks_0 rfl (lv_at hl 0 rfl) ?_
  refine z_get hF hG 96 (by decide) z_gs rfl in11 2 (by decide) (List.mem_of_getElem? (i := 1) rfl) rfl rfl dX11_isLateWithBreaks_1 ?_
  refine lv_aload_n hx hb dX11_isLateWithBreaks_4 rfl (lv_at hl 0 rfl) ?_
  refine z_get hF hG 96 (by decide) z_gs rfl in11 1 (by decide) (List.mem_of_getElem? (i := 2) rfl) rfl rfl dX11_isLateWithBreaks_5 ?_
  refine z_cv (va_runV (rest := []) hF.1 (kX3_becomes l E Z 1 0 (by decide) (by decide) hw _) (cwV 1 hts gX11_isLateWithBreaks_X3_becomes rfl rfl rfl ⟨rfl, hS_yX3_becomes⟩ ⟨Nat.le_trans (Nat.le_of_ble_eq_true rfl) hfr, Nat.le_trans (Nat.le_of_ble_eq_true rfl) hlo⟩) (z_preV hF hG (54 + 1) (zc_pl (by decide)) (z_pl (by decide)) rfl) rfl rfl hl.1 rfl (lv_room (Nat.le_of_ble_eq_true rfl)) dX11_isLateWithBreaks_8 ⟨Nat.zero_le _, Nat.zero_le _⟩) hG (fun Z1 H locs hw hG => ?_)
  refine lv_iconst (v := 0) hx hb dX11_isLateWithBreaks_11 (by decide) ?_
  refine lv_topi (fun y2 ey2 => ?_)
  replace hw := hw y2 ey2
  refine lv_istore (lv' := [(4, .int y2), (0, .ref (E.2.1 96)), (1, .int a1), (2, .int a2), (3, .int a3)]) hx hb dX11_isLateWithBreaks_12 hl (by decide) rfl (fun ls hl => ?_)
  obtain ⟨n14, hw⟩ := hw
  exact J14 n14 y2 Z1 _ _ _ hG (lv_sub hl [1, 2, 3, 4, 0] rfl) hw
set_option maxHeartbeats 4000000 in
set_option maxRecDepth 100000 in
theorem kX11_power (l : Launch) (E : zE) (Z : zS) (a1 : Int32) (a2 : Int32) {K : Int64 → zS → Prop} (hw : wX11_power a1 a2 Z K) : zCl l yX11_power wsX11_power ({ frames := 0, cells := 0, slots := 0, locals := 0 } : Room) E Z [.int a1, .int a2] K := by
  refine z_bodyl (cc := cX11_power) (nL := 5) (by decide) rfl (Nat.le_of_ble_eq_true rfl) ?_
  intro p e R s m args below meth c ls hfr hlo hF hr hlk hG hl
  have hx := hF.1.1
  have hb := hF.1.2.1
  have hown := hF.1.2.2.2.1
  have hts := hF.1.2.2.2.2
  have hl : lv_has ls 5 [(0, .int a1), (1, .int a2)] := hl
  have S5 : ∀ (L5 : Int64 → Int32 → zS → Prop), (∀ (x2 : Int64) (x4 : Int32) (Z : zS) (H : Heap) (locs : List Loc) (ls : Array Slot), zG E Z s H locs → lv_has ls 5 [(0, .int a1), (1, .int a2), (2, .long x2), (4, .int x4)] → L5 x2 x4 Z → W p l e R s m args below meth c H locs 0 0 (zQl E K below args s) (F0 m 5 ls [])) → ∀ (x2 : Int64) (x4 : Int32) (Z : zS) (H : Heap) (locs : List Loc) (ls : Array Slot), zG E Z s H locs → lv_has ls 5 [(0, .int a1), (1, .int a2), (2, .long x2), (4, .int x4)] → wX11_power_5b L5 a1 a2 x2 x4 Z K → W p l e R s m args below meth c H locs 0 0 (zQl E K below args s) (F0 m 5 ls []) := by
    intro L5 ih5
    intro x2 x4 Z H locs ls hG hl hw
    unfold wX11_power_5b at hw
    refine lv_iload hx hb dX11_power_5 (lv_at hl 3 rfl) ?_
    refine lv_iload_n hx hb dX11_power_7 rfl (lv_at hl 1 rfl) ?_
    refine lv_icmp_ge (tgt := 22) hx hb dX11_power_8 (by decide) (fun c3 => ?_) (fun c3 => ?_)
    · replace hw := hw.1 c3
      refine lv_lload_n hx hb dX11_power_22 rfl (lv_at hl 2 rfl) ?_
      exact z_lret hF hG hr hlk hw dX11_power_23
    replace hw := hw.2 c3
    refine lv_lload_n hx hb dX11_power_11 rfl (lv_at hl 2 rfl) ?_
    refine lv_iload_n hx hb dX11_power_12 rfl (lv_at hl 0 rfl) ?_
    refine lv_i2l hx hb dX11_power_13 rfl ?_
    refine lv_lmul hx hb dX11_power_14 ?_
    refine lv_topl (fun y4 ey4 => ?_)
    replace hw := hw y4 ey4
    refine lv_lstore_n (lv' := [(2, .long y4), (0, .int a1), (1, .int a2), (4, .int x4)]) hx hb dX11_power_15 rfl hl (by decide) rfl (fun ls hl => ?_)
    obtain ⟨y5, ey5⟩ : ∃ y : Int32, y = x4 + 1 := ⟨_, rfl⟩
    replace hw := hw y5 ey5
    refine lv_iinc (v := y5) (lv' := [(4, .int y5), (2, .long y4), (0, .int a1), (1, .int a2)]) hx hb dX11_power_16 hl (k := 3) rfl (by rw [ey5]; rfl) (by decide) rfl (fun ls hl => ?_)
    refine lv_goto (tgt := 5) hx hb dX11_power_19 (by decide) ?_
    exact ih5 y4 y5 Z _ _ _ hG (lv_sub hl [2, 3, 1, 0] rfl) hw
  have J5 : ∀ n : Nat, ∀ (x2 : Int64) (x4 : Int32) (Z : zS) (H : Heap) (locs : List Loc) (ls : Array Slot), zG E Z s H locs → lv_has ls 5 [(0, .int a1), (1, .int a2), (2, .long x2), (4, .int x4)] → wX11_power_5 a1 a2 K n x2 x4 Z → W p l e R s m args below meth c H locs 0 0 (zQl E K below args s) (F0 m 5 ls []) := by
    intro n
    induction n with
    | zero => intro x2 x4 Z H locs ls hG hl hw; exact hw.elim
    | succ n ih => intro x2 x4 Z H locs ls hG hl hw; exact S5 _ ih x2 x4 Z H locs ls hG hl hw
  unfold wX11_power at hw
  refine lv_lconst (v := 1) hx hb dX11_power_0 rfl ?_
  refine lv_topl (fun y1 ey1 => ?_)
  replace hw := hw y1 ey1
  refine lv_lstore_n (lv' := [(2, .long y1), (0, .int a1), (1, .int a2)]) hx hb dX11_power_1 rfl hl (by decide) rfl (fun ls hl => ?_)
  refine lv_iconst (v := 0) hx hb dX11_power_2 (by decide) ?_
  refine lv_topi (fun y2 ey2 => ?_)
  replace hw := hw y2 ey2
  refine lv_istore (lv' := [(4, .int y2), (2, .long y1), (0, .int a1), (1, .int a2)]) hx hb dX11_power_3 hl (by decide) rfl (fun ls hl => ?_)
  obtain ⟨n5, hw⟩ := hw
  exact J5 n5 y1 y2 Z _ _ _ hG (lv_sub hl [2, 3, 1, 0] rfl) hw
theorem hS_yX11_power : yX11_power.cls ≠ "java/lang/invoke/MethodHandle" ∧ yX11_power.cls ≠ "java/lang/invoke/VarHandle" ∧ (parseMethodDescriptor yX11_power.desc).map (fun d => d.parameters.length) = some 2 := by decide +kernel
theorem hS_yX11_inLeastTerms : yX11_inLeastTerms.cls ≠ "java/lang/invoke/MethodHandle" ∧ yX11_inLeastTerms.cls ≠ "java/lang/invoke/VarHandle" ∧ (parseMethodDescriptor yX11_inLeastTerms.desc).map (fun d => d.parameters.length) = some 3 := by decide +kernel
theorem hS_yX11_isLateWithBreaks : yX11_isLateWithBreaks.cls ≠ "java/lang/invoke/MethodHandle" ∧ yX11_isLateWithBreaks.cls ≠ "java/lang/invoke/VarHandle" ∧ (parseMethodDescriptor yX11_isLateWithBreaks.desc).map (fun d => d.parameters.length) = some 3 := by decide +kernel
theorem hS_yJ6_bitCount_0f7a4 : yJ6_bitCount_0f7a4.cls ≠ "java/lang/invoke/MethodHandle" ∧ yJ6_bitCount_0f7a4.cls ≠ "java/lang/invoke/VarHandle" ∧ (parseMethodDescriptor yJ6_bitCount_0f7a4.desc).map (fun d => d.parameters.length) = some 1 := by decide +kernel
set_option maxHeartbeats 4000000 in
set_option maxRecDepth 100000 in
theorem kX11_breaks (l : Launch) (E : zE) (Z : zS) (a1 : Int32) (a2 : Int32) (a3 : Int32) (a4 : Int32) {K : Int64 → zS → Prop} (hw : wX11_breaks a1 a2 a3 a4 Z K) : zCl l yX11_breaks wsX11_breaks ({ frames := 6, cells := 0, slots := 0, locals := 124 } : Room) E Z [.ref (E.2.1 96), .int a1, .int a2, .int a3, .int a4] K := by
  refine z_bodyl (cc := cX11_breaks) (nL := 8) (by decide) rfl (Nat.le_of_ble_eq_true rfl) ?_
  intro p e R s m args below meth c ls hfr hlo hF hr hlk hG hl
  have hx := hF.1.1
  have hb := hF.1.2.1
  have hown := hF.1.2.2.2.1
  have hts := hF.1.2.2.2.2
  have in11 : ∀ w ∈ u_ws RX11 TX11 11, w ∈ wsX11_breaks := fun _ h => List.mem_cons_of_mem _ (List.mem_append_left _ (List.mem_append_left _ (List.mem_append_right _ h)))
  have hl : lv_has ls 8 [(0, .ref (E.2.1 96)), (1, .int a1), (2, .int a2), (3, .int a3), (4, .int a4)] := hl
  have S51 : ∀ (L51 : Int64 → Int32 → zS → Prop), (∀ (x5 : Int64) (x7 : Int32) (Z : zS) (H : Heap) (locs : List Loc) (ls : Array Slot), zG E Z s H locs → lv_has ls 8 [(0, .ref (E.2.1 96)), (1, .int a1), (2, .int a2), (3, .int a3), (4, .int a4), (5, .long x5), (7, .int x7)] → L51 x5 x7 Z → W p l e R s m args below meth c H locs 0 0 (zQl E K below args s) (F0 m 51 ls [])) → ∀ (x5 : Int64) (x7 : Int32) (Z : zS) (H : Heap) (locs : List Loc) (ls : Array Slot), zG E Z s H locs → lv_has ls 8 [(0, .ref (E.2.1 96)), (1, .int a1), (2, .int a2), (3, .int a3), (4, .int a4), (5, .long x5), (7, .int x7)] → wX11_breaks_51b L51 a1 a2 a3 a4 x5 x7 Z K → W p l e R s m args below meth c H locs 0 0 (zQl E K below args s) (F0 m 51 ls []) := by
    intro L51 ih51
    have J88 : ∀ (x5 : Int64) (x7 : Int32) (Z : zS) (H : Heap) (locs : List Loc) (ls : Array Slot), zG E Z s H locs → lv_has ls 8 [(0, .ref (E.2.1 96)), (1, .int a1), (2, .int a2), (3, .int a3), (4, .int a4), (5, .long x5), (7, .int x7)] → wX11_breaks_88 L51 a1 a2 a3 a4 x5 x7 Z K → W p l e R s m args below meth c H locs 0 0 (zQl E K below args s) (F0 m 88 ls []) := by
      intro x5 x7 Z H locs ls hG hl hw
      unfold wX11_breaks_88 at hw
      obtain ⟨y28, ey28⟩ : ∃ y : Int32, y = x7 + 1 := ⟨_, rfl⟩
      replace hw := hw y28 ey28
      refine lv_iinc (v := y28) (lv' := [(7, .int y28), (0, .ref (E.2.1 96)), (1, .int a1), (2, .int a2), (3, .int a3), (4, .int a4), (5, .long x5)]) hx hb dX11_breaks_88 hl (k := 6) rfl (by rw [ey28]; rfl) (by decide) rfl (fun ls hl => ?_)
      refine lv_goto (tgt := 51) hx hb dX11_breaks_91 (by decide) ?_
      exact ih51 x5 y28 Z _ _ _ hG (lv_sub hl [1, 2, 3, 4, 5, 6, 0] rfl) hw
    intro x5 x7 Z H locs ls hG hl hw
    unfold wX11_breaks_51b at hw
    refine lv_iload hx hb dX11_breaks_51 (lv_at hl 6 rfl) ?_
    refine lv_iconst (v := 1) hx hb dX11_breaks_53 (by decide) ?_
    refine lv_iload_n hx hb dX11_breaks_54 rfl (lv_at hl 2 rfl) ?_
    refine lv_ishl hx hb dX11_breaks_55 ?_
    refine lv_icmp_ge (tgt := 94) hx hb dX11_breaks_56 (by decide) (fun c15 => ?_) (fun c15 => ?_)
    · replace hw := hw.1 c15
      refine lv_lload hx hb dX11_breaks_94 (lv_at hl 5 rfl) ?_
      refine lv_iload_n hx hb dX11_breaks_96 rfl (lv_at hl 3 rfl) ?_
      refine lv_iload_n hx hb dX11_breaks_97 rfl (lv_at hl 2 rfl) ?_
      refine z_cl (va_runS (rest := [.long x5]) hF.1 (kX11_power l E Z a3 a2  hw _) (va_cwS 2 hts gX11_breaks_X11_power rfl rfl rfl hS_yX11_power ⟨Nat.le_trans (Nat.le_of_ble_eq_true rfl) hfr, Nat.le_trans (Nat.le_of_ble_eq_true rfl) hlo⟩) (z_preS hF hG) rfl rfl hl.1 rfl (lv_room (Nat.le_of_ble_eq_true rfl)) dX11_breaks_98 ⟨Nat.zero_le _, Nat.zero_le _⟩) hG (fun r17 Z16 H locs hw hG => ?_)
      refine lv_iload hx hb dX11_breaks_101 (lv_at hl 4 rfl) ?_
      refine z_cl (va_runS (rest := []) hF.1 (kX11_inLeastTerms l E Z16 x5 r17 a4  hw _) (va_cwS 3 hts gX11_breaks_X11_inLeastTerms rfl rfl rfl hS_yX11_inLeastTerms ⟨Nat.le_trans (Nat.le_of_ble_eq_true rfl) hfr, Nat.le_trans (Nat.le_of_ble_eq_true rfl) hlo⟩) (z_preS hF hG) rfl rfl hl.1 rfl (lv_room (Nat.le_of_ble_eq_true rfl)) dX11_breaks_103 ⟨Nat.zero_le _, Nat.zero_le _⟩) hG (fun r19 Z18 H locs hw hG => ?_)
      exact z_lret hF hG hr hlk hw dX11_breaks_106
    replace hw := hw.2 c15
    refine lv_aload_n hx hb dX11_breaks_59 rfl (lv_at hl 0 rfl) ?_
    refine lv_iload_n hx hb dX11_breaks_60 rfl (lv_at hl 1 rfl) ?_
    refine lv_iload_n hx hb dX11_breaks_61 rfl (lv_at hl 2 rfl) ?_
    refine lv_iload hx hb dX11_breaks_62 (lv_at hl 6 rfl) ?_
    refine z_ci (va_runV (rest := []) hF.1 (kX11_isLateWithBreaks l E Z a1 a2 x7  hw _) (cwV 3 hts gX11_breaks_X11_isLateWithBreaks rfl rfl rfl ⟨rfl, hS_yX11_isLateWithBreaks⟩ ⟨Nat.le_trans (Nat.le_of_ble_eq_true rfl) hfr, Nat.le_trans (Nat.le_of_ble_eq_true rfl) hlo⟩) (z_preV hF hG 96 (by decide) z_gs rfl) rfl rfl hl.1 rfl (lv_room (Nat.le_of_ble_eq_true rfl)) dX11_breaks_64 ⟨Nat.zero_le _, Nat.zero_le _⟩) hG (fun r21 Z20 H locs hw hG => ?_)
    refine lv_if_eq (tgt := 88) hx hb dX11_breaks_67 (by decide) (fun c22 => ?_) (fun c22 => ?_)
    · replace hw := hw.1 c22
      exact J88 x5 x7 Z20 _ _ _ hG (lv_sub hl [0, 1, 2, 3, 4, 5, 6] rfl) hw
    replace hw := hw.2 c22
    refine lv_lload hx hb dX11_breaks_70 (lv_at hl 5 rfl) ?_
    refine lv_iload_n hx hb dX11_breaks_72 rfl (lv_at hl 3 rfl) ?_
    refine lv_iconst (v := 1) hx hb dX11_breaks_73 (by decide) ?_
    refine lv_isub hx hb dX11_breaks_74 ?_
    refine lv_iload_n hx hb dX11_breaks_75 rfl (lv_at hl 2 rfl) ?_
    refine lv_iload hx hb dX11_breaks_76 (lv_at hl 6 rfl) ?_
    refine z_ci (va_runS (rest := [.int a2, .int ((a3 - 1)), .long x5]) hF.1 (kJ6_bitCount_0f7a4 l E Z20 x7  hw _) (va_cwS 1 hts gX11_breaks_J6_bitCount_0f7a4 rfl rfl rfl hS_yJ6_bitCount_0f7a4 ⟨Nat.le_trans (Nat.le_of_ble_eq_true rfl) hfr, Nat.le_trans (Nat.le_of_ble_eq_true rfl) hlo⟩) (z_preS hF hG) rfl rfl hl.1 rfl (lv_room (Nat.le_of_ble_eq_true rfl)) dX11_breaks_78 ⟨Nat.zero_le _, Nat.zero_le _⟩) hG (fun r24 Z23 H locs hw hG => ?_)
    refine lv_isub hx hb dX11_breaks_81 ?_
    refine z_cl (va_runS (rest := [.long x5]) hF.1 (kX11_power l E Z23 ((a3 - 1)) ((a2 - r24))  hw _) (va_cwS 2 hts gX11_breaks_X11_power rfl rfl rfl hS_yX11_power ⟨Nat.le_trans (Nat.le_of_ble_eq_true rfl) hfr, Nat.le_trans (Nat.le_of_ble_eq_true rfl) hlo⟩) (z_preS hF hG) rfl rfl hl.1 rfl (lv_room (Nat.le_of_ble_eq_true rfl)) dX11_breaks_82 ⟨Nat.zero_le _, Nat.zero_le _⟩) hG (fun r26 Z25 H locs hw hG => ?_)
    refine lv_ladd hx hb dX11_breaks_85 ?_
    refine lv_topl (fun y27 ey27 => ?_)
    replace hw := hw y27 ey27
    refine lv_lstore (lv' := [(5, .long y27), (0, .ref (E.2.1 96)), (1, .int a1), (2, .int a2), (3, .int a3), (4, .int a4), (7, .int x7)]) hx hb dX11_breaks_86 hl (by decide) rfl (fun ls hl => ?_)
    exact J88 y27 x7 Z25 _ _ _ hG (lv_sub hl [1, 2, 3, 4, 5, 0, 6] rfl) hw
  have J51 : ∀ n : Nat, ∀ (x5 : Int64) (x7 : Int32) (Z : zS) (H : Heap) (locs : List Loc) (ls : Array Slot), zG E Z s H locs → lv_has ls 8 [(0, .ref (E.2.1 96)), (1, .int a1), (2, .int a2), (3, .int a3), (4, .int a4), (5, .long x5), (7, .int x7)] → wX11_breaks_51 a1 a2 a3 a4 K n x5 x7 Z → W p l e R s m args below meth c H locs 0 0 (zQl E K below args s) (F0 m 51 ls []) := by
    intro n
    induction n with
    | zero => intro x5 x7 Z H locs ls hG hl hw; exact hw.elim
    | succ n ih => intro x5 x7 Z H locs ls hG hl hw; exact S51 _ ih x5 x7 Z H locs ls hG hl hw
  unfold wX11_breaks at hw
  refine lv_aload_n hx hb dX11_breaks_0 rfl (lv_at hl 0 rfl) ?_
  refine z_get hF hG 96 (by decide) z_gs rfl in11 1 (by decide) (List.mem_of_getElem? (i := 1) rfl) rfl rfl dX11_breaks_1 ?_
  refine lv_iload_n hx hb dX11_breaks_4 rfl (lv_at hl 1 rfl) ?_
  refine z_ci (va_runV (rest := []) hF.1 (kX3_has l E Z 0 a1 (by decide) hw _) (cwV 1 hts gX11_breaks_X3_has rfl rfl rfl ⟨rfl, hS_yX3_has⟩ ⟨Nat.le_trans (Nat.le_of_ble_eq_true rfl) hfr, Nat.le_trans (Nat.le_of_ble_eq_true rfl) hlo⟩) (z_preV hF hG (54 + 0) (zc_pl (by decide)) (z_pl (by decide)) rfl) rfl rfl hl.1 rfl (lv_room (Nat.le_of_ble_eq_true rfl)) dX11_breaks_5 ⟨Nat.zero_le _, Nat.zero_le _⟩) hG (fun r2 Z1 H locs hw hG => ?_)
  refine lv_if_eq (tgt := 41) hx hb dX11_breaks_8 (by decide) (fun c3 => ?_) (fun c3 => ?_)
  · replace hw := hw.1 c3
    refine lv_ldc2 hx hb hown (hts (.constantLong RX11 278 (-9223372036854775707)) (List.mem_of_getElem? (i := 2) rfl)) dX11_breaks_41 ?_
    exact z_lret hF hG hr hlk hw dX11_breaks_44
  replace hw := hw.2 c3
  refine lv_iload_n hx hb dX11_breaks_11 rfl (lv_at hl 2 rfl) ?_
  refine lv_iconst (v := 0) hx hb dX11_breaks_12 (by decide) ?_
  refine lv_bipush (v := 7) hx hb dX11_breaks_13 (by decide) ?_
  refine z_ci (va_runS (rest := []) hF.1 (kX11_within l E Z1 a2 0 7  hw _) (va_cwS 3 hts gX11_breaks_X11_within rfl rfl rfl hS_yX11_within ⟨Nat.le_trans (Nat.le_of_ble_eq_true rfl) hfr, Nat.le_trans (Nat.le_of_ble_eq_true rfl) hlo⟩) (z_preS hF hG) rfl rfl hl.1 rfl (lv_room (Nat.le_of_ble_eq_true rfl)) dX11_breaks_15 ⟨Nat.zero_le _, Nat.zero_le _⟩) hG (fun r5 Z4 H locs hw hG => ?_)
  refine lv_if_eq (tgt := 41) hx hb dX11_breaks_18 (by decide) (fun c6 => ?_) (fun c6 => ?_)
  · replace hw := hw.1 c6
    refine lv_ldc2 hx hb hown (hts (.constantLong RX11 278 (-9223372036854775707)) (List.mem_of_getElem? (i := 2) rfl)) dX11_breaks_41 ?_
    exact z_lret hF hG hr hlk hw dX11_breaks_44
  replace hw := hw.2 c6
  refine lv_iload_n hx hb dX11_breaks_21 rfl (lv_at hl 3 rfl) ?_
  refine lv_iconst (v := 2) hx hb dX11_breaks_22 (by decide) ?_
  refine lv_bipush (v := 20) hx hb dX11_breaks_23 (by decide) ?_
  refine z_ci (va_runS (rest := []) hF.1 (kX11_within l E Z4 a3 2 20  hw _) (va_cwS 3 hts gX11_breaks_X11_within rfl rfl rfl hS_yX11_within ⟨Nat.le_trans (Nat.le_of_ble_eq_true rfl) hfr, Nat.le_trans (Nat.le_of_ble_eq_true rfl) hlo⟩) (z_preS hF hG) rfl rfl hl.1 rfl (lv_room (Nat.le_of_ble_eq_true rfl)) dX11_breaks_25 ⟨Nat.zero_le _, Nat.zero_le _⟩) hG (fun r8 Z7 H locs hw hG => ?_)
  refine lv_if_eq (tgt := 41) hx hb dX11_breaks_28 (by decide) (fun c9 => ?_) (fun c9 => ?_)
  · replace hw := hw.1 c9
    refine lv_ldc2 hx hb hown (hts (.constantLong RX11 278 (-9223372036854775707)) (List.mem_of_getElem? (i := 2) rfl)) dX11_breaks_41 ?_
    exact z_lret hF hG hr hlk hw dX11_breaks_44
  replace hw := hw.2 c9
  refine lv_iload hx hb dX11_breaks_31 (lv_at hl 4 rfl) ?_
  refine lv_iconst (v := 0) hx hb dX11_breaks_33 (by decide) ?_
  refine lv_iconst (v := 1) hx hb dX11_breaks_34 (by decide) ?_
  refine z_ci (va_runS (rest := []) hF.1 (kX11_within l E Z7 a4 0 1  hw _) (va_cwS 3 hts gX11_breaks_X11_within rfl rfl rfl hS_yX11_within ⟨Nat.le_trans (Nat.le_of_ble_eq_true rfl) hfr, Nat.le_trans (Nat.le_of_ble_eq_true rfl) hlo⟩) (z_preS hF hG) rfl rfl hl.1 rfl (lv_room (Nat.le_of_ble_eq_true rfl)) dX11_breaks_35 ⟨Nat.zero_le _, Nat.zero_le _⟩) hG (fun r11 Z10 H locs hw hG => ?_)
  refine lv_if_ne (tgt := 45) hx hb dX11_breaks_38 (by decide) (fun c12 => ?_) (fun c12 => ?_)
  · replace hw := hw.1 c12
    refine lv_lconst (v := 0) hx hb dX11_breaks_45 rfl ?_
    refine lv_topl (fun y13 ey13 => ?_)
    replace hw := hw y13 ey13
    refine lv_lstore (lv' := [(5, .long y13), (0, .ref (E.2.1 96)), (1, .int a1), (2, .int a2), (3, .int a3), (4, .int a4)]) hx hb dX11_breaks_46 hl (by decide) rfl (fun ls hl => ?_)
    refine lv_iconst (v := 0) hx hb dX11_breaks_48 (by decide) ?_
    refine lv_topi (fun y14 ey14 => ?_)
    replace hw := hw y14 ey14
    refine lv_istore (lv' := [(7, .int y14), (5, .long y13), (0, .ref (E.2.1 96)), (1, .int a1), (2, .int a2), (3, .int a3), (4, .int a4)]) hx hb dX11_breaks_49 hl (by decide) rfl (fun ls hl => ?_)
    obtain ⟨n51, hw⟩ := hw
    exact J51 n51 y13 y14 Z10 _ _ _ hG (lv_sub hl [2, 3, 4, 5, 6, 1, 0] rfl) hw
  replace hw := hw.2 (fun h => h c12)
  refine lv_ldc2 hx hb hown (hts (.constantLong RX11 278 (-9223372036854775707)) (List.mem_of_getElem? (i := 2) rfl)) dX11_breaks_41 ?_
  exact z_lret hF hG hr hlk hw dX11_breaks_44
set_option maxHeartbeats 4000000 in
set_option maxRecDepth 100000 in
theorem kX11_share (l : Launch) (E : zE) (Z : zS) (a1 : Int32) (a2 : Int32) {K : Int64 → zS → Prop} (hw : wX11_share a1 a2 Z K) : zCl l yX11_share wsX11_share ({ frames := 2, cells := 0, slots := 0, locals := 43 } : Room) E Z [.ref (E.2.1 96), .int a1, .int a2] K := by
  refine z_bodyl (cc := cX11_share) (nL := 6) (by decide) rfl (Nat.le_of_ble_eq_true rfl) ?_
  intro p e R s m args below meth c ls hfr hlo hF hr hlk hG hl
  have hx := hF.1.1
  have hb := hF.1.2.1
  have hown := hF.1.2.2.2.1
  have hts := hF.1.2.2.2.2
  have in3 : ∀ w ∈ u_ws RX3 TX3 5, w ∈ wsX11_share := fun _ h => List.mem_cons_of_mem _ (List.mem_append_left _ (List.mem_append_right _ h))
  have in5 : ∀ w ∈ u_ws RX5 TX5 15, w ∈ wsX11_share := fun _ h => List.mem_cons_of_mem _ (List.mem_append_right _ h)
  have in11 : ∀ w ∈ u_ws RX11 TX11 11, w ∈ wsX11_share := fun _ h => List.mem_cons_of_mem _ (List.mem_append_left _ (List.mem_append_left _ (List.mem_append_right _ h)))
  have hl : lv_has ls 6 [(0, .ref (E.2.1 96)), (1, .int a1), (2, .int a2)] := hl
  have J75 : ∀ (s0 : Int64) (s1 : Int64) (Z : zS) (H : Heap) (locs : List Loc) (ls : Array Slot), zG E Z s H locs → lv_has ls 6 [(2, .int a2)] → wX11_share_75 a1 a2 s0 s1 Z K → W p l e R s m args below meth c H locs 0 0 (zQl E K below args s) (F0 m 75 ls [.long s0, .long s1]) := by
    intro s0 s1 Z H locs ls hG hl hw
    unfold wX11_share_75 at hw
    refine lv_iload_n hx hb dX11_share_75 rfl (lv_at hl 0 rfl) ?_
    refine z_cl (va_runS (rest := []) hF.1 (kX11_inLeastTerms l E Z s1 s0 a2  hw _) (va_cwS 3 hts gX11_share_X11_inLeastTerms rfl rfl rfl hS_yX11_inLeastTerms ⟨Nat.le_trans (Nat.le_of_ble_eq_true rfl) hfr, Nat.le_trans (Nat.le_of_ble_eq_true rfl) hlo⟩) (z_preS hF hG) rfl rfl hl.1 rfl (lv_room (Nat.le_of_ble_eq_true rfl)) dX11_share_76 ⟨Nat.zero_le _, Nat.zero_le _⟩) hG (fun r14 Z13 H locs hw hG => ?_)
    exact z_lret hF hG hr hlk hw dX11_share_79
  have J58 : ∀ (x4 : Int32) (s0 : Int32) (Z : zS) (H : Heap) (locs : List Loc) (ls : Array Slot), zG E Z s H locs → lv_has ls 6 [(2, .int a2), (4, .int x4)] → wX11_share_58 a1 a2 x4 s0 Z K → W p l e R s m args below meth c H locs 0 0 (zQl E K below args s) (F0 m 58 ls [.int s0]) := by
    intro x4 s0 Z H locs ls hG hl hw
    unfold wX11_share_58 at hw
    refine lv_istore (lv' := [(5, .int s0), (2, .int a2), (4, .int x4)]) hx hb dX11_share_58 hl (by decide) rfl (fun ls hl => ?_)
    refine lv_iload hx hb dX11_share_60 (lv_at hl 0 rfl) ?_
    refine lv_i2l hx hb dX11_share_62 rfl ?_
    refine lv_iload hx hb dX11_share_63 (lv_at hl 2 rfl) ?_
    refine lv_if_ne (tgt := 72) hx hb dX11_share_65 (by decide) (fun c12 => ?_) (fun c12 => ?_)
    · replace hw := hw.1 c12
      refine lv_iload hx hb dX11_share_72 (lv_at hl 2 rfl) ?_
      refine lv_i2l hx hb dX11_share_74 rfl ?_
      exact J75 ((Int32.toInt64 x4)) ((Int32.toInt64 s0)) Z _ _ _ hG (lv_sub hl [1] rfl) hw
    replace hw := hw.2 (fun h => h c12)
    refine lv_lconst (v := 1) hx hb dX11_share_68 rfl ?_
    refine lv_goto (tgt := 75) hx hb dX11_share_69 (by decide) ?_
    exact J75 1 ((Int32.toInt64 s0)) Z _ _ _ hG (lv_sub hl [1] rfl) hw
  unfold wX11_share at hw
  refine lv_aload_n hx hb dX11_share_0 rfl (lv_at hl 0 rfl) ?_
  refine z_get hF hG 96 (by decide) z_gs rfl in11 1 (by decide) (List.mem_of_getElem? (i := 1) rfl) rfl rfl dX11_share_1 ?_
  refine lv_iload_n hx hb dX11_share_4 rfl (lv_at hl 1 rfl) ?_
  refine z_ci (va_runV (rest := []) hF.1 (kX3_has l E Z 0 a1 (by decide) hw _) (cwV 1 hts gX11_share_X3_has rfl rfl rfl ⟨rfl, hS_yX3_has⟩ ⟨Nat.le_trans (Nat.le_of_ble_eq_true rfl) hfr, Nat.le_trans (Nat.le_of_ble_eq_true rfl) hlo⟩) (z_preV hF hG (54 + 0) (zc_pl (by decide)) (z_pl (by decide)) rfl) rfl rfl hl.1 rfl (lv_room (Nat.le_of_ble_eq_true rfl)) dX11_share_5 ⟨Nat.zero_le _, Nat.zero_le _⟩) hG (fun r2 Z1 H locs hw hG => ?_)
  refine lv_if_eq (tgt := 20) hx hb dX11_share_8 (by decide) (fun c3 => ?_) (fun c3 => ?_)
  · replace hw := hw.1 c3
    refine lv_ldc2 hx hb hown (hts (.constantLong RX11 278 (-9223372036854775707)) (List.mem_of_getElem? (i := 2) rfl)) dX11_share_20 ?_
    exact z_lret hF hG hr hlk hw dX11_share_23
  replace hw := hw.2 c3
  refine lv_iload_n hx hb dX11_share_11 rfl (lv_at hl 2 rfl) ?_
  refine lv_iconst (v := 0) hx hb dX11_share_12 (by decide) ?_
  refine lv_iconst (v := 1) hx hb dX11_share_13 (by decide) ?_
  refine z_ci (va_runS (rest := []) hF.1 (kX11_within l E Z1 a2 0 1  hw _) (va_cwS 3 hts gX11_share_X11_within rfl rfl rfl hS_yX11_within ⟨Nat.le_trans (Nat.le_of_ble_eq_true rfl) hfr, Nat.le_trans (Nat.le_of_ble_eq_true rfl) hlo⟩) (z_preS hF hG) rfl rfl hl.1 rfl (lv_room (Nat.le_of_ble_eq_true rfl)) dX11_share_14 ⟨Nat.zero_le _, Nat.zero_le _⟩) hG (fun r5 Z4 H locs hw hG => ?_)
  refine lv_if_ne (tgt := 24) hx hb dX11_share_17 (by decide) (fun c6 => ?_) (fun c6 => ?_)
  · replace hw := hw.1 c6
    refine lv_aload_n hx hb dX11_share_24 rfl (lv_at hl 0 rfl) ?_
    refine z_get hF hG 96 (by decide) z_gs rfl in11 1 (by decide) (List.mem_of_getElem? (i := 1) rfl) rfl rfl dX11_share_25 ?_
    refine z_get hF hG (54 + 0) (zc_pl (by decide)) (z_pl (by decide)) rfl in3 0 (by decide) (List.mem_of_getElem? (i := 3) rfl) rfl rfl dX11_share_28 ?_
    refine lv_iload_n hx hb dX11_share_31 rfl (lv_at hl 1 rfl) ?_
    obtain ⟨q7, hw⟩ := hw
    refine z_aald hF hG (57 + 0) 1 (zc_pr (by decide)) (z_pr (by decide)) rfl q7 rfl dX11_share_32 ?_
    refine z_topr (fun vv8 evv8 => ?_)
    replace hw := hw vv8 evv8
    have hvv8 : vv8 < 18 := by rw [evv8]; exact (z_vb (by decide) q7)
    refine lv_astore_n (lv' := [(3, .ref (E.2.1 vv8)), (0, .ref (E.2.1 96)), (1, .int a1), (2, .int a2)]) hx hb dX11_share_33 rfl hl (by decide) rfl (fun ls hl => ?_)
    refine lv_aload_n hx hb dX11_share_34 rfl (lv_at hl 1 rfl) ?_
    refine z_get hF hG 96 (by decide) z_gs rfl in11 1 (by decide) (List.mem_of_getElem? (i := 1) rfl) rfl rfl dX11_share_35 ?_
    refine z_ci (va_runV (rest := []) hF.1 (kX3_loadOfAll l E Z4 0 (by decide) hw _) (cwV 0 hts gX11_share_X3_loadOfAll rfl rfl rfl ⟨rfl, hS_yX3_loadOfAll⟩ ⟨Nat.le_trans (Nat.le_of_ble_eq_true rfl) hfr, Nat.le_trans (Nat.le_of_ble_eq_true rfl) hlo⟩) (z_preV hF hG (54 + 0) (zc_pl (by decide)) (z_pl (by decide)) rfl) rfl rfl hl.1 rfl (lv_room (Nat.le_of_ble_eq_true rfl)) dX11_share_38 ⟨Nat.zero_le _, Nat.zero_le _⟩) hG (fun r10 Z9 H locs hw hG => ?_)
    refine lv_istore (lv' := [(4, .int r10), (3, .ref (E.2.1 vv8)), (0, .ref (E.2.1 96)), (1, .int a1), (2, .int a2)]) hx hb dX11_share_41 hl (by decide) rfl (fun ls hl => ?_)
    refine lv_aload_n hx hb dX11_share_43 rfl (lv_at hl 1 rfl) ?_
    refine z_get hF hG vv8 (zc_sv hvv8) (z_sv hvv8) rfl in5 7 (by decide) (List.mem_of_getElem? (i := 4) rfl) rfl rfl dX11_share_44 ?_
    refine lv_if_ne (tgt := 54) hx hb dX11_share_47 (by decide) (fun c11 => ?_) (fun c11 => ?_)
    · replace hw := hw.1 c11
      refine lv_aload_n hx hb dX11_share_54 rfl (lv_at hl 1 rfl) ?_
      refine z_get hF hG vv8 (zc_sv hvv8) (z_sv hvv8) rfl in5 4 (by decide) (List.mem_of_getElem? (i := 5) rfl) rfl rfl dX11_share_55 ?_
      exact J58 r10 ((Z9 vv8 4)) Z9 _ _ _ hG (lv_sub hl [4, 0] rfl) hw
    replace hw := hw.2 (fun h => h c11)
    refine lv_iconst (v := 0) hx hb dX11_share_50 (by decide) ?_
    refine lv_goto (tgt := 58) hx hb dX11_share_51 (by decide) ?_
    exact J58 r10 0 Z9 _ _ _ hG (lv_sub hl [4, 0] rfl) hw
  replace hw := hw.2 (fun h => h c6)
  refine lv_ldc2 hx hb hown (hts (.constantLong RX11 278 (-9223372036854775707)) (List.mem_of_getElem? (i := 2) rfl)) dX11_share_20 ?_
  exact z_lret hF hG hr hlk hw dX11_share_23
set_option maxHeartbeats 4000000 in
set_option maxRecDepth 100000 in
theorem kX11_nearestBits (l : Launch) (E : zE) (Z : zS) (a1 : Int64) (a2 : Int64) (a3 : Int32) (a4 : Int32) {K : Int64 → zS → Prop} (hw : wX11_nearestBits a1 a2 a3 a4 Z K) : zCl l yX11_nearestBits wsX11_nearestBits ({ frames := 0, cells := 0, slots := 0, locals := 0 } : Room) E Z [.long a1, .long a2, .int a3, .int a4] K := by
  refine z_bodyl (cc := cX11_nearestBits) (nL := 12) (by decide) rfl (Nat.le_of_ble_eq_true rfl) ?_
  intro p e R s m args below meth c ls hfr hlo hF hr hlk hG hl
  have hx := hF.1.1
  have hb := hF.1.2.1
  have hown := hF.1.2.2.2.1
  have hts := hF.1.2.2.2.2
  have hl : lv_has ls 12 [(0, .long a1), (2, .long a2), (4, .int a3), (5, .int a4)] := hl
  have J158 : ∀ (x6 : Int32) (x7 : Int64) (Z : zS) (H : Heap) (locs : List Loc) (ls : Array Slot), zG E Z s H locs → lv_has ls 12 [(4, .int a3), (6, .int x6), (7, .long x7)] → wX11_nearestBits_158 a1 a2 a3 a4 x6 x7 Z K → W p l e R s m args below meth c H locs 0 0 (zQl E K below args s) (F0 m 158 ls []) := by
    intro x6 x7 Z H locs ls hG hl hw
    unfold wX11_nearestBits_158 at hw
    refine lv_iload hx hb dX11_nearestBits_158 (lv_at hl 1 rfl) ?_
    refine lv_iconst (v := 1) hx hb dX11_nearestBits_160 (by decide) ?_
    refine lv_isub hx hb dX11_nearestBits_161 ?_
    refine lv_i2l hx hb dX11_nearestBits_162 rfl ?_
    refine lv_iload hx hb dX11_nearestBits_163 (lv_at hl 0 rfl) ?_
    refine lv_lshl hx hb dX11_nearestBits_165 rfl ?_
    refine lv_lload hx hb dX11_nearestBits_166 (lv_at hl 2 rfl) ?_
    refine lv_ladd hx hb dX11_nearestBits_168 ?_
    exact z_lret hF hG hr hlk hw dX11_nearestBits_169
  have J152 : ∀ (x6 : Int32) (x7 : Int64) (Z : zS) (H : Heap) (locs : List Loc) (ls : Array Slot), zG E Z s H locs → lv_has ls 12 [(4, .int a3), (6, .int x6), (7, .long x7)] → wX11_nearestBits_152 a1 a2 a3 a4 x6 x7 Z K → W p l e R s m args below meth c H locs 0 0 (zQl E K below args s) (F0 m 152 ls []) := by
    intro x6 x7 Z H locs ls hG hl hw
    unfold wX11_nearestBits_152 at hw
    refine lv_lload hx hb dX11_nearestBits_152 (lv_at hl 2 rfl) ?_
    refine lv_lconst (v := 1) hx hb dX11_nearestBits_154 rfl ?_
    refine lv_ladd hx hb dX11_nearestBits_155 ?_
    refine lv_topl (fun y25 ey25 => ?_)
    replace hw := hw y25 ey25
    refine lv_lstore (lv' := [(7, .long y25), (4, .int a3), (6, .int x6)]) hx hb dX11_nearestBits_156 hl (by decide) rfl (fun ls hl => ?_)
    exact J158 x6 y25 Z _ _ _ hG (lv_sub hl [1, 2, 0] rfl) hw
  have S79 : ∀ (L79 : Int64 → Int32 → Int64 → Int64 → Int32 → zS → Prop), (∀ (x2 : Int64) (x6 : Int32) (x7 : Int64) (x9 : Int64) (x11 : Int32) (Z : zS) (H : Heap) (locs : List Loc) (ls : Array Slot), zG E Z s H locs → lv_has ls 12 [(2, .long x2), (4, .int a3), (6, .int x6), (7, .long x7), (9, .long x9), (11, .int x11)] → L79 x2 x6 x7 x9 x11 Z → W p l e R s m args below meth c H locs 0 0 (zQl E K below args s) (F0 m 79 ls [])) → ∀ (x2 : Int64) (x6 : Int32) (x7 : Int64) (x9 : Int64) (x11 : Int32) (Z : zS) (H : Heap) (locs : List Loc) (ls : Array Slot), zG E Z s H locs → lv_has ls 12 [(2, .long x2), (4, .int a3), (6, .int x6), (7, .long x7), (9, .long x9), (11, .int x11)] → wX11_nearestBits_79b L79 a1 a2 a3 a4 x2 x6 x7 x9 x11 Z K → W p l e R s m args below meth c H locs 0 0 (zQl E K below args s) (F0 m 79 ls []) := by
    intro L79 ih79
    have J113 : ∀ (x2 : Int64) (x6 : Int32) (x7 : Int64) (x9 : Int64) (x11 : Int32) (Z : zS) (H : Heap) (locs : List Loc) (ls : Array Slot), zG E Z s H locs → lv_has ls 12 [(2, .long x2), (4, .int a3), (6, .int x6), (7, .long x7), (9, .long x9), (11, .int x11)] → wX11_nearestBits_113 L79 a1 a2 a3 a4 x2 x6 x7 x9 x11 Z K → W p l e R s m args below meth c H locs 0 0 (zQl E K below args s) (F0 m 113 ls []) := by
      intro x2 x6 x7 x9 x11 Z H locs ls hG hl hw
      unfold wX11_nearestBits_113 at hw
      refine lv_lload hx hb dX11_nearestBits_113 (lv_at hl 4 rfl) ?_
      refine lv_ldc2 hx hb hown (hts (.constantLong RX11 405 (2)) (List.mem_of_getElem? (i := 1) rfl)) dX11_nearestBits_115 ?_
      refine lv_lmul hx hb dX11_nearestBits_118 ?_
      refine lv_topl (fun y23 ey23 => ?_)
      replace hw := hw y23 ey23
      refine lv_lstore (lv' := [(9, .long y23), (2, .long x2), (4, .int a3), (6, .int x6), (7, .long x7), (11, .int x11)]) hx hb dX11_nearestBits_119 hl (by decide) rfl (fun ls hl => ?_)
      obtain ⟨y24, ey24⟩ : ∃ y : Int32, y = x11 + 1 := ⟨_, rfl⟩
      replace hw := hw y24 ey24
      refine lv_iinc (v := y24) (lv' := [(11, .int y24), (9, .long y23), (2, .long x2), (4, .int a3), (6, .int x6), (7, .long x7)]) hx hb dX11_nearestBits_121 hl (k := 5) rfl (by rw [ey24]; rfl) (by decide) rfl (fun ls hl => ?_)
      refine lv_goto (tgt := 79) hx hb dX11_nearestBits_124 (by decide) ?_
      exact ih79 x2 x6 x7 y23 y24 Z _ _ _ hG (lv_sub hl [2, 3, 4, 5, 1, 0] rfl) hw
    intro x2 x6 x7 x9 x11 Z H locs ls hG hl hw
    unfold wX11_nearestBits_79b at hw
    refine lv_iload hx hb dX11_nearestBits_79 (lv_at hl 5 rfl) ?_
    refine lv_iload hx hb dX11_nearestBits_81 (lv_at hl 1 rfl) ?_
    refine lv_icmp_gt (tgt := 127) hx hb dX11_nearestBits_83 (by decide) (fun c15 => ?_) (fun c15 => ?_)
    · replace hw := hw.1 c15
      refine lv_lload hx hb dX11_nearestBits_127 (lv_at hl 4 rfl) ?_
      refine lv_lload_n hx hb dX11_nearestBits_129 rfl (lv_at hl 0 rfl) ?_
      refine W.lcmp hx hb dX11_nearestBits_130 ?_
      refine lv_if_gt (tgt := 152) hx hb dX11_nearestBits_131 (by decide) (fun c16 => ?_) (fun c16 => ?_)
      · replace hw := hw.1 c16
        exact J152 x6 x7 Z _ _ _ hG (lv_sub hl [1, 2, 3] rfl) hw
      replace hw := hw.2 c16
      refine lv_lload hx hb dX11_nearestBits_134 (lv_at hl 4 rfl) ?_
      refine lv_lload_n hx hb dX11_nearestBits_136 rfl (lv_at hl 0 rfl) ?_
      refine W.lcmp hx hb dX11_nearestBits_137 ?_
      refine lv_if_ne (tgt := 158) hx hb dX11_nearestBits_138 (by decide) (fun c17 => ?_) (fun c17 => ?_)
      · replace hw := hw.1 c17
        exact J158 x6 x7 Z _ _ _ hG (lv_sub hl [1, 2, 3] rfl) hw
      replace hw := hw.2 (fun h => h c17)
      refine lv_lload hx hb dX11_nearestBits_141 (lv_at hl 3 rfl) ?_
      refine lv_ldc2 hx hb hown (hts (.constantLong RX11 405 (2)) (List.mem_of_getElem? (i := 1) rfl)) dX11_nearestBits_143 ?_
      refine lv_lrem hx hb dX11_nearestBits_146 hw.1 ?_
      replace hw := hw.2
      refine lv_lconst (v := 1) hx hb dX11_nearestBits_147 rfl ?_
      refine W.lcmp hx hb dX11_nearestBits_148 ?_
      refine lv_if_ne (tgt := 158) hx hb dX11_nearestBits_149 (by decide) (fun c18 => ?_) (fun c18 => ?_)
      · replace hw := hw.1 c18
        exact J158 x6 x7 Z _ _ _ hG (lv_sub hl [1, 2, 3] rfl) hw
      replace hw := hw.2 (fun h => h c18)
      exact J152 x6 x7 Z _ _ _ hG (lv_sub hl [1, 2, 3] rfl) hw
    replace hw := hw.2 c15
    refine lv_lload hx hb dX11_nearestBits_86 (lv_at hl 3 rfl) ?_
    refine lv_ldc2 hx hb hown (hts (.constantLong RX11 405 (2)) (List.mem_of_getElem? (i := 1) rfl)) dX11_nearestBits_88 ?_
    refine lv_lmul hx hb dX11_nearestBits_91 ?_
    refine lv_topl (fun y19 ey19 => ?_)
    replace hw := hw y19 ey19
    refine lv_lstore (lv' := [(7, .long y19), (2, .long x2), (4, .int a3), (6, .int x6), (9, .long x9), (11, .int x11)]) hx hb dX11_nearestBits_92 hl (by decide) rfl (fun ls hl => ?_)
    refine lv_lload hx hb dX11_nearestBits_94 (lv_at hl 4 rfl) ?_
    refine lv_lload_n hx hb dX11_nearestBits_96 rfl (lv_at hl 1 rfl) ?_
    refine W.lcmp hx hb dX11_nearestBits_97 ?_
    refine lv_if_lt (tgt := 113) hx hb dX11_nearestBits_98 (by decide) (fun c20 => ?_) (fun c20 => ?_)
    · replace hw := hw.1 c20
      exact J113 x2 x6 y19 x9 x11 Z _ _ _ hG (lv_sub hl [1, 2, 3, 0, 4, 5] rfl) hw
    replace hw := hw.2 c20
    refine lv_lload hx hb dX11_nearestBits_101 (lv_at hl 0 rfl) ?_
    refine lv_lconst (v := 1) hx hb dX11_nearestBits_103 rfl ?_
    refine lv_ladd hx hb dX11_nearestBits_104 ?_
    refine lv_topl (fun y21 ey21 => ?_)
    replace hw := hw y21 ey21
    refine lv_lstore (lv' := [(7, .long y21), (2, .long x2), (4, .int a3), (6, .int x6), (9, .long x9), (11, .int x11)]) hx hb dX11_nearestBits_105 hl (by decide) rfl (fun ls hl => ?_)
    refine lv_lload hx hb dX11_nearestBits_107 (lv_at hl 4 rfl) ?_
    refine lv_lload_n hx hb dX11_nearestBits_109 rfl (lv_at hl 1 rfl) ?_
    refine lv_lsub hx hb dX11_nearestBits_110 ?_
    refine lv_topl (fun y22 ey22 => ?_)
    replace hw := hw y22 ey22
    refine lv_lstore (lv' := [(9, .long y22), (7, .long y21), (2, .long x2), (4, .int a3), (6, .int x6), (11, .int x11)]) hx hb dX11_nearestBits_111 hl (by decide) rfl (fun ls hl => ?_)
    exact J113 x2 x6 y21 y22 x11 Z _ _ _ hG (lv_sub hl [2, 3, 4, 1, 0, 5] rfl) hw
  have J79 : ∀ n : Nat, ∀ (x2 : Int64) (x6 : Int32) (x7 : Int64) (x9 : Int64) (x11 : Int32) (Z : zS) (H : Heap) (locs : List Loc) (ls : Array Slot), zG E Z s H locs → lv_has ls 12 [(2, .long x2), (4, .int a3), (6, .int x6), (7, .long x7), (9, .long x9), (11, .int x11)] → wX11_nearestBits_79 a1 a2 a3 a4 K n x2 x6 x7 x9 x11 Z → W p l e R s m args below meth c H locs 0 0 (zQl E K below args s) (F0 m 79 ls []) := by
    intro n
    induction n with
    | zero => intro x2 x6 x7 x9 x11 Z H locs ls hG hl hw; exact hw.elim
    | succ n ih => intro x2 x6 x7 x9 x11 Z H locs ls hG hl hw; exact S79 _ ih x2 x6 x7 x9 x11 Z H locs ls hG hl hw
  have J70 : ∀ (x0 : Int64) (x2 : Int64) (x6 : Int32) (Z : zS) (H : Heap) (locs : List Loc) (ls : Array Slot), zG E Z s H locs → lv_has ls 12 [(0, .long x0), (2, .long x2), (4, .int a3), (6, .int x6)] → wX11_nearestBits_70 a1 a2 a3 a4 x0 x2 x6 Z K → W p l e R s m args below meth c H locs 0 0 (zQl E K below args s) (F0 m 70 ls []) := by
    intro x0 x2 x6 Z H locs ls hG hl hw
    unfold wX11_nearestBits_70 at hw
    refine lv_lconst (v := 0) hx hb dX11_nearestBits_70 rfl ?_
    refine lv_topl (fun y13 ey13 => ?_)
    replace hw := hw y13 ey13
    refine lv_lstore (lv' := [(7, .long y13), (0, .long x0), (2, .long x2), (4, .int a3), (6, .int x6)]) hx hb dX11_nearestBits_71 hl (by decide) rfl (fun ls hl => ?_)
    refine lv_lload_n hx hb dX11_nearestBits_73 rfl (lv_at hl 1 rfl) ?_
    refine lv_lstore (lv' := [(9, .long x0), (7, .long y13), (0, .long x0), (2, .long x2), (4, .int a3), (6, .int x6)]) hx hb dX11_nearestBits_74 hl (by decide) rfl (fun ls hl => ?_)
    refine lv_iconst (v := 0) hx hb dX11_nearestBits_76 (by decide) ?_
    refine lv_topi (fun y14 ey14 => ?_)
    replace hw := hw y14 ey14
    refine lv_istore (lv' := [(11, .int y14), (9, .long x0), (7, .long y13), (0, .long x0), (2, .long x2), (4, .int a3), (6, .int x6)]) hx hb dX11_nearestBits_77 hl (by decide) rfl (fun ls hl => ?_)
    obtain ⟨n79, hw⟩ := hw
    exact J79 n79 x2 x6 y13 x0 y14 Z _ _ _ hG (lv_sub hl [4, 5, 6, 2, 1, 0] rfl) hw
  have S42 : ∀ (L42 : Int64 → Int64 → Int32 → Int32 → zS → Prop), (∀ (x0 : Int64) (x2 : Int64) (x6 : Int32) (x7 : Int32) (Z : zS) (H : Heap) (locs : List Loc) (ls : Array Slot), zG E Z s H locs → lv_has ls 12 [(0, .long x0), (2, .long x2), (4, .int a3), (6, .int x6), (7, .int x7)] → L42 x0 x2 x6 x7 Z → W p l e R s m args below meth c H locs 0 0 (zQl E K below args s) (F0 m 42 ls [])) → ∀ (x0 : Int64) (x2 : Int64) (x6 : Int32) (x7 : Int32) (Z : zS) (H : Heap) (locs : List Loc) (ls : Array Slot), zG E Z s H locs → lv_has ls 12 [(0, .long x0), (2, .long x2), (4, .int a3), (6, .int x6), (7, .int x7)] → wX11_nearestBits_42b L42 a1 a2 a3 a4 x0 x2 x6 x7 Z K → W p l e R s m args below meth c H locs 0 0 (zQl E K below args s) (F0 m 42 ls []) := by
    intro L42 ih42
    intro x0 x2 x6 x7 Z H locs ls hG hl hw
    unfold wX11_nearestBits_42b at hw
    refine lv_iload hx hb dX11_nearestBits_42 (lv_at hl 4 rfl) ?_
    refine lv_bipush (v := 32) hx hb dX11_nearestBits_44 (by decide) ?_
    refine lv_icmp_ge (tgt := 70) hx hb dX11_nearestBits_46 (by decide) (fun c8 => ?_) (fun c8 => ?_)
    · replace hw := hw.1 c8
      exact J70 x0 x2 x6 Z _ _ _ hG (lv_sub hl [0, 1, 2, 3] rfl) hw
    replace hw := hw.2 c8
    refine lv_lload_n hx hb dX11_nearestBits_49 rfl (lv_at hl 0 rfl) ?_
    refine lv_lload_n hx hb dX11_nearestBits_50 rfl (lv_at hl 1 rfl) ?_
    refine W.lcmp hx hb dX11_nearestBits_51 ?_
    refine lv_if_ge (tgt := 70) hx hb dX11_nearestBits_52 (by decide) (fun c9 => ?_) (fun c9 => ?_)
    · replace hw := hw.1 c9
      exact J70 x0 x2 x6 Z _ _ _ hG (lv_sub hl [0, 1, 2, 3] rfl) hw
    replace hw := hw.2 c9
    refine lv_lload_n hx hb dX11_nearestBits_55 rfl (lv_at hl 0 rfl) ?_
    refine lv_ldc2 hx hb hown (hts (.constantLong RX11 405 (2)) (List.mem_of_getElem? (i := 1) rfl)) dX11_nearestBits_56 ?_
    refine lv_lmul hx hb dX11_nearestBits_59 ?_
    refine lv_topl (fun y10 ey10 => ?_)
    replace hw := hw y10 ey10
    refine lv_lstore_n (lv' := [(0, .long y10), (2, .long x2), (4, .int a3), (6, .int x6), (7, .int x7)]) hx hb dX11_nearestBits_60 rfl hl (by decide) rfl (fun ls hl => ?_)
    obtain ⟨y11, ey11⟩ : ∃ y : Int32, y = x6 + (-1) := ⟨_, rfl⟩
    replace hw := hw y11 ey11
    refine lv_iinc (v := y11) (lv' := [(6, .int y11), (0, .long y10), (2, .long x2), (4, .int a3), (7, .int x7)]) hx hb dX11_nearestBits_61 hl (k := 3) rfl (by rw [ey11]; rfl) (by decide) rfl (fun ls hl => ?_)
    obtain ⟨y12, ey12⟩ : ∃ y : Int32, y = x7 + 1 := ⟨_, rfl⟩
    replace hw := hw y12 ey12
    refine lv_iinc (v := y12) (lv' := [(7, .int y12), (6, .int y11), (0, .long y10), (2, .long x2), (4, .int a3)]) hx hb dX11_nearestBits_64 hl (k := 4) rfl (by rw [ey12]; rfl) (by decide) rfl (fun ls hl => ?_)
    refine lv_goto (tgt := 42) hx hb dX11_nearestBits_67 (by decide) ?_
    exact ih42 y10 x2 y11 y12 Z _ _ _ hG (lv_sub hl [2, 3, 4, 1, 0] rfl) hw
  have J42 : ∀ n : Nat, ∀ (x0 : Int64) (x2 : Int64) (x6 : Int32) (x7 : Int32) (Z : zS) (H : Heap) (locs : List Loc) (ls : Array Slot), zG E Z s H locs → lv_has ls 12 [(0, .long x0), (2, .long x2), (4, .int a3), (6, .int x6), (7, .int x7)] → wX11_nearestBits_42 a1 a2 a3 a4 K n x0 x2 x6 x7 Z → W p l e R s m args below meth c H locs 0 0 (zQl E K below args s) (F0 m 42 ls []) := by
    intro n
    induction n with
    | zero => intro x0 x2 x6 x7 Z H locs ls hG hl hw; exact hw.elim
    | succ n ih => intro x0 x2 x6 x7 Z H locs ls hG hl hw; exact S42 _ ih x0 x2 x6 x7 Z H locs ls hG hl hw
  have J39 : ∀ (x0 : Int64) (x2 : Int64) (x6 : Int32) (Z : zS) (H : Heap) (locs : List Loc) (ls : Array Slot), zG E Z s H locs → lv_has ls 12 [(0, .long x0), (2, .long x2), (4, .int a3), (6, .int x6)] → wX11_nearestBits_39 a1 a2 a3 a4 x0 x2 x6 Z K → W p l e R s m args below meth c H locs 0 0 (zQl E K below args s) (F0 m 39 ls []) := by
    intro x0 x2 x6 Z H locs ls hG hl hw
    unfold wX11_nearestBits_39 at hw
    refine lv_iconst (v := 0) hx hb dX11_nearestBits_39 (by decide) ?_
    refine lv_topi (fun y7 ey7 => ?_)
    replace hw := hw y7 ey7
    refine lv_istore (lv' := [(7, .int y7), (0, .long x0), (2, .long x2), (4, .int a3), (6, .int x6)]) hx hb dX11_nearestBits_40 hl (by decide) rfl (fun ls hl => ?_)
    obtain ⟨n42, hw⟩ := hw
    exact J42 n42 x0 x2 x6 y7 Z _ _ _ hG (lv_sub hl [1, 2, 3, 4, 0] rfl) hw
  have S7 : ∀ (L7 : Int64 → Int64 → Int32 → Int32 → zS → Prop), (∀ (x0 : Int64) (x2 : Int64) (x6 : Int32) (x7 : Int32) (Z : zS) (H : Heap) (locs : List Loc) (ls : Array Slot), zG E Z s H locs → lv_has ls 12 [(0, .long x0), (2, .long x2), (4, .int a3), (6, .int x6), (7, .int x7)] → L7 x0 x2 x6 x7 Z → W p l e R s m args below meth c H locs 0 0 (zQl E K below args s) (F0 m 7 ls [])) → ∀ (x0 : Int64) (x2 : Int64) (x6 : Int32) (x7 : Int32) (Z : zS) (H : Heap) (locs : List Loc) (ls : Array Slot), zG E Z s H locs → lv_has ls 12 [(0, .long x0), (2, .long x2), (4, .int a3), (6, .int x6), (7, .int x7)] → wX11_nearestBits_7b L7 a1 a2 a3 a4 x0 x2 x6 x7 Z K → W p l e R s m args below meth c H locs 0 0 (zQl E K below args s) (F0 m 7 ls []) := by
    intro L7 ih7
    intro x0 x2 x6 x7 Z H locs ls hG hl hw
    unfold wX11_nearestBits_7b at hw
    refine lv_iload hx hb dX11_nearestBits_7 (lv_at hl 4 rfl) ?_
    refine lv_bipush (v := 32) hx hb dX11_nearestBits_9 (by decide) ?_
    refine lv_icmp_ge (tgt := 39) hx hb dX11_nearestBits_11 (by decide) (fun c2 => ?_) (fun c2 => ?_)
    · replace hw := hw.1 c2
      exact J39 x0 x2 x6 Z _ _ _ hG (lv_sub hl [0, 1, 2, 3] rfl) hw
    replace hw := hw.2 c2
    refine lv_lload_n hx hb dX11_nearestBits_14 rfl (lv_at hl 0 rfl) ?_
    refine lv_ldc2 hx hb hown (hts (.constantLong RX11 405 (2)) (List.mem_of_getElem? (i := 1) rfl)) dX11_nearestBits_15 ?_
    refine lv_lload_n hx hb dX11_nearestBits_18 rfl (lv_at hl 1 rfl) ?_
    refine lv_lmul hx hb dX11_nearestBits_19 ?_
    refine W.lcmp hx hb dX11_nearestBits_20 ?_
    refine lv_if_lt (tgt := 39) hx hb dX11_nearestBits_21 (by decide) (fun c3 => ?_) (fun c3 => ?_)
    · replace hw := hw.1 c3
      exact J39 x0 x2 x6 Z _ _ _ hG (lv_sub hl [0, 1, 2, 3] rfl) hw
    replace hw := hw.2 c3
    refine lv_lload_n hx hb dX11_nearestBits_24 rfl (lv_at hl 1 rfl) ?_
    refine lv_ldc2 hx hb hown (hts (.constantLong RX11 405 (2)) (List.mem_of_getElem? (i := 1) rfl)) dX11_nearestBits_25 ?_
    refine lv_lmul hx hb dX11_nearestBits_28 ?_
    refine lv_topl (fun y4 ey4 => ?_)
    replace hw := hw y4 ey4
    refine lv_lstore_n (lv' := [(2, .long y4), (0, .long x0), (4, .int a3), (6, .int x6), (7, .int x7)]) hx hb dX11_nearestBits_29 rfl hl (by decide) rfl (fun ls hl => ?_)
    obtain ⟨y5, ey5⟩ : ∃ y : Int32, y = x6 + 1 := ⟨_, rfl⟩
    replace hw := hw y5 ey5
    refine lv_iinc (v := y5) (lv' := [(6, .int y5), (2, .long y4), (0, .long x0), (4, .int a3), (7, .int x7)]) hx hb dX11_nearestBits_30 hl (k := 3) rfl (by rw [ey5]; rfl) (by decide) rfl (fun ls hl => ?_)
    obtain ⟨y6, ey6⟩ : ∃ y : Int32, y = x7 + 1 := ⟨_, rfl⟩
    replace hw := hw y6 ey6
    refine lv_iinc (v := y6) (lv' := [(7, .int y6), (6, .int y5), (2, .long y4), (0, .long x0), (4, .int a3)]) hx hb dX11_nearestBits_33 hl (k := 4) rfl (by rw [ey6]; rfl) (by decide) rfl (fun ls hl => ?_)
    refine lv_goto (tgt := 7) hx hb dX11_nearestBits_36 (by decide) ?_
    exact ih7 x0 y4 y5 y6 Z _ _ _ hG (lv_sub hl [3, 2, 4, 1, 0] rfl) hw
  have J7 : ∀ n : Nat, ∀ (x0 : Int64) (x2 : Int64) (x6 : Int32) (x7 : Int32) (Z : zS) (H : Heap) (locs : List Loc) (ls : Array Slot), zG E Z s H locs → lv_has ls 12 [(0, .long x0), (2, .long x2), (4, .int a3), (6, .int x6), (7, .int x7)] → wX11_nearestBits_7 a1 a2 a3 a4 K n x0 x2 x6 x7 Z → W p l e R s m args below meth c H locs 0 0 (zQl E K below args s) (F0 m 7 ls []) := by
    intro n
    induction n with
    | zero => intro x0 x2 x6 x7 Z H locs ls hG hl hw; exact hw.elim
    | succ n ih => intro x0 x2 x6 x7 Z H locs ls hG hl hw; exact S7 _ ih x0 x2 x6 x7 Z H locs ls hG hl hw
  unfold wX11_nearestBits at hw
  refine lv_iload hx hb dX11_nearestBits_0 (lv_at hl 3 rfl) ?_
  refine lv_istore (lv' := [(6, .int a4), (0, .long a1), (2, .long a2), (4, .int a3), (5, .int a4)]) hx hb dX11_nearestBits_2 hl (by decide) rfl (fun ls hl => ?_)
  refine lv_iconst (v := 0) hx hb dX11_nearestBits_4 (by decide) ?_
  refine lv_topi (fun y1 ey1 => ?_)
  replace hw := hw y1 ey1
  refine lv_istore (lv' := [(7, .int y1), (6, .int a4), (0, .long a1), (2, .long a2), (4, .int a3), (5, .int a4)]) hx hb dX11_nearestBits_5 hl (by decide) rfl (fun ls hl => ?_)
  obtain ⟨n7, hw⟩ := hw
  exact J7 n7 a1 a2 a4 y1 Z _ _ _ hG (lv_sub hl [2, 3, 4, 1, 0] rfl) hw
theorem hS_yX11_nearestBits : yX11_nearestBits.cls ≠ "java/lang/invoke/MethodHandle" ∧ yX11_nearestBits.cls ≠ "java/lang/invoke/VarHandle" ∧ (parseMethodDescriptor yX11_nearestBits.desc).map (fun d => d.parameters.length) = some 4 := by decide +kernel
set_option maxHeartbeats 4000000 in
set_option maxRecDepth 100000 in
theorem kX11_bits (l : Launch) (E : zE) (Z : zS) (a1 : Int32) {K : Int32 → zS → Prop} (hw : wX11_bits a1 Z K) : zCi l yX11_bits wsX11_bits ({ frames := 2, cells := 0, slots := 0, locals := 43 } : Room) E Z [.ref (E.2.1 96), .int a1] K := by
  refine z_bodyi (cc := cX11_bits) (nL := 2) (ret := .int) (by decide) rfl (Nat.le_of_ble_eq_true rfl) ?_
  intro p e R s m args below meth c ls hfr hlo hF hr hlk hG hl
  have hx := hF.1.1
  have hb := hF.1.2.1
  have hown := hF.1.2.2.2.1
  have hts := hF.1.2.2.2.2
  have in3 : ∀ w ∈ u_ws RX3 TX3 5, w ∈ wsX11_bits := fun _ h => List.mem_cons_of_mem _ (List.mem_append_left _ (List.mem_append_right _ h))
  have in5 : ∀ w ∈ u_ws RX5 TX5 15, w ∈ wsX11_bits := fun _ h => List.mem_cons_of_mem _ (List.mem_append_right _ h)
  have in11 : ∀ w ∈ u_ws RX11 TX11 11, w ∈ wsX11_bits := fun _ h => List.mem_cons_of_mem _ (List.mem_append_left _ (List.mem_append_left _ (List.mem_append_right _ h)))
  have hl : lv_has ls 2 [(0, .ref (E.2.1 96)), (1, .int a1)] := hl
  unfold wX11_bits at hw
  refine lv_aload_n hx hb dX11_bits_0 rfl (lv_at hl 0 rfl) ?_
  refine z_get hF hG 96 (by decide) z_gs rfl in11 1 (by decide) (List.mem_of_getElem? (i := 1) rfl) rfl rfl dX11_bits_1 ?_
  refine lv_iload_n hx hb dX11_bits_4 rfl (lv_at hl 1 rfl) ?_
  refine z_ci (va_runV (rest := []) hF.1 (kX3_has l E Z 0 a1 (by decide) hw _) (cwV 1 hts gX11_bits_X3_has rfl rfl rfl ⟨rfl, hS_yX3_has⟩ ⟨Nat.le_trans (Nat.le_of_ble_eq_true rfl) hfr, Nat.le_trans (Nat.le_of_ble_eq_true rfl) hlo⟩) (z_preV hF hG (54 + 0) (zc_pl (by decide)) (z_pl (by decide)) rfl) rfl rfl hl.1 rfl (lv_room (Nat.le_of_ble_eq_true rfl)) dX11_bits_5 ⟨Nat.zero_le _, Nat.zero_le _⟩) hG (fun r2 Z1 H locs hw hG => ?_)
  refine lv_if_ne (tgt := 13) hx hb dX11_bits_8 (by decide) (fun c3 => ?_) (fun c3 => ?_)
  · replace hw := hw.1 c3
    refine lv_aload_n hx hb dX11_bits_13 rfl (lv_at hl 0 rfl) ?_
    refine z_get hF hG 96 (by decide) z_gs rfl in11 1 (by decide) (List.mem_of_getElem? (i := 1) rfl) rfl rfl dX11_bits_14 ?_
    refine z_get hF hG (54 + 0) (zc_pl (by decide)) (z_pl (by decide)) rfl in3 0 (by decide) (List.mem_of_getElem? (i := 2) rfl) rfl rfl dX11_bits_17 ?_
    refine lv_iload_n hx hb dX11_bits_20 rfl (lv_at hl 1 rfl) ?_
    obtain ⟨q4, hw⟩ := hw
    refine z_aald hF hG (57 + 0) 1 (zc_pr (by decide)) (z_pr (by decide)) rfl q4 rfl dX11_bits_21 ?_
    refine z_get hF hG (6 * 0 + (a1 : Int32).toNatClampNeg) (zc_sv (z_vb (by decide) q4)) (z_sv (z_vb (by decide) q4)) rfl in5 2 (by decide) (List.mem_of_getElem? (i := 3) rfl) rfl rfl dX11_bits_22 ?_
    refine lv_i2l hx hb dX11_bits_25 rfl ?_
    refine lv_aload_n hx hb dX11_bits_26 rfl (lv_at hl 0 rfl) ?_
    refine z_get hF hG 96 (by decide) z_gs rfl in11 1 (by decide) (List.mem_of_getElem? (i := 1) rfl) rfl rfl dX11_bits_27 ?_
    refine z_get hF hG (54 + 0) (zc_pl (by decide)) (z_pl (by decide)) rfl in3 0 (by decide) (List.mem_of_getElem? (i := 2) rfl) rfl rfl dX11_bits_30 ?_
    refine lv_iload_n hx hb dX11_bits_33 rfl (lv_at hl 1 rfl) ?_
    obtain ⟨q5, hw⟩ := hw
    refine z_aald hF hG (57 + 0) 1 (zc_pr (by decide)) (z_pr (by decide)) rfl q5 rfl dX11_bits_34 ?_
    refine z_get hF hG (6 * 0 + (a1 : Int32).toNatClampNeg) (zc_sv (z_vb (by decide) q5)) (z_sv (z_vb (by decide) q5)) rfl in5 3 (by decide) (List.mem_of_getElem? (i := 4) rfl) rfl rfl dX11_bits_35 ?_
    refine lv_i2l hx hb dX11_bits_38 rfl ?_
    refine lv_bipush (v := 23) hx hb dX11_bits_39 (by decide) ?_
    refine lv_bipush (v := 127) hx hb dX11_bits_41 (by decide) ?_
    refine z_cl (va_runS (rest := []) hF.1 (kX11_nearestBits l E Z1 ((Int32.toInt64 (Z1 (6 * 0 + (a1 : Int32).toNatClampNeg) 2))) ((Int32.toInt64 (Z1 (6 * 0 + (a1 : Int32).toNatClampNeg) 3))) 23 127  hw _) (va_cwS 4 hts gX11_bits_X11_nearestBits rfl rfl rfl hS_yX11_nearestBits ⟨Nat.le_trans (Nat.le_of_ble_eq_true rfl) hfr, Nat.le_trans (Nat.le_of_ble_eq_true rfl) hlo⟩) (z_preS hF hG) rfl rfl hl.1 rfl (lv_room (Nat.le_of_ble_eq_true rfl)) dX11_bits_43 ⟨Nat.zero_le _, Nat.zero_le _⟩) hG (fun r7 Z6 H locs hw hG => ?_)
    refine lv_l2i hx hb dX11_bits_46 rfl ?_
    exact z_iret hF hG hr hlk hw dX11_bits_47
  replace hw := hw.2 (fun h => h c3)
  refine lv_iconst (v := (-1)) hx hb dX11_bits_11 (by decide) ?_
  exact z_iret hF hG hr hlk hw dX11_bits_12
