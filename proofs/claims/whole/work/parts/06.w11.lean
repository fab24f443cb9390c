set_option maxHeartbeats 4000000 in
set_option maxRecDepth 100000 in
theorem kX12_has (l : Launch) (E : zE) (Z : zS) (a1 : Int32) (a2 : Int32) (a3 : Int32) (a4 : Int32) (a5 : Int32) (a6 : Int32) {K : Int32 → zS → Prop} (hw : wX12_has a1 a2 a3 a4 a5 a6 Z K) : zCi l yX12_has wsX12_has ({ frames := 7, cells := 0, slots := 0, locals := 150 } : Room) E Z [.ref (E.2.1 97), .int a1, .int a2, .int a3, .int a4, .int a5, .int a6] K := by
  refine z_bodyi (cc := cX12_has) (nL := 8) (ret := .int) (by decide) rfl (Nat.le_of_ble_eq_true rfl) ?_
  intro p e R s m args below meth c ls hfr hlo hF hr hlk hG hl
  have hx := hF.1.1
  have hb := hF.1.2.1
  have hown := hF.1.2.2.2.1
  have hts := hF.1.2.2.2.2
  have in12 : ∀ w ∈ u_ws RX12 TX12 22, w ∈ wsX12_has := fun _ h => List.mem_cons_of_mem _ (List.mem_append_right _ h)
  have hl : lv_has ls 8 [(0, .ref (E.2.1 97)), (1, .int a1), (2, .int a2), (3, .int a3), (4, .int a4), (5, .int a5), (6, .int a6)] := hl
  have J45 : ∀ (s0 : Int32) (s1 : Int32) (Z : zS) (H : Heap) (locs : List Loc) (ls : Array Slot), zG E Z s H locs → lv_has ls 8 [(0, .ref (E.2.1 97)), (1, .int a1)] → wX12_has_45 a1 a2 a3 a4 a5 a6 s0 s1 Z K → W p l e R s m args below meth c H locs 0 0 (zQi E K below args s) (F0 m 45 ls [.int s0, .int s1]) := by
    intro s0 s1 Z H locs ls hG hl hw
    unfold wX12_has_45 at hw
    refine lv_imul hx hb dX12_has_45 ?_
    refine lv_aload_n hx hb dX12_has_46 rfl (lv_at hl 0 rfl) ?_
    refine z_get hF hG 97 (by decide) z_md rfl in12 2 (by decide) (List.mem_of_getElem? (i := 1) rfl) rfl rfl dX12_has_47 ?_
    refine lv_bipush (v := 48) hx hb dX12_has_50 (by decide) ?_
    refine lv_iload_n hx hb dX12_has_52 rfl (lv_at hl 1 rfl) ?_
    refine lv_iadd hx hb dX12_has_53 ?_
    obtain ⟨q7, hw⟩ := hw
    refine z_iald hF hG 98 (by decide) z_m98 q7 dX12_has_54 ?_
    refine lv_aload_n hx hb dX12_has_55 rfl (lv_at hl 0 rfl) ?_
    refine z_get hF hG 97 (by decide) z_md rfl in12 10 (by decide) (List.mem_of_getElem? (i := 2) rfl) rfl rfl dX12_has_56 ?_
    refine lv_bipush (v := 48) hx hb dX12_has_59 (by decide) ?_
    refine lv_iload_n hx hb dX12_has_61 rfl (lv_at hl 1 rfl) ?_
    refine lv_iadd hx hb dX12_has_62 ?_
    obtain ⟨q8, hw⟩ := hw
    refine z_iald hF hG 102 (by decide) z_m102 q8 dX12_has_63 ?_
    refine lv_isub hx hb dX12_has_64 ?_
    refine lv_isub hx hb dX12_has_65 ?_
    refine lv_topi (fun y9 ey9 => ?_)
    replace hw := hw y9 ey9
    refine lv_istore (lv' := [(7, .int y9), (0, .ref (E.2.1 97)), (1, .int a1)]) hx hb dX12_has_66 hl (by decide) rfl (fun ls hl => ?_)
    refine lv_aload_n hx hb dX12_has_68 rfl (lv_at hl 1 rfl) ?_
    refine lv_aload_n hx hb dX12_has_69 rfl (lv_at hl 1 rfl) ?_
    refine z_get hF hG 97 (by decide) z_md rfl in12 10 (by decide) (List.mem_of_getElem? (i := 2) rfl) rfl rfl dX12_has_70 ?_
    refine z_cv (va_runV (rest := []) hF.1 (kX12_again l E Z 102 122 (by decide) (fun _ => z_m102) hw _) (cwV 1 hts gX12_has_X12_again rfl rfl rfl ⟨rfl, hS_yX12_again⟩ ⟨Nat.le_trans (Nat.le_of_ble_eq_true rfl) hfr, Nat.le_trans (Nat.le_of_ble_eq_true rfl) hlo⟩) (z_preV hF hG 97 (by decide) z_md rfl) rfl rfl hl.1 rfl (lv_room (Nat.le_of_ble_eq_true rfl)) dX12_has_73 ⟨Nat.zero_le _, Nat.zero_le _⟩) hG (fun Z10 H locs hw hG => ?_)
    refine lv_iload hx hb dX12_has_76 (lv_at hl 0 rfl) ?_
    exact z_iret hF hG hr hlk hw dX12_has_78
  have J26 : ∀ (Z : zS) (H : Heap) (locs : List Loc) (ls : Array Slot), zG E Z s H locs → lv_has ls 8 [(0, .ref (E.2.1 97)), (1, .int a1), (2, .int a2), (4, .int a4), (5, .int a5), (6, .int a6)] → wX12_has_26 a1 a2 a3 a4 a5 a6 Z K → W p l e R s m args below meth c H locs 0 0 (zQi E K below args s) (F0 m 26 ls []) := by
    intro Z H locs ls hG hl hw
    unfold wX12_has_26 at hw
    refine lv_aload_n hx hb dX12_has_26 rfl (lv_at hl 0 rfl) ?_
    refine lv_iload hx hb dX12_has_27 (lv_at hl 5 rfl) ?_
    refine z_cv (va_runV (rest := []) hF.1 (kX12_goesOn l E Z a6  hw _) (cwV 1 hts gX12_has_X12_goesOn rfl rfl rfl ⟨rfl, hS_yX12_goesOn⟩ ⟨Nat.le_trans (Nat.le_of_ble_eq_true rfl) hfr, Nat.le_trans (Nat.le_of_ble_eq_true rfl) hlo⟩) (z_preV hF hG 97 (by decide) z_md rfl) rfl rfl hl.1 rfl (lv_room (Nat.le_of_ble_eq_true rfl)) dX12_has_29 ⟨Nat.zero_le _, Nat.zero_le _⟩) hG (fun Z5 H locs hw hG => ?_)
    refine lv_iconst (v := 4) hx hb dX12_has_32 (by decide) ?_
    refine lv_iload_n hx hb dX12_has_33 rfl (lv_at hl 1 rfl) ?_
    refine lv_iload_n hx hb dX12_has_34 rfl (lv_at hl 2 rfl) ?_
    refine lv_icmp_ne (tgt := 43) hx hb dX12_has_35 (by decide) (fun c6 => ?_) (fun c6 => ?_)
    · replace hw := hw.1 c6
      refine lv_iload hx hb dX12_has_43 (lv_at hl 4 rfl) ?_
      exact J45 a5 4 Z5 _ _ _ hG (lv_sub hl [0, 1] rfl) hw
    replace hw := hw.2 (fun h => h c6)
    refine lv_iload hx hb dX12_has_38 (lv_at hl 3 rfl) ?_
    refine lv_goto (tgt := 45) hx hb dX12_has_40 (by decide) ?_
    exact J45 a4 4 Z5 _ _ _ hG (lv_sub hl [0, 1] rfl) hw
  have J13 : ∀ (Z : zS) (H : Heap) (locs : List Loc) (ls : Array Slot), zG E Z s H locs → lv_has ls 8 [(0, .ref (E.2.1 97)), (1, .int a1), (2, .int a2), (3, .int a3), (4, .int a4), (5, .int a5), (6, .int a6)] → wX12_has_13 a1 a2 a3 a4 a5 a6 Z K → W p l e R s m args below meth c H locs 0 0 (zQi E K below args s) (F0 m 13 ls []) := by
    intro Z H locs ls hG hl hw
    unfold wX12_has_13 at hw
    refine lv_iload hx hb dX12_has_13 (lv_at hl 5 rfl) ?_
    refine lv_iconst (v := 1) hx hb dX12_has_15 (by decide) ?_
    refine lv_icmp_ne (tgt := 26) hx hb dX12_has_16 (by decide) (fun c3 => ?_) (fun c3 => ?_)
    · replace hw := hw.1 c3
      exact J26  Z _ _ _ hG (lv_sub hl [0, 1, 2, 4, 5, 6] rfl) hw
    replace hw := hw.2 (fun h => h c3)
    refine lv_aload_n hx hb dX12_has_19 rfl (lv_at hl 0 rfl) ?_
    refine lv_iload_n hx hb dX12_has_20 rfl (lv_at hl 3 rfl) ?_
    refine lv_iconst (v := 5) hx hb dX12_has_21 (by decide) ?_
    refine lv_iconst (v := 3) hx hb dX12_has_22 (by decide) ?_
    refine z_cv (va_runV (rest := []) hF.1 (kX12_jobComes l E Z a3 5 3  hw _) (cwV 3 hts gX12_has_X12_jobComes rfl rfl rfl ⟨rfl, hS_yX12_jobComes⟩ ⟨Nat.le_trans (Nat.le_of_ble_eq_true rfl) hfr, Nat.le_trans (Nat.le_of_ble_eq_true rfl) hlo⟩) (z_preV hF hG 97 (by decide) z_md rfl) rfl rfl hl.1 rfl (lv_room (Nat.le_of_ble_eq_true rfl)) dX12_has_23 ⟨Nat.zero_le _, Nat.zero_le _⟩) hG (fun Z4 H locs hw hG => ?_)
    exact J26  Z4 _ _ _ hG (lv_sub hl [0, 1, 2, 4, 5, 6] rfl) hw
  unfold wX12_has at hw
  refine lv_iload hx hb dX12_has_0 (lv_at hl 4 rfl) ?_
  refine lv_iconst (v := 1) hx hb dX12_has_2 (by decide) ?_
  refine lv_icmp_ne (tgt := 13) hx hb dX12_has_3 (by decide) (fun c1 => ?_) (fun c1 => ?_)
  · replace hw := hw.1 c1
    exact J13  Z _ _ _ hG (lv_sub hl [0, 1, 2, 3, 4, 5, 6] rfl) hw
  replace hw := hw.2 (fun h => h c1)
  refine lv_aload_n hx hb dX12_has_6 rfl (lv_at hl 0 rfl) ?_
  refine lv_iload_n hx hb dX12_has_7 rfl (lv_at hl 2 rfl) ?_
  refine lv_iconst (v := 5) hx hb dX12_has_8 (by decide) ?_
  refine lv_iconst (v := 3) hx hb dX12_has_9 (by decide) ?_
  refine z_cv (va_runV (rest := []) hF.1 (kX12_jobComes l E Z a2 5 3  hw _) (cwV 3 hts gX12_has_X12_jobComes rfl rfl rfl ⟨rfl, hS_yX12_jobComes⟩ ⟨Nat.le_trans (Nat.le_of_ble_eq_true rfl) hfr, Nat.le_trans (Nat.le_of_ble_eq_true rfl) hlo⟩) (z_preV hF hG 97 (by decide) z_md rfl) rfl rfl hl.1 rfl (lv_room (Nat.le_of_ble_eq_true rfl)) dX12_has_10 ⟨Nat.zero_le _, Nat.zero_le _⟩) hG (fun Z2 H locs hw hG => ?_)
  exact J13  Z2 _ _ _ hG (lv_sub hl [0, 1, 2, 3, 4, 5, 6] rfl) hw
theorem hS_yX12_has : yX12_has.cls ≠ "java/lang/invoke/MethodHandle" ∧ yX12_has.cls ≠ "java/lang/invoke/VarHandle" ∧ (parseMethodDescriptor yX12_has.desc).map (fun d => d.parameters.length) = some 6 := by decide +kernel
set_option maxHeartbeats 4000000 in
set_option maxRecDepth 100000 in
theorem kX12_two (l : Launch) (E : zE) (Z : zS) (a1 : Int32) (a2 : Int32) (a3 : Int32) {K : Int32 → zS → Prop} (hw : wX12_two a1 a2 a3 Z K) : zCi l yX12_two wsX12_two ({ frames := 8, cells := 0, slots := 0, locals := 177 } : Room) E Z [.ref (E.2.1 97), .int a1, .int a2, .int a3] K := by
  refine z_bodyi (cc := cX12_two) (nL := 6) (ret := .int) (by decide) rfl (Nat.le_of_ble_eq_true rfl) ?_
  intro p e R s m args below meth c ls hfr hlo hF hr hlk hG hl
  have hx := hF.1.1
  have hb := hF.1.2.1
  have hown := hF.1.2.2.2.1
  have hts := hF.1.2.2.2.2
  have in12 : ∀ w ∈ u_ws RX12 TX12 22, w ∈ wsX12_two := fun _ h => List.mem_cons_of_mem _ (List.mem_append_right _ h)
  have hl : lv_has ls 6 [(0, .ref (E.2.1 97)), (1, .int a1), (2, .int a2), (3, .int a3)] := hl
  have S73 : ∀ (L73 : Int32 → zS → Prop), (∀ (x4 : Int32) (Z : zS) (H : Heap) (locs : List Loc) (ls : Array Slot), zG E Z s H locs → lv_has ls 6 [(0, .ref (E.2.1 97)), (1, .int a1), (2, .int a2), (3, .int a3), (4, .int x4)] → L73 x4 Z → W p l e R s m args below meth c H locs 0 0 (zQi E K below args s) (F0 m 73 ls [])) → ∀ (x4 : Int32) (Z : zS) (H : Heap) (locs : List Loc) (ls : Array Slot), zG E Z s H locs → lv_has ls 6 [(0, .ref (E.2.1 97)), (1, .int a1), (2, .int a2), (3, .int a3), (4, .int x4)] → wX12_two_73b L73 a1 a2 a3 x4 Z K → W p l e R s m args below meth c H locs 0 0 (zQi E K below args s) (F0 m 73 ls []) := by
    intro L73 ih73
    have S82 : ∀ (L82 : Int32 → Int32 → zS → Prop), (∀ (x4 : Int32) (x5 : Int32) (Z : zS) (H : Heap) (locs : List Loc) (ls : Array Slot), zG E Z s H locs → lv_has ls 6 [(0, .ref (E.2.1 97)), (1, .int a1), (2, .int a2), (3, .int a3), (4, .int x4), (5, .int x5)] → L82 x4 x5 Z → W p l e R s m args below meth c H locs 0 0 (zQi E K below args s) (F0 m 82 ls [])) → ∀ (x4 : Int32) (x5 : Int32) (Z : zS) (H : Heap) (locs : List Loc) (ls : Array Slot), zG E Z s H locs → lv_has ls 6 [(0, .ref (E.2.1 97)), (1, .int a1), (2, .int a2), (3, .int a3), (4, .int x4), (5, .int x5)] → wX12_two_82b L73 L82 a1 a2 a3 x4 x5 Z K → W p l e R s m args below meth c H locs 0 0 (zQi E K below args s) (F0 m 82 ls []) := by
      intro L82 ih82
      have J155 : ∀ (x4 : Int32) (x5 : Int32) (Z : zS) (H : Heap) (locs : List Loc) (ls : Array Slot), zG E Z s H locs → lv_has ls 6 [(0, .ref (E.2.1 97)), (1, .int a1), (2, .int a2), (3, .int a3), (4, .int x4), (5, .int x5)] → wX12_two_155 L73 L82 a1 a2 a3 x4 x5 Z K → W p l e R s m args below meth c H locs 0 0 (zQi E K below args s) (F0 m 155 ls []) := by
        intro x4 x5 Z H locs ls hG hl hw
        unfold wX12_two_155 at hw
        obtain ⟨y31, ey31⟩ : ∃ y : Int32, y = x5 + 1 := ⟨_, rfl⟩
        replace hw := hw y31 ey31
        refine lv_iinc (v := y31) (lv' := [(5, .int y31), (0, .ref (E.2.1 97)), (1, .int a1), (2, .int a2), (3, .int a3), (4, .int x4)]) hx hb dX12_two_155 hl (k := 5) rfl (by rw [ey31]; rfl) (by decide) rfl (fun ls hl => ?_)
        refine lv_goto (tgt := 82) hx hb dX12_two_158 (by decide) ?_
        exact ih82 x4 y31 Z _ _ _ hG (lv_sub hl [1, 2, 3, 4, 5, 0] rfl) hw
      intro x4 x5 Z H locs ls hG hl hw
      unfold wX12_two_82b at hw
      refine lv_iload hx hb dX12_two_82 (lv_at hl 5 rfl) ?_
      refine lv_iconst (v := 2) hx hb dX12_two_84 (by decide) ?_
      refine lv_icmp_ge (tgt := 161) hx hb dX12_two_85 (by decide) (fun c19 => ?_) (fun c19 => ?_)
      · replace hw := hw.1 c19
        obtain ⟨y20, ey20⟩ : ∃ y : Int32, y = x4 + 1 := ⟨_, rfl⟩
        replace hw := hw y20 ey20
        refine lv_iinc (v := y20) (lv' := [(4, .int y20), (0, .ref (E.2.1 97)), (1, .int a1), (2, .int a2), (3, .int a3), (5, .int x5)]) hx hb dX12_two_161 hl (k := 4) rfl (by rw [ey20]; rfl) (by decide) rfl (fun ls hl => ?_)
        refine lv_goto (tgt := 73) hx hb dX12_two_164 (by decide) ?_
        exact ih73 y20 Z _ _ _ hG (lv_sub hl [1, 2, 3, 4, 0] rfl) hw
      replace hw := hw.2 c19
      refine lv_aload_n hx hb dX12_two_88 rfl (lv_at hl 0 rfl) ?_
      refine lv_iload_n hx hb dX12_two_89 rfl (lv_at hl 1 rfl) ?_
      refine lv_iload_n hx hb dX12_two_90 rfl (lv_at hl 1 rfl) ?_
      refine lv_iload_n hx hb dX12_two_91 rfl (lv_at hl 2 rfl) ?_
      refine lv_iload hx hb dX12_two_92 (lv_at hl 4 rfl) ?_
      refine lv_iload hx hb dX12_two_94 (lv_at hl 5 rfl) ?_
      refine lv_iload_n hx hb dX12_two_96 rfl (lv_at hl 3 rfl) ?_
      refine z_ci (va_runV (rest := []) hF.1 (kX12_has l E Z a1 a1 a2 x4 x5 a3  hw _) (cwV 6 hts gX12_two_X12_has rfl rfl rfl ⟨rfl, hS_yX12_has⟩ ⟨Nat.le_trans (Nat.le_of_ble_eq_true rfl) hfr, Nat.le_trans (Nat.le_of_ble_eq_true rfl) hlo⟩) (z_preV hF hG 97 (by decide) z_md rfl) rfl rfl hl.1 rfl (lv_room (Nat.le_of_ble_eq_true rfl)) dX12_two_97 ⟨Nat.zero_le _, Nat.zero_le _⟩) hG (fun r22 Z21 H locs hw hG => ?_)
      refine lv_aload_n hx hb dX12_two_100 rfl (lv_at hl 0 rfl) ?_
      refine lv_iload_n hx hb dX12_two_101 rfl (lv_at hl 1 rfl) ?_
      refine lv_iload_n hx hb dX12_two_102 rfl (lv_at hl 1 rfl) ?_
      refine lv_iload_n hx hb dX12_two_103 rfl (lv_at hl 2 rfl) ?_
      refine lv_iconst (v := 1) hx hb dX12_two_104 (by decide) ?_
      refine lv_iload hx hb dX12_two_105 (lv_at hl 4 rfl) ?_
      refine lv_isub hx hb dX12_two_107 ?_
      refine lv_iload hx hb dX12_two_108 (lv_at hl 5 rfl) ?_
      refine lv_iload_n hx hb dX12_two_110 rfl (lv_at hl 3 rfl) ?_
      refine z_ci (va_runV (rest := [.int r22]) hF.1 (kX12_has l E Z21 a1 a1 a2 ((1 - x4)) x5 a3  hw _) (cwV 6 hts gX12_two_X12_has rfl rfl rfl ⟨rfl, hS_yX12_has⟩ ⟨Nat.le_trans (Nat.le_of_ble_eq_true rfl) hfr, Nat.le_trans (Nat.le_of_ble_eq_true rfl) hlo⟩) (z_preV hF hG 97 (by decide) z_md rfl) rfl rfl hl.1 rfl (lv_room (Nat.le_of_ble_eq_true rfl)) dX12_two_111 ⟨Nat.zero_le _, Nat.zero_le _⟩) hG (fun r24 Z23 H locs hw hG => ?_)
      refine lv_icmp_lt (tgt := 155) hx hb dX12_two_114 (by decide) (fun c25 => ?_) (fun c25 => ?_)
      · replace hw := hw.1 c25
        exact J155 x4 x5 Z23 _ _ _ hG (lv_sub hl [0, 1, 2, 3, 4, 5] rfl) hw
      replace hw := hw.2 c25
      refine lv_aload_n hx hb dX12_two_117 rfl (lv_at hl 0 rfl) ?_
      refine lv_iload_n hx hb dX12_two_118 rfl (lv_at hl 2 rfl) ?_
      refine lv_iload_n hx hb dX12_two_119 rfl (lv_at hl 1 rfl) ?_
      refine lv_iload_n hx hb dX12_two_120 rfl (lv_at hl 2 rfl) ?_
      refine lv_iload hx hb dX12_two_121 (lv_at hl 4 rfl) ?_
      refine lv_iload hx hb dX12_two_123 (lv_at hl 5 rfl) ?_
      refine lv_iload_n hx hb dX12_two_125 rfl (lv_at hl 3 rfl) ?_
      refine z_ci (va_runV (rest := []) hF.1 (kX12_has l E Z23 a2 a1 a2 x4 x5 a3  hw _) (cwV 6 hts gX12_two_X12_has rfl rfl rfl ⟨rfl, hS_yX12_has⟩ ⟨Nat.le_trans (Nat.le_of_ble_eq_true rfl) hfr, Nat.le_trans (Nat.le_of_ble_eq_true rfl) hlo⟩) (z_preV hF hG 97 (by decide) z_md rfl) rfl rfl hl.1 rfl (lv_room (Nat.le_of_ble_eq_true rfl)) dX12_two_126 ⟨Nat.zero_le _, Nat.zero_le _⟩) hG (fun r27 Z26 H locs hw hG => ?_)
      refine lv_aload_n hx hb dX12_two_129 rfl (lv_at hl 0 rfl) ?_
      refine lv_iload_n hx hb dX12_two_130 rfl (lv_at hl 2 rfl) ?_
      refine lv_iload_n hx hb dX12_two_131 rfl (lv_at hl 1 rfl) ?_
      refine lv_iload_n hx hb dX12_two_132 rfl (lv_at hl 2 rfl) ?_
      refine lv_iload hx hb dX12_two_133 (lv_at hl 4 rfl) ?_
      refine lv_iconst (v := 1) hx hb dX12_two_135 (by decide) ?_
      refine lv_iload hx hb dX12_two_136 (lv_at hl 5 rfl) ?_
      refine lv_isub hx hb dX12_two_138 ?_
      refine lv_iload_n hx hb dX12_two_139 rfl (lv_at hl 3 rfl) ?_
      refine z_ci (va_runV (rest := [.int r27]) hF.1 (kX12_has l E Z26 a2 a1 a2 x4 ((1 - x5)) a3  hw _) (cwV 6 hts gX12_two_X12_has rfl rfl rfl ⟨rfl, hS_yX12_has⟩ ⟨Nat.le_trans (Nat.le_of_ble_eq_true rfl) hfr, Nat.le_trans (Nat.le_of_ble_eq_true rfl) hlo⟩) (z_preV hF hG 97 (by decide) z_md rfl) rfl rfl hl.1 rfl (lv_room (Nat.le_of_ble_eq_true rfl)) dX12_two_140 ⟨Nat.zero_le _, Nat.zero_le _⟩) hG (fun r29 Z28 H locs hw hG => ?_)
      refine lv_icmp_lt (tgt := 155) hx hb dX12_two_143 (by decide) (fun c30 => ?_) (fun c30 => ?_)
      · replace hw := hw.1 c30
        exact J155 x4 x5 Z28 _ _ _ hG (lv_sub hl [0, 1, 2, 3, 4, 5] rfl) hw
      replace hw := hw.2 c30
      refine lv_bipush (v := 10) hx hb dX12_two_146 (by decide) ?_
      refine lv_iload hx hb dX12_two_148 (lv_at hl 4 rfl) ?_
      refine lv_imul hx hb dX12_two_150 ?_
      refine lv_iload hx hb dX12_two_151 (lv_at hl 5 rfl) ?_
      refine lv_iadd hx hb dX12_two_153 ?_
      exact z_iret hF hG hr hlk hw dX12_two_154
    have J82 : ∀ n : Nat, ∀ (x4 : Int32) (x5 : Int32) (Z : zS) (H : Heap) (locs : List Loc) (ls : Array Slot), zG E Z s H locs → lv_has ls 6 [(0, .ref (E.2.1 97)), (1, .int a1), (2, .int a2), (3, .int a3), (4, .int x4), (5, .int x5)] → wX12_two_82 L73 a1 a2 a3 K n x4 x5 Z → W p l e R s m args below meth c H locs 0 0 (zQi E K below args s) (F0 m 82 ls []) := by
      intro n
      induction n with
      | zero => intro x4 x5 Z H locs ls hG hl hw; exact hw.elim
      | succ n ih => intro x4 x5 Z H locs ls hG hl hw; exact S82 _ ih x4 x5 Z H locs ls hG hl hw
    intro x4 Z H locs ls hG hl hw
    unfold wX12_two_73b at hw
    refine lv_iload hx hb dX12_two_73 (lv_at hl 4 rfl) ?_
    refine lv_iconst (v := 2) hx hb dX12_two_75 (by decide) ?_
    refine lv_icmp_ge (tgt := 167) hx hb dX12_two_76 (by decide) (fun c17 => ?_) (fun c17 => ?_)
    · replace hw := hw.1 c17
      refine lv_bipush (v := (-4)) hx hb dX12_two_167 (by decide) ?_
      exact z_iret hF hG hr hlk hw dX12_two_169
    replace hw := hw.2 c17
    refine lv_iconst (v := 0) hx hb dX12_two_79 (by decide) ?_
    refine lv_topi (fun y18 ey18 => ?_)
    replace hw := hw y18 ey18
    refine lv_istore (lv' := [(5, .int y18), (0, .ref (E.2.1 97)), (1, .int a1), (2, .int a2), (3, .int a3), (4, .int x4)]) hx hb dX12_two_80 hl (by decide) rfl (fun ls hl => ?_)
    obtain ⟨n82, hw⟩ := hw
    exact J82 n82 x4 y18 Z _ _ _ hG (lv_sub hl [1, 2, 3, 4, 5, 0] rfl) hw
  have J73 : ∀ n : Nat, ∀ (x4 : Int32) (Z : zS) (H : Heap) (locs : List Loc) (ls : Array Slot), zG E Z s H locs → lv_has ls 6 [(0, .ref (E.2.1 97)), (1, .int a1), (2, .int a2), (3, .int a3), (4, .int x4)] → wX12_two_73 a1 a2 a3 K n x4 Z → W p l e R s m args below meth c H locs 0 0 (zQi E K below args s) (F0 m 73 ls []) := by
    intro n
    induction n with
    | zero => intro x4 Z H locs ls hG hl hw; exact hw.elim
    | succ n ih => intro x4 Z H locs ls hG hl hw; exact S73 _ ih x4 Z H locs ls hG hl hw
  unfold wX12_two at hw
  refine lv_aload_n hx hb dX12_two_0 rfl (lv_at hl 0 rfl) ?_
  refine lv_iload_n hx hb dX12_two_1 rfl (lv_at hl 1 rfl) ?_
  refine z_ci (va_runV (rest := []) hF.1 (kX12_isServer l E Z a1  hw _) (cwV 1 hts gX12_two_X12_isServer rfl rfl rfl ⟨rfl, hS_yX12_isServer⟩ ⟨Nat.le_trans (Nat.le_of_ble_eq_true rfl) hfr, Nat.le_trans (Nat.le_of_ble_eq_true rfl) hlo⟩) (z_preV hF hG 97 (by decide) z_md rfl) rfl rfl hl.1 rfl (lv_room (Nat.le_of_ble_eq_true rfl)) dX12_two_2 ⟨Nat.zero_le _, Nat.zero_le _⟩) hG (fun r2 Z1 H locs hw hG => ?_)
  refine lv_if_eq (tgt := 31) hx hb dX12_two_5 (by decide) (fun c3 => ?_) (fun c3 => ?_)
  · replace hw := hw.1 c3
    refine lv_iconst (v := (-1)) hx hb dX12_two_31 (by decide) ?_
    exact z_iret hF hG hr hlk hw dX12_two_32
  replace hw := hw.2 c3
  refine lv_aload_n hx hb dX12_two_8 rfl (lv_at hl 0 rfl) ?_
  refine lv_iload_n hx hb dX12_two_9 rfl (lv_at hl 2 rfl) ?_
  refine z_ci (va_runV (rest := []) hF.1 (kX12_isServer l E Z1 a2  hw _) (cwV 1 hts gX12_two_X12_isServer rfl rfl rfl ⟨rfl, hS_yX12_isServer⟩ ⟨Nat.le_trans (Nat.le_of_ble_eq_true rfl) hfr, Nat.le_trans (Nat.le_of_ble_eq_true rfl) hlo⟩) (z_preV hF hG 97 (by decide) z_md rfl) rfl rfl hl.1 rfl (lv_room (Nat.le_of_ble_eq_true rfl)) dX12_two_10 ⟨Nat.zero_le _, Nat.zero_le _⟩) hG (fun r5 Z4 H locs hw hG => ?_)
  refine lv_if_eq (tgt := 31) hx hb dX12_two_13 (by decide) (fun c6 => ?_) (fun c6 => ?_)
  · replace hw := hw.1 c6
    refine lv_iconst (v := (-1)) hx hb dX12_two_31 (by decide) ?_
    exact z_iret hF hG hr hlk hw dX12_two_32
  replace hw := hw.2 c6
  refine lv_iload_n hx hb dX12_two_16 rfl (lv_at hl 1 rfl) ?_
  refine lv_iload_n hx hb dX12_two_17 rfl (lv_at hl 2 rfl) ?_
  refine lv_icmp_eq (tgt := 31) hx hb dX12_two_18 (by decide) (fun c7 => ?_) (fun c7 => ?_)
  · replace hw := hw.1 c7
    refine lv_iconst (v := (-1)) hx hb dX12_two_31 (by decide) ?_
    exact z_iret hF hG hr hlk hw dX12_two_32
  replace hw := hw.2 c7
  refine lv_iload_n hx hb dX12_two_21 rfl (lv_at hl 3 rfl) ?_
  refine lv_iconst (v := 1) hx hb dX12_two_22 (by decide) ?_
  refine lv_bipush (v := 60) hx hb dX12_two_23 (by decide) ?_
  refine z_ci (va_runS (rest := []) hF.1 (kX12_within l E Z4 a3 1 60  hw _) (va_cwS 3 hts gX12_two_X12_within rfl rfl rfl hS_yX12_within ⟨Nat.le_trans (Nat.le_of_ble_eq_true rfl) hfr, Nat.le_trans (Nat.le_of_ble_eq_true rfl) hlo⟩) (z_preS hF hG) rfl rfl hl.1 rfl (lv_room (Nat.le_of_ble_eq_true rfl)) dX12_two_25 ⟨Nat.zero_le _, Nat.zero_le _⟩) hG (fun r9 Z8 H locs hw hG => ?_)
  refine lv_if_ne (tgt := 33) hx hb dX12_two_28 (by decide) (fun c10 => ?_) (fun c10 => ?_)
  · replace hw := hw.1 c10
    refine lv_aload_n hx hb dX12_two_33 rfl (lv_at hl 0 rfl) ?_
    refine z_get hF hG 97 (by decide) z_md rfl in12 2 (by decide) (List.mem_of_getElem? (i := 1) rfl) rfl rfl dX12_two_34 ?_
    refine lv_bipush (v := 42) hx hb dX12_two_37 (by decide) ?_
    refine lv_iload_n hx hb dX12_two_39 rfl (lv_at hl 1 rfl) ?_
    refine lv_iadd hx hb dX12_two_40 ?_
    obtain ⟨q11, hw⟩ := hw
    refine z_iald hF hG 98 (by decide) z_m98 q11 dX12_two_41 ?_
    refine lv_iconst (v := 4) hx hb dX12_two_42 (by decide) ?_
    refine lv_icmp_eq (tgt := 59) hx hb dX12_two_43 (by decide) (fun c12 => ?_) (fun c12 => ?_)
    · replace hw := hw.1 c12
      refine lv_bipush (v := (-2)) hx hb dX12_two_59 (by decide) ?_
      exact z_iret hF hG hr hlk hw dX12_two_61
    replace hw := hw.2 c12
    refine lv_aload_n hx hb dX12_two_46 rfl (lv_at hl 0 rfl) ?_
    refine z_get hF hG 97 (by decide) z_md rfl in12 2 (by decide) (List.mem_of_getElem? (i := 1) rfl) rfl rfl dX12_two_47 ?_
    refine lv_bipush (v := 42) hx hb dX12_two_50 (by decide) ?_
    refine lv_iload_n hx hb dX12_two_52 rfl (lv_at hl 2 rfl) ?_
    refine lv_iadd hx hb dX12_two_53 ?_
    obtain ⟨q13, hw⟩ := hw
    refine z_iald hF hG 98 (by decide) z_m98 q13 dX12_two_54 ?_
    refine lv_iconst (v := 4) hx hb dX12_two_55 (by decide) ?_
    refine lv_icmp_ne (tgt := 62) hx hb dX12_two_56 (by decide) (fun c14 => ?_) (fun c14 => ?_)
    · replace hw := hw.1 c14
      refine lv_aload_n hx hb dX12_two_62 rfl (lv_at hl 0 rfl) ?_
      refine lv_aload_n hx hb dX12_two_63 rfl (lv_at hl 0 rfl) ?_
      refine z_get hF hG 97 (by decide) z_md rfl in12 10 (by decide) (List.mem_of_getElem? (i := 2) rfl) rfl rfl dX12_two_64 ?_
      refine z_cv (va_runV (rest := []) hF.1 (kX12_keep l E Z8 102 122 (by decide) (fun _ => z_m102) hw _) (cwV 1 hts gX12_two_X12_keep rfl rfl rfl ⟨rfl, hS_yX12_keep⟩ ⟨Nat.le_trans (Nat.le_of_ble_eq_true rfl) hfr, Nat.le_trans (Nat.le_of_ble_eq_true rfl) hlo⟩) (z_preV hF hG 97 (by decide) z_md rfl) rfl rfl hl.1 rfl (lv_room (Nat.le_of_ble_eq_true rfl)) dX12_two_67 ⟨Nat.zero_le _, Nat.zero_le _⟩) hG (fun Z15 H locs hw hG => ?_)
      refine lv_iconst (v := 0) hx hb dX12_two_70 (by decide) ?_
      refine lv_topi (fun y16 ey16 => ?_)
      replace hw := hw y16 ey16
      refine lv_istore (lv' := [(4, .int y16), (0, .ref (E.2.1 97)), (1, .int a1), (2, .int a2), (3, .int a3)]) hx hb dX12_two_71 hl (by decide) rfl (fun ls hl => ?_)
      obtain ⟨n73, hw⟩ := hw
      exact J73 n73 y16 Z15 _ _ _ hG (lv_sub hl [1, 2, 3, 4, 0] rfl) hw
    replace hw := hw.2 (fun h => h c14)
    refine lv_bipush (v := (-2)) hx hb dX12_two_59 (by decide) ?_
    exact z_iret hF hG hr hlk hw dX12_two_61
  replace hw := hw.2 (fun h => h c10)
  refine lv_iconst (v := (-1)) hx hb dX12_two_31 (by decide) ?_
  exact z_iret hF hG hr hlk hw dX12_two_32
set_option maxHeartbeats 4000000 in
set_option maxRecDepth 100000 in
theorem kX12_part (l : Launch) (E : zE) (Z : zS) (a1 : Int64) (a2 : Int64) (a3 : Int32) {K : Int64 → zS → Prop} (hw : wX12_part a1 a2 a3 Z K) : zCl l yX12_part wsX12_part ({ frames := 0, cells := 0, slots := 0, locals := 0 } : Room) E Z [.long a1, .long a2, .int a3] K := by
  refine z_bodyl (cc := cX12_part) (nL := 11) (by decide) rfl (Nat.le_of_ble_eq_true rfl) ?_
  intro p e R s m args below meth c ls hfr hlo hF hr hlk hG hl
  have hx := hF.1.1
  have hb := hF.1.2.1
  have hown := hF.1.2.2.2.1
  have hts := hF.1.2.2.2.2
  have hl : lv_has ls 11 [(0, .long a1), (2, .long a2), (4, .int a3)] := hl
  have S6 : ∀ (L6 : Int64 → Int64 → zS → Prop), (∀ (x5 : Int64) (x7 : Int64) (Z : zS) (H : Heap) (locs : List Loc) (ls : Array Slot), zG E Z s H locs → lv_has ls 11 [(0, .long a1), (2, .long a2), (4, .int a3), (5, .long x5), (7, .long x7)] → L6 x5 x7 Z → W p l e R s m args below meth c H locs 0 0 (zQl E K below args s) (F0 m 6 ls [])) → ∀ (x5 : Int64) (x7 : Int64) (Z : zS) (H : Heap) (locs : List Loc) (ls : Array Slot), zG E Z s H locs → lv_has ls 11 [(0, .long a1), (2, .long a2), (4, .int a3), (5, .long x5), (7, .long x7)] → wX12_part_6b L6 a1 a2 a3 x5 x7 Z K → W p l e R s m args below meth c H locs 0 0 (zQl E K below args s) (F0 m 6 ls []) := by
    intro L6 ih6
    intro x5 x7 Z H locs ls hG hl hw
    unfold wX12_part_6b at hw
    refine lv_lload hx hb dX12_part_6 (lv_at hl 4 rfl) ?_
    refine lv_lconst (v := 0) hx hb dX12_part_8 rfl ?_
    refine W.lcmp hx hb dX12_part_9 ?_
    refine lv_if_eq (tgt := 31) hx hb dX12_part_10 (by decide) (fun c1 => ?_) (fun c1 => ?_)
    · replace hw := hw.1 c1
      refine lv_iload hx hb dX12_part_31 (lv_at hl 2 rfl) ?_
      refine lv_if_ne (tgt := 40) hx hb dX12_part_33 (by decide) (fun c2 => ?_) (fun c2 => ?_)
      · replace hw := hw.1 c2
        refine lv_lload_n hx hb dX12_part_40 rfl (lv_at hl 1 rfl) ?_
        refine lv_lload hx hb dX12_part_41 (lv_at hl 3 rfl) ?_
        refine lv_ldiv hx hb dX12_part_43 hw.1 ?_
        replace hw := hw.2
        exact z_lret hF hG hr hlk hw dX12_part_44
      replace hw := hw.2 (fun h => h c2)
      refine lv_lload_n hx hb dX12_part_36 rfl (lv_at hl 0 rfl) ?_
      refine lv_goto (tgt := 41) hx hb dX12_part_37 (by decide) ?_
      refine lv_lload hx hb dX12_part_41 (lv_at hl 3 rfl) ?_
      refine lv_ldiv hx hb dX12_part_43 hw.1 ?_
      replace hw := hw.2
      exact z_lret hF hG hr hlk hw dX12_part_44
    replace hw := hw.2 c1
    refine lv_lload hx hb dX12_part_13 (lv_at hl 3 rfl) ?_
    refine lv_lload hx hb dX12_part_15 (lv_at hl 4 rfl) ?_
    refine lv_lrem hx hb dX12_part_17 hw.1 ?_
    replace hw := hw.2
    refine lv_topl (fun y3 ey3 => ?_)
    replace hw := hw y3 ey3
    refine lv_lstore (lv' := [(9, .long y3), (0, .long a1), (2, .long a2), (4, .int a3), (5, .long x5), (7, .long x7)]) hx hb dX12_part_18 hl (by decide) rfl (fun ls hl => ?_)
    refine lv_lload hx hb dX12_part_20 (lv_at hl 5 rfl) ?_
    refine lv_lstore (lv' := [(5, .long x7), (9, .long y3), (0, .long a1), (2, .long a2), (4, .int a3), (7, .long x7)]) hx hb dX12_part_22 hl (by decide) rfl (fun ls hl => ?_)
    refine lv_lload hx hb dX12_part_24 (lv_at hl 1 rfl) ?_
    refine lv_lstore (lv' := [(7, .long y3), (5, .long x7), (9, .long y3), (0, .long a1), (2, .long a2), (4, .int a3)]) hx hb dX12_part_26 hl (by decide) rfl (fun ls hl => ?_)
    refine lv_goto (tgt := 6) hx hb dX12_part_28 (by decide) ?_
    exact ih6 x7 y3 Z _ _ _ hG (lv_sub hl [3, 4, 5, 1, 0] rfl) hw
  have J6 : ∀ n : Nat, ∀ (x5 : Int64) (x7 : Int64) (Z : zS) (H : Heap) (locs : List Loc) (ls : Array Slot), zG E Z s H locs → lv_has ls 11 [(0, .long a1), (2, .long a2), (4, .int a3), (5, .long x5), (7, .long x7)] → wX12_part_6 a1 a2 a3 K n x5 x7 Z → W p l e R s m args below meth c H locs 0 0 (zQl E K below args s) (F0 m 6 ls []) := by
    intro n
    induction n with
    | zero => intro x5 x7 Z H locs ls hG hl hw; exact hw.elim
    | succ n ih => intro x5 x7 Z H locs ls hG hl hw; exact S6 _ ih x5 x7 Z H locs ls hG hl hw
  unfold wX12_part at hw
  refine lv_lload_n hx hb dX12_part_0 rfl (lv_at hl 0 rfl) ?_
  refine lv_lstore (lv' := [(5, .long a1), (0, .long a1), (2, .long a2), (4, .int a3)]) hx hb dX12_part_1 hl (by decide) rfl (fun ls hl => ?_)
  refine lv_lload_n hx hb dX12_part_3 rfl (lv_at hl 2 rfl) ?_
  refine lv_lstore (lv' := [(7, .long a2), (5, .long a1), (0, .long a1), (2, .long a2), (4, .int a3)]) hx hb dX12_part_4 hl (by decide) rfl (fun ls hl => ?_)
  obtain ⟨n6, hw⟩ := hw
  exact J6 n6 a1 a2 Z _ _ _ hG (lv_sub hl [2, 3, 4, 1, 0] rfl) hw
theorem hS_yX12_part : yX12_part.cls ≠ "java/lang/invoke/MethodHandle" ∧ yX12_part.cls ≠ "java/lang/invoke/VarHandle" ∧ (parseMethodDescriptor yX12_part.desc).map (fun d => d.parameters.length) = some 3 := by decide +kernel
set_option maxHeartbeats 4000000 in
set_option maxRecDepth 100000 in
theorem kX12_breaks (l : Launch) (E : zE) (Z : zS) (a1 : Int32) (a2 : Int32) (a3 : Int32) (a4 : Int32) {K : Int64 → zS → Prop} (hw : wX12_breaks a1 a2 a3 a4 Z K) : zCl l yX12_breaks wsX12_breaks ({ frames := 5, cells := 0, slots := 0, locals := 108 } : Room) E Z [.ref (E.2.1 97), .int a1, .int a2, .int a3, .int a4] K := by
  refine z_bodyl (cc := cX12_breaks) (nL := 14) (by decide) rfl (Nat.le_of_ble_eq_true rfl) ?_
  intro p e R s m args below meth c ls hfr hlo hF hr hlk hG hl
  have hx := hF.1.1
  have hb := hF.1.2.1
  have hown := hF.1.2.2.2.1
  have hts := hF.1.2.2.2.2
  have in12 : ∀ w ∈ u_ws RX12 TX12 22, w ∈ wsX12_breaks := fun _ h => List.mem_cons_of_mem _ (List.mem_append_right _ h)
  have hl : lv_has ls 14 [(0, .ref (E.2.1 97)), (1, .int a1), (2, .int a2), (3, .int a3), (4, .int a4)] := hl
  have S81 : ∀ (L81 : Int64 → Int64 → Int32 → zS → Prop), (∀ (x5 : Int64) (x7 : Int64) (x9 : Int32) (Z : zS) (H : Heap) (locs : List Loc) (ls : Array Slot), zG E Z s H locs → lv_has ls 14 [(0, .ref (E.2.1 97)), (1, .int a1), (2, .int a2), (3, .int a3), (4, .int a4), (5, .long x5), (7, .long x7), (9, .int x9)] → L81 x5 x7 x9 Z → W p l e R s m args below meth c H locs 0 0 (zQl E K below args s) (F0 m 81 ls [])) → ∀ (x5 : Int64) (x7 : Int64) (x9 : Int32) (Z : zS) (H : Heap) (locs : List Loc) (ls : Array Slot), zG E Z s H locs → lv_has ls 14 [(0, .ref (E.2.1 97)), (1, .int a1), (2, .int a2), (3, .int a3), (4, .int a4), (5, .long x5), (7, .long x7), (9, .int x9)] → wX12_breaks_81b L81 a1 a2 a3 a4 x5 x7 x9 Z K → W p l e R s m args below meth c H locs 0 0 (zQl E K below args s) (F0 m 81 ls []) := by
    intro L81 ih81
    have J173 : ∀ (x5 : Int64) (x7 : Int64) (x9 : Int32) (Z : zS) (H : Heap) (locs : List Loc) (ls : Array Slot), zG E Z s H locs → lv_has ls 14 [(0, .ref (E.2.1 97)), (1, .int a1), (2, .int a2), (3, .int a3), (4, .int a4), (5, .long x5), (7, .long x7), (9, .int x9)] → wX12_breaks_173 L81 a1 a2 a3 a4 x5 x7 x9 Z K → W p l e R s m args below meth c H locs 0 0 (zQl E K below args s) (F0 m 173 ls []) := by
      intro x5 x7 x9 Z H locs ls hG hl hw
      unfold wX12_breaks_173 at hw
      refine lv_aload_n hx hb dX12_breaks_173 rfl (lv_at hl 0 rfl) ?_
      refine lv_aload_n hx hb dX12_breaks_174 rfl (lv_at hl 0 rfl) ?_
      refine z_get hF hG 97 (by decide) z_md rfl in12 10 (by decide) (List.mem_of_getElem? (i := 2) rfl) rfl rfl dX12_breaks_175 ?_
      refine z_cv (va_runV (rest := []) hF.1 (kX12_again l E Z 102 122 (by decide) (fun _ => z_m102) hw _) (cwV 1 hts gX12_breaks_X12_again rfl rfl rfl ⟨rfl, hS_yX12_again⟩ ⟨Nat.le_trans (Nat.le_of_ble_eq_true rfl) hfr, Nat.le_trans (Nat.le_of_ble_eq_true rfl) hlo⟩) (z_preV hF hG 97 (by decide) z_md rfl) rfl rfl hl.1 rfl (lv_room (Nat.le_of_ble_eq_true rfl)) dX12_breaks_178 ⟨Nat.zero_le _, Nat.zero_le _⟩) hG (fun Z36 H locs hw hG => ?_)
      obtain ⟨y37, ey37⟩ : ∃ y : Int32, y = x9 + 1 := ⟨_, rfl⟩
      replace hw := hw y37 ey37
      refine lv_iinc (v := y37) (lv' := [(9, .int y37), (0, .ref (E.2.1 97)), (1, .int a1), (2, .int a2), (3, .int a3), (4, .int a4), (5, .long x5), (7, .long x7)]) hx hb dX12_breaks_181 hl (k := 7) rfl (by rw [ey37]; rfl) (by decide) rfl (fun ls hl => ?_)
      refine lv_goto (tgt := 81) hx hb dX12_breaks_184 (by decide) ?_
      exact ih81 x5 x7 y37 Z36 _ _ _ hG (lv_sub hl [1, 2, 3, 4, 5, 6, 7, 0] rfl) hw
    have S95 : ∀ (L95 : Int64 → Int64 → Int32 → Int64 → Int32 → zS → Prop), (∀ (x5 : Int64) (x7 : Int64) (x9 : Int32) (x10 : Int64) (x12 : Int32) (Z : zS) (H : Heap) (locs : List Loc) (ls : Array Slot), zG E Z s H locs → lv_has ls 14 [(0, .ref (E.2.1 97)), (1, .int a1), (2, .int a2), (3, .int a3), (4, .int a4), (5, .long x5), (7, .long x7), (9, .int x9), (10, .long x10), (12, .int x12)] → L95 x5 x7 x9 x10 x12 Z → W p l e R s m args below meth c H locs 0 0 (zQl E K below args s) (F0 m 95 ls [])) → ∀ (x5 : Int64) (x7 : Int64) (x9 : Int32) (x10 : Int64) (x12 : Int32) (Z : zS) (H : Heap) (locs : List Loc) (ls : Array Slot), zG E Z s H locs → lv_has ls 14 [(0, .ref (E.2.1 97)), (1, .int a1), (2, .int a2), (3, .int a3), (4, .int a4), (5, .long x5), (7, .long x7), (9, .int x9), (10, .long x10), (12, .int x12)] → wX12_breaks_95b L81 L95 a1 a2 a3 a4 x5 x7 x9 x10 x12 Z K → W p l e R s m args below meth c H locs 0 0 (zQl E K below args s) (F0 m 95 ls []) := by
      intro L95 ih95
      have J133 : ∀ (x5 : Int64) (x7 : Int64) (x9 : Int32) (x10 : Int64) (x12 : Int32) (x13 : Int32) (Z : zS) (H : Heap) (locs : List Loc) (ls : Array Slot), zG E Z s H locs → lv_has ls 14 [(0, .ref (E.2.1 97)), (1, .int a1), (2, .int a2), (3, .int a3), (4, .int a4), (5, .long x5), (7, .long x7), (9, .int x9), (10, .long x10), (12, .int x12), (13, .int x13)] → wX12_breaks_133 L81 L95 a1 a2 a3 a4 x5 x7 x9 x10 x12 x13 Z K → W p l e R s m args below meth c H locs 0 0 (zQl E K below args s) (F0 m 133 ls []) := by
        intro x5 x7 x9 x10 x12 x13 Z H locs ls hG hl hw
        unfold wX12_breaks_133 at hw
        refine lv_aload_n hx hb dX12_breaks_133 rfl (lv_at hl 0 rfl) ?_
        refine lv_iload hx hb dX12_breaks_134 (lv_at hl 10 rfl) ?_
        refine z_cv (va_runV (rest := []) hF.1 (kX12_goesBy l E Z x13  hw _) (cwV 1 hts gX12_breaks_X12_goesBy rfl rfl rfl ⟨rfl, hS_yX12_goesBy⟩ ⟨Nat.le_trans (Nat.le_of_ble_eq_true rfl) hfr, Nat.le_trans (Nat.le_of_ble_eq_true rfl) hlo⟩) (z_preV hF hG 97 (by decide) z_md rfl) rfl rfl hl.1 rfl (lv_room (Nat.le_of_ble_eq_true rfl)) dX12_breaks_136 ⟨Nat.zero_le _, Nat.zero_le _⟩) hG (fun Z34 H locs hw hG => ?_)
        obtain ⟨y35, ey35⟩ : ∃ y : Int32, y = x12 + 1 := ⟨_, rfl⟩
        replace hw := hw y35 ey35
        refine lv_iinc (v := y35) (lv' := [(12, .int y35), (0, .ref (E.2.1 97)), (1, .int a1), (2, .int a2), (3, .int a3), (4, .int a4), (5, .long x5), (7, .long x7), (9, .int x9), (10, .long x10), (13, .int x13)]) hx hb dX12_breaks_139 hl (k := 9) rfl (by rw [ey35]; rfl) (by decide) rfl (fun ls hl => ?_)
        refine lv_goto (tgt := 95) hx hb dX12_breaks_142 (by decide) ?_
        exact ih95 x5 x7 x9 x10 y35 Z34 _ _ _ hG (lv_sub hl [1, 2, 3, 4, 5, 6, 7, 8, 9, 0] rfl) hw
      have J117 : ∀ (x5 : Int64) (x7 : Int64) (x9 : Int32) (x10 : Int64) (x12 : Int32) (s0 : Int32) (Z : zS) (H : Heap) (locs : List Loc) (ls : Array Slot), zG E Z s H locs → lv_has ls 14 [(0, .ref (E.2.1 97)), (1, .int a1), (2, .int a2), (3, .int a3), (4, .int a4), (5, .long x5), (7, .long x7), (9, .int x9), (10, .long x10), (12, .int x12)] → wX12_breaks_117 L81 L95 a1 a2 a3 a4 x5 x7 x9 x10 x12 s0 Z K → W p l e R s m args below meth c H locs 0 0 (zQl E K below args s) (F0 m 117 ls [.int s0]) := by
        intro x5 x7 x9 x10 x12 s0 Z H locs ls hG hl hw
        unfold wX12_breaks_117 at hw
        refine lv_istore (lv' := [(13, .int s0), (0, .ref (E.2.1 97)), (1, .int a1), (2, .int a2), (3, .int a3), (4, .int a4), (5, .long x5), (7, .long x7), (9, .int x9), (10, .long x10), (12, .int x12)]) hx hb dX12_breaks_117 hl (by decide) rfl (fun ls hl => ?_)
        refine lv_iload hx hb dX12_breaks_119 (lv_at hl 0 rfl) ?_
        refine lv_if_ne (tgt := 133) hx hb dX12_breaks_121 (by decide) (fun c32 => ?_) (fun c32 => ?_)
        · replace hw := hw.1 c32
          exact J133 x5 x7 x9 x10 x12 s0 Z _ _ _ hG (lv_sub hl [1, 2, 3, 4, 5, 6, 7, 8, 9, 10, 0] rfl) hw
        replace hw := hw.2 (fun h => h c32)
        refine lv_lload hx hb dX12_breaks_124 (lv_at hl 9 rfl) ?_
        refine lv_iload_n hx hb dX12_breaks_126 rfl (lv_at hl 4 rfl) ?_
        refine lv_iconst (v := 1) hx hb dX12_breaks_127 (by decide) ?_
        refine lv_isub hx hb dX12_breaks_128 ?_
        refine lv_i2l hx hb dX12_breaks_129 rfl ?_
        refine lv_lmul hx hb dX12_breaks_130 ?_
        refine lv_topl (fun y33 ey33 => ?_)
        replace hw := hw y33 ey33
        refine lv_lstore (lv' := [(10, .long y33), (13, .int s0), (0, .ref (E.2.1 97)), (1, .int a1), (2, .int a2), (3, .int a3), (4, .int a4), (5, .long x5), (7, .long x7), (9, .int x9), (12, .int x12)]) hx hb dX12_breaks_131 hl (by decide) rfl (fun ls hl => ?_)
        exact J133 x5 x7 x9 y33 x12 s0 Z _ _ _ hG (lv_sub hl [2, 3, 4, 5, 6, 7, 8, 9, 0, 10, 1] rfl) hw
      intro x5 x7 x9 x10 x12 Z H locs ls hG hl hw
      unfold wX12_breaks_95b at hw
      refine lv_iload hx hb dX12_breaks_95 (lv_at hl 9 rfl) ?_
      refine lv_iload_n hx hb dX12_breaks_97 rfl (lv_at hl 2 rfl) ?_
      refine lv_icmp_ge (tgt := 145) hx hb dX12_breaks_98 (by decide) (fun c26 => ?_) (fun c26 => ?_)
      · replace hw := hw.1 c26
        refine lv_aload_n hx hb dX12_breaks_145 rfl (lv_at hl 0 rfl) ?_
        refine z_get hF hG 97 (by decide) z_md rfl in12 2 (by decide) (List.mem_of_getElem? (i := 3) rfl) rfl rfl dX12_breaks_146 ?_
        refine lv_bipush (v := 48) hx hb dX12_breaks_149 (by decide) ?_
        refine lv_iload_n hx hb dX12_breaks_151 rfl (lv_at hl 1 rfl) ?_
        refine lv_iadd hx hb dX12_breaks_152 ?_
        obtain ⟨q27, hw⟩ := hw
        refine z_iald hF hG 98 (by decide) z_m98 q27 dX12_breaks_153 ?_
        refine lv_aload_n hx hb dX12_breaks_154 rfl (lv_at hl 0 rfl) ?_
        refine z_get hF hG 97 (by decide) z_md rfl in12 10 (by decide) (List.mem_of_getElem? (i := 2) rfl) rfl rfl dX12_breaks_155 ?_
        refine lv_bipush (v := 48) hx hb dX12_breaks_158 (by decide) ?_
        refine lv_iload_n hx hb dX12_breaks_160 rfl (lv_at hl 1 rfl) ?_
        refine lv_iadd hx hb dX12_breaks_161 ?_
        obtain ⟨q28, hw⟩ := hw
        refine z_iald hF hG 102 (by decide) z_m102 q28 dX12_breaks_162 ?_
        refine lv_icmp_le (tgt := 173) hx hb dX12_breaks_163 (by decide) (fun c29 => ?_) (fun c29 => ?_)
        · replace hw := hw.1 c29
          exact J173 x5 x7 x9 Z _ _ _ hG (lv_sub hl [0, 1, 2, 3, 4, 5, 6, 7] rfl) hw
        replace hw := hw.2 c29
        refine lv_lload hx hb dX12_breaks_166 (lv_at hl 5 rfl) ?_
        refine lv_lload hx hb dX12_breaks_168 (lv_at hl 8 rfl) ?_
        refine lv_ladd hx hb dX12_breaks_170 ?_
        refine lv_topl (fun y30 ey30 => ?_)
        replace hw := hw y30 ey30
        refine lv_lstore (lv' := [(5, .long y30), (0, .ref (E.2.1 97)), (1, .int a1), (2, .int a2), (3, .int a3), (4, .int a4), (7, .long x7), (9, .int x9), (10, .long x10), (12, .int x12)]) hx hb dX12_breaks_171 hl (by decide) rfl (fun ls hl => ?_)
        exact J173 y30 x7 x9 Z _ _ _ hG (lv_sub hl [1, 2, 3, 4, 5, 0, 6, 7] rfl) hw
      replace hw := hw.2 c26
      refine lv_iload hx hb dX12_breaks_101 (lv_at hl 7 rfl) ?_
      refine lv_iload hx hb dX12_breaks_103 (lv_at hl 9 rfl) ?_
      refine lv_ishr hx hb dX12_breaks_105 ?_
      refine lv_iconst (v := 1) hx hb dX12_breaks_106 (by decide) ?_
      refine lv_iand hx hb dX12_breaks_107 ?_
      refine lv_iconst (v := 1) hx hb dX12_breaks_108 (by decide) ?_
      refine lv_icmp_ne (tgt := 116) hx hb dX12_breaks_109 (by decide) (fun c31 => ?_) (fun c31 => ?_)
      · replace hw := hw.1 c31
        refine lv_iconst (v := 0) hx hb dX12_breaks_116 (by decide) ?_
        exact J117 x5 x7 x9 x10 x12 0 Z _ _ _ hG (lv_sub hl [0, 1, 2, 3, 4, 5, 6, 7, 8, 9] rfl) hw
      replace hw := hw.2 (fun h => h c31)
      refine lv_iconst (v := 1) hx hb dX12_breaks_112 (by decide) ?_
      refine lv_goto (tgt := 117) hx hb dX12_breaks_113 (by decide) ?_
      exact J117 x5 x7 x9 x10 x12 1 Z _ _ _ hG (lv_sub hl [0, 1, 2, 3, 4, 5, 6, 7, 8, 9] rfl) hw
    have J95 : ∀ n : Nat, ∀ (x5 : Int64) (x7 : Int64) (x9 : Int32) (x10 : Int64) (x12 : Int32) (Z : zS) (H : Heap) (locs : List Loc) (ls : Array Slot), zG E Z s H locs → lv_has ls 14 [(0, .ref (E.2.1 97)), (1, .int a1), (2, .int a2), (3, .int a3), (4, .int a4), (5, .long x5), (7, .long x7), (9, .int x9), (10, .long x10), (12, .int x12)] → wX12_breaks_95 L81 a1 a2 a3 a4 K n x5 x7 x9 x10 x12 Z → W p l e R s m args below meth c H locs 0 0 (zQl E K below args s) (F0 m 95 ls []) := by
      intro n
      induction n with
      | zero => intro x5 x7 x9 x10 x12 Z H locs ls hG hl hw; exact hw.elim
      | succ n ih => intro x5 x7 x9 x10 x12 Z H locs ls hG hl hw; exact S95 _ ih x5 x7 x9 x10 x12 Z H locs ls hG hl hw
    intro x5 x7 x9 Z H locs ls hG hl hw
    unfold wX12_breaks_81b at hw
    refine lv_iload hx hb dX12_breaks_81 (lv_at hl 7 rfl) ?_
    refine lv_iconst (v := 1) hx hb dX12_breaks_83 (by decide) ?_
    refine lv_iload_n hx hb dX12_breaks_84 rfl (lv_at hl 2 rfl) ?_
    refine lv_ishl hx hb dX12_breaks_85 ?_
    refine lv_icmp_ge (tgt := 187) hx hb dX12_breaks_86 (by decide) (fun c21 => ?_) (fun c21 => ?_)
    · replace hw := hw.1 c21
      refine lv_lload hx hb dX12_breaks_187 (lv_at hl 5 rfl) ?_
      refine lv_lload hx hb dX12_breaks_189 (lv_at hl 6 rfl) ?_
      refine lv_iload hx hb dX12_breaks_191 (lv_at hl 4 rfl) ?_
      refine z_cl (va_runS (rest := []) hF.1 (kX12_part l E Z x5 x7 a4  hw _) (va_cwS 3 hts gX12_breaks_X12_part rfl rfl rfl hS_yX12_part ⟨Nat.le_trans (Nat.le_of_ble_eq_true rfl) hfr, Nat.le_trans (Nat.le_of_ble_eq_true rfl) hlo⟩) (z_preS hF hG) rfl rfl hl.1 rfl (lv_room (Nat.le_of_ble_eq_true rfl)) dX12_breaks_193 ⟨Nat.zero_le _, Nat.zero_le _⟩) hG (fun r23 Z22 H locs hw hG => ?_)
      exact z_lret hF hG hr hlk hw dX12_breaks_196
    replace hw := hw.2 c21
    refine lv_lconst (v := 1) hx hb dX12_breaks_89 rfl ?_
    refine lv_topl (fun y24 ey24 => ?_)
    replace hw := hw y24 ey24
    refine lv_lstore (lv' := [(10, .long y24), (0, .ref (E.2.1 97)), (1, .int a1), (2, .int a2), (3, .int a3), (4, .int a4), (5, .long x5), (7, .long x7), (9, .int x9)]) hx hb dX12_breaks_90 hl (by decide) rfl (fun ls hl => ?_)
    refine lv_iconst (v := 0) hx hb dX12_breaks_92 (by decide) ?_
    refine lv_topi (fun y25 ey25 => ?_)
    replace hw := hw y25 ey25
    refine lv_istore (lv' := [(12, .int y25), (10, .long y24), (0, .ref (E.2.1 97)), (1, .int a1), (2, .int a2), (3, .int a3), (4, .int a4), (5, .long x5), (7, .long x7), (9, .int x9)]) hx hb dX12_breaks_93 hl (by decide) rfl (fun ls hl => ?_)
    obtain ⟨n95, hw⟩ := hw
    exact J95 n95 x5 x7 x9 y24 y25 Z _ _ _ hG (lv_sub hl [2, 3, 4, 5, 6, 7, 8, 9, 1, 0] rfl) hw
  have J81 : ∀ n : Nat, ∀ (x5 : Int64) (x7 : Int64) (x9 : Int32) (Z : zS) (H : Heap) (locs : List Loc) (ls : Array Slot), zG E Z s H locs → lv_has ls 14 [(0, .ref (E.2.1 97)), (1, .int a1), (2, .int a2), (3, .int a3), (4, .int a4), (5, .long x5), (7, .long x7), (9, .int x9)] → wX12_breaks_81 a1 a2 a3 a4 K n x5 x7 x9 Z → W p l e R s m args below meth c H locs 0 0 (zQl E K below args s) (F0 m 81 ls []) := by
    intro n
    induction n with
    | zero => intro x5 x7 x9 Z H locs ls hG hl hw; exact hw.elim
    | succ n ih => intro x5 x7 x9 Z H locs ls hG hl hw; exact S81 _ ih x5 x7 x9 Z H locs ls hG hl hw
  have S59 : ∀ (L59 : Int64 → Int64 → Int32 → zS → Prop), (∀ (x5 : Int64) (x7 : Int64) (x9 : Int32) (Z : zS) (H : Heap) (locs : List Loc) (ls : Array Slot), zG E Z s H locs → lv_has ls 14 [(0, .ref (E.2.1 97)), (1, .int a1), (2, .int a2), (3, .int a3), (4, .int a4), (5, .long x5), (7, .long x7), (9, .int x9)] → L59 x5 x7 x9 Z → W p l e R s m args below meth c H locs 0 0 (zQl E K below args s) (F0 m 59 ls [])) → ∀ (x5 : Int64) (x7 : Int64) (x9 : Int32) (Z : zS) (H : Heap) (locs : List Loc) (ls : Array Slot), zG E Z s H locs → lv_has ls 14 [(0, .ref (E.2.1 97)), (1, .int a1), (2, .int a2), (3, .int a3), (4, .int a4), (5, .long x5), (7, .long x7), (9, .int x9)] → wX12_breaks_59b L59 a1 a2 a3 a4 x5 x7 x9 Z K → W p l e R s m args below meth c H locs 0 0 (zQl E K below args s) (F0 m 59 ls []) := by
    intro L59 ih59
    intro x5 x7 x9 Z H locs ls hG hl hw
    unfold wX12_breaks_59b at hw
    refine lv_iload hx hb dX12_breaks_59 (lv_at hl 7 rfl) ?_
    refine lv_iload_n hx hb dX12_breaks_61 rfl (lv_at hl 2 rfl) ?_
    refine lv_icmp_ge (tgt := 78) hx hb dX12_breaks_62 (by decide) (fun c17 => ?_) (fun c17 => ?_)
    · replace hw := hw.1 c17
      refine lv_iconst (v := 0) hx hb dX12_breaks_78 (by decide) ?_
      refine lv_topi (fun y18 ey18 => ?_)
      replace hw := hw y18 ey18
      refine lv_istore (lv' := [(9, .int y18), (0, .ref (E.2.1 97)), (1, .int a1), (2, .int a2), (3, .int a3), (4, .int a4), (5, .long x5), (7, .long x7)]) hx hb dX12_breaks_79 hl (by decide) rfl (fun ls hl => ?_)
      obtain ⟨n81, hw⟩ := hw
      exact J81 n81 x5 x7 y18 Z _ _ _ hG (lv_sub hl [1, 2, 3, 4, 5, 6, 7, 0] rfl) hw
    replace hw := hw.2 c17
    refine lv_lload hx hb dX12_breaks_65 (lv_at hl 6 rfl) ?_
    refine lv_iload_n hx hb dX12_breaks_67 rfl (lv_at hl 3 rfl) ?_
    refine lv_i2l hx hb dX12_breaks_68 rfl ?_
    refine lv_lmul hx hb dX12_breaks_69 ?_
    refine lv_topl (fun y19 ey19 => ?_)
    replace hw := hw y19 ey19
    refine lv_lstore (lv' := [(7, .long y19), (0, .ref (E.2.1 97)), (1, .int a1), (2, .int a2), (3, .int a3), (4, .int a4), (5, .long x5), (9, .int x9)]) hx hb dX12_breaks_70 hl (by decide) rfl (fun ls hl => ?_)
    obtain ⟨y20, ey20⟩ : ∃ y : Int32, y = x9 + 1 := ⟨_, rfl⟩
    replace hw := hw y20 ey20
    refine lv_iinc (v := y20) (lv' := [(9, .int y20), (7, .long y19), (0, .ref (E.2.1 97)), (1, .int a1), (2, .int a2), (3, .int a3), (4, .int a4), (5, .long x5)]) hx hb dX12_breaks_72 hl (k := 7) rfl (by rw [ey20]; rfl) (by decide) rfl (fun ls hl => ?_)
    refine lv_goto (tgt := 59) hx hb dX12_breaks_75 (by decide) ?_
    exact ih59 x5 y19 y20 Z _ _ _ hG (lv_sub hl [2, 3, 4, 5, 6, 7, 1, 0] rfl) hw
  have J59 : ∀ n : Nat, ∀ (x5 : Int64) (x7 : Int64) (x9 : Int32) (Z : zS) (H : Heap) (locs : List Loc) (ls : Array Slot), zG E Z s H locs → lv_has ls 14 [(0, .ref (E.2.1 97)), (1, .int a1), (2, .int a2), (3, .int a3), (4, .int a4), (5, .long x5), (7, .long x7), (9, .int x9)] → wX12_breaks_59 a1 a2 a3 a4 K n x5 x7 x9 Z → W p l e R s m args below meth c H locs 0 0 (zQl E K below args s) (F0 m 59 ls []) := by
    intro n
    induction n with
    | zero => intro x5 x7 x9 Z H locs ls hG hl hw; exact hw.elim
    | succ n ih => intro x5 x7 x9 Z H locs ls hG hl hw; exact S59 _ ih x5 x7 x9 Z H locs ls hG hl hw
  unfold wX12_breaks at hw
  refine lv_aload_n hx hb dX12_breaks_0 rfl (lv_at hl 0 rfl) ?_
  refine lv_iload_n hx hb dX12_breaks_1 rfl (lv_at hl 1 rfl) ?_
  refine z_ci (va_runV (rest := []) hF.1 (kX12_isServer l E Z a1  hw _) (cwV 1 hts gX12_breaks_X12_isServer rfl rfl rfl ⟨rfl, hS_yX12_isServer⟩ ⟨Nat.le_trans (Nat.le_of_ble_eq_true rfl) hfr, Nat.le_trans (Nat.le_of_ble_eq_true rfl) hlo⟩) (z_preV hF hG 97 (by decide) z_md rfl) rfl rfl hl.1 rfl (lv_room (Nat.le_of_ble_eq_true rfl)) dX12_breaks_2 ⟨Nat.zero_le _, Nat.zero_le _⟩) hG (fun r2 Z1 H locs hw hG => ?_)
  refine lv_if_eq (tgt := 38) hx hb dX12_breaks_5 (by decide) (fun c3 => ?_) (fun c3 => ?_)
  · replace hw := hw.1 c3
    refine lv_ldc2 hx hb hown (hts (.constantLong RX12 227 (-9223372036854775707)) (List.mem_of_getElem? (i := 1) rfl)) dX12_breaks_38 ?_
    exact z_lret hF hG hr hlk hw dX12_breaks_41
  replace hw := hw.2 c3
  refine lv_iload_n hx hb dX12_breaks_8 rfl (lv_at hl 2 rfl) ?_
  refine lv_iconst (v := 0) hx hb dX12_breaks_9 (by decide) ?_
  refine lv_bipush (v := 7) hx hb dX12_breaks_10 (by decide) ?_
  refine z_ci (va_runS (rest := []) hF.1 (kX12_within l E Z1 a2 0 7  hw _) (va_cwS 3 hts gX12_breaks_X12_within rfl rfl rfl hS_yX12_within ⟨Nat.le_trans (Nat.le_of_ble_eq_true rfl) hfr, Nat.le_trans (Nat.le_of_ble_eq_true rfl) hlo⟩) (z_preS hF hG) rfl rfl hl.1 rfl (lv_room (Nat.le_of_ble_eq_true rfl)) dX12_breaks_12 ⟨Nat.zero_le _, Nat.zero_le _⟩) hG (fun r5 Z4 H locs hw hG => ?_)
  refine lv_if_eq (tgt := 38) hx hb dX12_breaks_15 (by decide) (fun c6 => ?_) (fun c6 => ?_)
  · replace hw := hw.1 c6
    refine lv_ldc2 hx hb hown (hts (.constantLong RX12 227 (-9223372036854775707)) (List.mem_of_getElem? (i := 1) rfl)) dX12_breaks_38 ?_
    exact z_lret hF hG hr hlk hw dX12_breaks_41
  replace hw := hw.2 c6
  refine lv_iload_n hx hb dX12_breaks_18 rfl (lv_at hl 3 rfl) ?_
  refine lv_iconst (v := 2) hx hb dX12_breaks_19 (by decide) ?_
  refine lv_bipush (v := 20) hx hb dX12_breaks_20 (by decide) ?_
  refine z_ci (va_runS (rest := []) hF.1 (kX12_within l E Z4 a3 2 20  hw _) (va_cwS 3 hts gX12_breaks_X12_within rfl rfl rfl hS_yX12_within ⟨Nat.le_trans (Nat.le_of_ble_eq_true rfl) hfr, Nat.le_trans (Nat.le_of_ble_eq_true rfl) hlo⟩) (z_preS hF hG) rfl rfl hl.1 rfl (lv_room (Nat.le_of_ble_eq_true rfl)) dX12_breaks_22 ⟨Nat.zero_le _, Nat.zero_le _⟩) hG (fun r8 Z7 H locs hw hG => ?_)
  refine lv_if_eq (tgt := 38) hx hb dX12_breaks_25 (by decide) (fun c9 => ?_) (fun c9 => ?_)
  · replace hw := hw.1 c9
    refine lv_ldc2 hx hb hown (hts (.constantLong RX12 227 (-9223372036854775707)) (List.mem_of_getElem? (i := 1) rfl)) dX12_breaks_38 ?_
    exact z_lret hF hG hr hlk hw dX12_breaks_41
  replace hw := hw.2 c9
  refine lv_iload hx hb dX12_breaks_28 (lv_at hl 4 rfl) ?_
  refine lv_iconst (v := 0) hx hb dX12_breaks_30 (by decide) ?_
  refine lv_iconst (v := 1) hx hb dX12_breaks_31 (by decide) ?_
  refine z_ci (va_runS (rest := []) hF.1 (kX12_within l E Z7 a4 0 1  hw _) (va_cwS 3 hts gX12_breaks_X12_within rfl rfl rfl hS_yX12_within ⟨Nat.le_trans (Nat.le_of_ble_eq_true rfl) hfr, Nat.le_trans (Nat.le_of_ble_eq_true rfl) hlo⟩) (z_preS hF hG) rfl rfl hl.1 rfl (lv_room (Nat.le_of_ble_eq_true rfl)) dX12_breaks_32 ⟨Nat.zero_le _, Nat.zero_le _⟩) hG (fun r11 Z10 H locs hw hG => ?_)
  refine lv_if_ne (tgt := 42) hx hb dX12_breaks_35 (by decide) (fun c12 => ?_) (fun c12 => ?_)
  · replace hw := hw.1 c12
    refine lv_aload_n hx hb dX12_breaks_42 rfl (lv_at hl 0 rfl) ?_
    refine lv_aload_n hx hb dX12_breaks_43 rfl (lv_at hl 0 rfl) ?_
    refine z_get hF hG 97 (by decide) z_md rfl in12 10 (by decide) (List.mem_of_getElem? (i := 2) rfl) rfl rfl dX12_breaks_44 ?_
    refine z_cv (va_runV (rest := []) hF.1 (kX12_keep l E Z10 102 122 (by decide) (fun _ => z_m102) hw _) (cwV 1 hts gX12_breaks_X12_keep rfl rfl rfl ⟨rfl, hS_yX12_keep⟩ ⟨Nat.le_trans (Nat.le_of_ble_eq_true rfl) hfr, Nat.le_trans (Nat.le_of_ble_eq_true rfl) hlo⟩) (z_preV hF hG 97 (by decide) z_md rfl) rfl rfl hl.1 rfl (lv_room (Nat.le_of_ble_eq_true rfl)) dX12_breaks_47 ⟨Nat.zero_le _, Nat.zero_le _⟩) hG (fun Z13 H locs hw hG => ?_)
    refine lv_lconst (v := 0) hx hb dX12_breaks_50 rfl ?_
    refine lv_topl (fun y14 ey14 => ?_)
    replace hw := hw y14 ey14
    refine lv_lstore (lv' := [(5, .long y14), (0, .ref (E.2.1 97)), (1, .int a1), (2, .int a2), (3, .int a3), (4, .int a4)]) hx hb dX12_breaks_51 hl (by decide) rfl (fun ls hl => ?_)
    refine lv_lconst (v := 1) hx hb dX12_breaks_53 rfl ?_
    refine lv_topl (fun y15 ey15 => ?_)
    replace hw := hw y15 ey15
    refine lv_lstore (lv' := [(7, .long y15), (5, .long y14), (0, .ref (E.2.1 97)), (1, .int a1), (2, .int a2), (3, .int a3), (4, .int a4)]) hx hb dX12_breaks_54 hl (by decide) rfl (fun ls hl => ?_)
    refine lv_iconst (v := 0) hx hb dX12_breaks_56 (by decide) ?_
    refine lv_topi (fun y16 ey16 => ?_)
    replace hw := hw y16 ey16
    refine lv_istore (lv' := [(9, .int y16), (7, .long y15), (5, .long y14), (0, .ref (E.2.1 97)), (1, .int a1), (2, .int a2), (3, .int a3), (4, .int a4)]) hx hb dX12_breaks_57 hl (by decide) rfl (fun ls hl => ?_)
    obtain ⟨n59, hw⟩ := hw
    exact J59 n59 y14 y15 y16 Z13 _ _ _ hG (lv_sub hl [3, 4, 5, 6, 7, 2, 1, 0] rfl) hw
  replace hw := hw.2 (fun h => h c12)
  refine lv_ldc2 hx hb hown (hts (.constantLong RX12 227 (-9223372036854775707)) (List.mem_of_getElem? (i := 1) rfl)) dX12_breaks_38 ?_
  exact z_lret hF hG hr hlk hw dX12_breaks_41
set_option maxHeartbeats 4000000 in
set_option maxRecDepth 100000 in
theorem kX12_share_ (l : Launch) (E : zE) (Z : zS) (a1 : Int32) (a2 : Int32) {K : Int64 → zS → Prop} (hw : wX12_share_ a1 a2 Z K) : zCl l yX12_share_ wsX12_share_ ({ frames := 2, cells := 0, slots := 0, locals := 43 } : Room) E Z [.ref (E.2.1 97), .int a1, .int a2] K := by
  refine z_bodyl (cc := cX12_share_) (nL := 4) (by decide) rfl (Nat.le_of_ble_eq_true rfl) ?_
  intro p e R s m args below meth c ls hfr hlo hF hr hlk hG hl
  have hx := hF.1.1
  have hb := hF.1.2.1
  have hown := hF.1.2.2.2.1
  have hts := hF.1.2.2.2.2
  have in12 : ∀ w ∈ u_ws RX12 TX12 22, w ∈ wsX12_share_ := fun _ h => List.mem_cons_of_mem _ (List.mem_append_right _ h)
  have hl : lv_has ls 4 [(0, .ref (E.2.1 97)), (1, .int a1), (2, .int a2)] := hl
  have J57 : ∀ (x3 : Int32) (s0 : Int64) (Z : zS) (H : Heap) (locs : List Loc) (ls : Array Slot), zG E Z s H locs → lv_has ls 4 [(2, .int a2), (3, .int x3)] → wX12_share__57 a1 a2 x3 s0 Z K → W p l e R s m args below meth c H locs 0 0 (zQl E K below args s) (F0 m 57 ls [.long s0]) := by
    intro x3 s0 Z H locs ls hG hl hw
    unfold wX12_share__57 at hw
    refine lv_iload_n hx hb dX12_share__57 rfl (lv_at hl 1 rfl) ?_
    refine lv_i2l hx hb dX12_share__58 rfl ?_
    refine lv_iload_n hx hb dX12_share__59 rfl (lv_at hl 0 rfl) ?_
    refine z_cl (va_runS (rest := []) hF.1 (kX12_part l E Z s0 ((Int32.toInt64 x3)) a2  hw _) (va_cwS 3 hts gX12_share__X12_part rfl rfl rfl hS_yX12_part ⟨Nat.le_trans (Nat.le_of_ble_eq_true rfl) hfr, Nat.le_trans (Nat.le_of_ble_eq_true rfl) hlo⟩) (z_preS hF hG) rfl rfl hl.1 rfl (lv_room (Nat.le_of_ble_eq_true rfl)) dX12_share__60 ⟨Nat.zero_le _, Nat.zero_le _⟩) hG (fun r15 Z14 H locs hw hG => ?_)
    exact z_lret hF hG hr hlk hw dX12_share__63
  unfold wX12_share_ at hw
  refine lv_aload_n hx hb dX12_share__0 rfl (lv_at hl 0 rfl) ?_
  refine lv_iload_n hx hb dX12_share__1 rfl (lv_at hl 1 rfl) ?_
  refine z_ci (va_runV (rest := []) hF.1 (kX12_isServer l E Z a1  hw _) (cwV 1 hts gX12_share__X12_isServer rfl rfl rfl ⟨rfl, hS_yX12_isServer⟩ ⟨Nat.le_trans (Nat.le_of_ble_eq_true rfl) hfr, Nat.le_trans (Nat.le_of_ble_eq_true rfl) hlo⟩) (z_preV hF hG 97 (by decide) z_md rfl) rfl rfl hl.1 rfl (lv_room (Nat.le_of_ble_eq_true rfl)) dX12_share__2 ⟨Nat.zero_le _, Nat.zero_le _⟩) hG (fun r2 Z1 H locs hw hG => ?_)
  refine lv_if_eq (tgt := 17) hx hb dX12_share__5 (by decide) (fun c3 => ?_) (fun c3 => ?_)
  · replace hw := hw.1 c3
    refine lv_ldc2 hx hb hown (hts (.constantLong RX12 227 (-9223372036854775707)) (List.mem_of_getElem? (i := 1) rfl)) dX12_share__17 ?_
    exact z_lret hF hG hr hlk hw dX12_share__20
  replace hw := hw.2 c3
  refine lv_iload_n hx hb dX12_share__8 rfl (lv_at hl 2 rfl) ?_
  refine lv_iconst (v := 0) hx hb dX12_share__9 (by decide) ?_
  refine lv_iconst (v := 1) hx hb dX12_share__10 (by decide) ?_
  refine z_ci (va_runS (rest := []) hF.1 (kX12_within l E Z1 a2 0 1  hw _) (va_cwS 3 hts gX12_share__X12_within rfl rfl rfl hS_yX12_within ⟨Nat.le_trans (Nat.le_of_ble_eq_true rfl) hfr, Nat.le_trans (Nat.le_of_ble_eq_true rfl) hlo⟩) (z_preS hF hG) rfl rfl hl.1 rfl (lv_room (Nat.le_of_ble_eq_true rfl)) dX12_share__11 ⟨Nat.zero_le _, Nat.zero_le _⟩) hG (fun r5 Z4 H locs hw hG => ?_)
  refine lv_if_ne (tgt := 21) hx hb dX12_share__14 (by decide) (fun c6 => ?_) (fun c6 => ?_)
  · replace hw := hw.1 c6
    refine lv_aload_n hx hb dX12_share__21 rfl (lv_at hl 0 rfl) ?_
    refine z_ci (va_runV (rest := []) hF.1 (kX12_load l E Z4   hw _) (cwV 0 hts gX12_share__X12_load rfl rfl rfl ⟨rfl, hS_yX12_load⟩ ⟨Nat.le_trans (Nat.le_of_ble_eq_true rfl) hfr, Nat.le_trans (Nat.le_of_ble_eq_true rfl) hlo⟩) (z_preV hF hG 97 (by decide) z_md rfl) rfl rfl hl.1 rfl (lv_room (Nat.le_of_ble_eq_true rfl)) dX12_share__22 ⟨Nat.zero_le _, Nat.zero_le _⟩) hG (fun r8 Z7 H locs hw hG => ?_)
    refine lv_istore_n (lv' := [(3, .int r8), (0, .ref (E.2.1 97)), (1, .int a1), (2, .int a2)]) hx hb dX12_share__25 rfl hl (by decide) rfl (fun ls hl => ?_)
    refine lv_iload_n hx hb dX12_share__26 rfl (lv_at hl 0 rfl) ?_
    refine lv_if_ne (tgt := 35) hx hb dX12_share__27 (by decide) (fun c9 => ?_) (fun c9 => ?_)
    · replace hw := hw.1 c9
      refine lv_aload_n hx hb dX12_share__35 rfl (lv_at hl 1 rfl) ?_
      refine z_get hF hG 97 (by decide) z_md rfl in12 2 (by decide) (List.mem_of_getElem? (i := 2) rfl) rfl rfl dX12_share__36 ?_
      refine lv_bipush (v := 36) hx hb dX12_share__39 (by decide) ?_
      refine lv_iload_n hx hb dX12_share__41 rfl (lv_at hl 2 rfl) ?_
      refine lv_iadd hx hb dX12_share__42 ?_
      obtain ⟨q10, hw⟩ := hw
      refine z_iald hF hG 98 (by decide) z_m98 q10 dX12_share__43 ?_
      refine lv_if_ne (tgt := 51) hx hb dX12_share__44 (by decide) (fun c11 => ?_) (fun c11 => ?_)
      · replace hw := hw.1 c11
        refine lv_aload_n hx hb dX12_share__51 rfl (lv_at hl 1 rfl) ?_
        refine lv_iload_n hx hb dX12_share__52 rfl (lv_at hl 2 rfl) ?_
        refine z_ci (va_runV (rest := []) hF.1 (kX12_share l E Z7 a1  hw _) (cwV 1 hts gX12_share__X12_share rfl rfl rfl ⟨rfl, hS_yX12_share⟩ ⟨Nat.le_trans (Nat.le_of_ble_eq_true rfl) hfr, Nat.le_trans (Nat.le_of_ble_eq_true rfl) hlo⟩) (z_preV hF hG 97 (by decide) z_md rfl) rfl rfl hl.1 rfl (lv_room (Nat.le_of_ble_eq_true rfl)) dX12_share__53 ⟨Nat.zero_le _, Nat.zero_le _⟩) hG (fun r13 Z12 H locs hw hG => ?_)
        refine lv_i2l hx hb dX12_share__56 rfl ?_
        exact J57 r8 ((Int32.toInt64 r13)) Z12 _ _ _ hG (lv_sub hl [3, 0] rfl) hw
      replace hw := hw.2 (fun h => h c11)
      refine lv_lconst (v := 0) hx hb dX12_share__47 rfl ?_
      refine lv_goto (tgt := 57) hx hb dX12_share__48 (by decide) ?_
      exact J57 r8 0 Z7 _ _ _ hG (lv_sub hl [3, 0] rfl) hw
    replace hw := hw.2 (fun h => h c9)
    refine lv_iload_n hx hb dX12_share__30 rfl (lv_at hl 3 rfl) ?_
    refine lv_i2l hx hb dX12_share__31 rfl ?_
    refine lv_goto (tgt := 63) hx hb dX12_share__32 (by decide) ?_
    exact z_lret hF hG hr hlk hw dX12_share__63
  replace hw := hw.2 (fun h => h c6)
  refine lv_ldc2 hx hb hown (hts (.constantLong RX12 227 (-9223372036854775707)) (List.mem_of_getElem? (i := 1) rfl)) dX12_share__17 ?_
  exact z_lret hF hG hr hlk hw dX12_share__20
set_option maxHeartbeats 4000000 in
set_option maxRecDepth 100000 in
theorem kX12_quotient (l : Launch) (E : zE) (Z : zS) (a1 : Int64) (a2 : Int64) (a3 : Int32) {K : Int64 → zS → Prop} (hw : wX12_quotient a1 a2 a3 Z K) : zCl l yX12_quotient wsX12_quotient ({ frames := 0, cells := 0, slots := 0, locals := 0 } : Room) E Z [.ref (E.2.1 97), .long a1, .long a2, .int a3] K := by
  refine z_bodyl (cc := cX12_quotient) (nL := 13) (by decide) rfl (Nat.le_of_ble_eq_true rfl) ?_
  intro p e R s m args below meth c ls hfr hlo hF hr hlk hG hl
  have hx := hF.1.1
  have hb := hF.1.2.1
  have hown := hF.1.2.2.2.1
  have hts := hF.1.2.2.2.2
  have in12 : ∀ w ∈ u_ws RX12 TX12 22, w ∈ wsX12_quotient := fun _ h => List.mem_cons_of_mem _ (List.mem_append_right _ h)
  have hl : lv_has ls 13 [(0, .ref (E.2.1 97)), (1, .long a1), (3, .long a2), (5, .int a3)] := hl
  have J156 : ∀ (x10 : Int64) (Z : zS) (H : Heap) (locs : List Loc) (ls : Array Slot), zG E Z s H locs → lv_has ls 13 [(10, .long x10)] → wX12_quotient_156 a1 a2 a3 x10 Z K → W p l e R s m args below meth c H locs 0 0 (zQl E K below args s) (F0 m 156 ls []) := by
    intro x10 Z H locs ls hG hl hw
    unfold wX12_quotient_156 at hw
    refine lv_lload hx hb dX12_quotient_156 (lv_at hl 0 rfl) ?_
    refine lv_lconst (v := 1) hx hb dX12_quotient_158 rfl ?_
    refine lv_ladd hx hb dX12_quotient_159 ?_
    refine lv_topl (fun y20 ey20 => ?_)
    replace hw := hw y20 ey20
    refine lv_lstore (lv' := [(10, .long y20)]) hx hb dX12_quotient_160 hl (by decide) rfl (fun ls hl => ?_)
    refine lv_lload hx hb dX12_quotient_162 (lv_at hl 0 rfl) ?_
    exact z_lret hF hG hr hlk hw dX12_quotient_164
  have S79 : ∀ (L79 : Int64 → Int64 → Int64 → Int32 → zS → Prop), (∀ (x6 : Int64) (x8 : Int64) (x10 : Int64) (x12 : Int32) (Z : zS) (H : Heap) (locs : List Loc) (ls : Array Slot), zG E Z s H locs → lv_has ls 13 [(5, .int a3), (6, .long x6), (8, .long x8), (10, .long x10), (12, .int x12)] → L79 x6 x8 x10 x12 Z → W p l e R s m args below meth c H locs 0 0 (zQl E K below args s) (F0 m 79 ls [])) → ∀ (x6 : Int64) (x8 : Int64) (x10 : Int64) (x12 : Int32) (Z : zS) (H : Heap) (locs : List Loc) (ls : Array Slot), zG E Z s H locs → lv_has ls 13 [(5, .int a3), (6, .long x6), (8, .long x8), (10, .long x10), (12, .int x12)] → wX12_quotient_79b L79 a1 a2 a3 x6 x8 x10 x12 Z K → W p l e R s m args below meth c H locs 0 0 (zQl E K below args s) (F0 m 79 ls []) := by
    intro L79 ih79
    have J115 : ∀ (x6 : Int64) (x8 : Int64) (x10 : Int64) (x12 : Int32) (Z : zS) (H : Heap) (locs : List Loc) (ls : Array Slot), zG E Z s H locs → lv_has ls 13 [(5, .int a3), (6, .long x6), (8, .long x8), (10, .long x10), (12, .int x12)] → wX12_quotient_115 L79 a1 a2 a3 x6 x8 x10 x12 Z K → W p l e R s m args below meth c H locs 0 0 (zQl E K below args s) (F0 m 115 ls []) := by
      intro x6 x8 x10 x12 Z H locs ls hG hl hw
      unfold wX12_quotient_115 at hw
      refine lv_lload hx hb dX12_quotient_115 (lv_at hl 1 rfl) ?_
      refine lv_ldc2 hx hb hown (hts (.constantLong RX12 233 (2)) (List.mem_of_getElem? (i := 2) rfl)) dX12_quotient_117 ?_
      refine lv_lmul hx hb dX12_quotient_120 ?_
      refine lv_topl (fun y18 ey18 => ?_)
      replace hw := hw y18 ey18
      refine lv_lstore (lv' := [(6, .long y18), (5, .int a3), (8, .long x8), (10, .long x10), (12, .int x12)]) hx hb dX12_quotient_121 hl (by decide) rfl (fun ls hl => ?_)
      obtain ⟨y19, ey19⟩ : ∃ y : Int32, y = x12 + 1 := ⟨_, rfl⟩
      replace hw := hw y19 ey19
      refine lv_iinc (v := y19) (lv' := [(12, .int y19), (6, .long y18), (5, .int a3), (8, .long x8), (10, .long x10)]) hx hb dX12_quotient_123 hl (k := 4) rfl (by rw [ey19]; rfl) (by decide) rfl (fun ls hl => ?_)
      refine lv_goto (tgt := 79) hx hb dX12_quotient_126 (by decide) ?_
      exact ih79 y18 x8 x10 y19 Z _ _ _ hG (lv_sub hl [2, 1, 3, 4, 0] rfl) hw
    intro x6 x8 x10 x12 Z H locs ls hG hl hw
    unfold wX12_quotient_79b at hw
    refine lv_iload hx hb dX12_quotient_79 (lv_at hl 4 rfl) ?_
    refine lv_iload hx hb dX12_quotient_81 (lv_at hl 0 rfl) ?_
    refine lv_icmp_gt (tgt := 129) hx hb dX12_quotient_83 (by decide) (fun c10 => ?_) (fun c10 => ?_)
    · replace hw := hw.1 c10
      refine lv_lload hx hb dX12_quotient_129 (lv_at hl 1 rfl) ?_
      refine lv_lload hx hb dX12_quotient_131 (lv_at hl 2 rfl) ?_
      refine W.lcmp hx hb dX12_quotient_133 ?_
      refine lv_if_gt (tgt := 156) hx hb dX12_quotient_134 (by decide) (fun c11 => ?_) (fun c11 => ?_)
      · replace hw := hw.1 c11
        exact J156 x10 Z _ _ _ hG (lv_sub hl [3] rfl) hw
      replace hw := hw.2 c11
      refine lv_lload hx hb dX12_quotient_137 (lv_at hl 1 rfl) ?_
      refine lv_lload hx hb dX12_quotient_139 (lv_at hl 2 rfl) ?_
      refine W.lcmp hx hb dX12_quotient_141 ?_
      refine lv_if_ne (tgt := 162) hx hb dX12_quotient_142 (by decide) (fun c12 => ?_) (fun c12 => ?_)
      · replace hw := hw.1 c12
        refine lv_lload hx hb dX12_quotient_162 (lv_at hl 3 rfl) ?_
        exact z_lret hF hG hr hlk hw dX12_quotient_164
      replace hw := hw.2 (fun h => h c12)
      refine lv_lload hx hb dX12_quotient_145 (lv_at hl 3 rfl) ?_
      refine lv_ldc2 hx hb hown (hts (.constantLong RX12 233 (2)) (List.mem_of_getElem? (i := 2) rfl)) dX12_quotient_147 ?_
      refine lv_lrem hx hb dX12_quotient_150 hw.1 ?_
      replace hw := hw.2
      refine lv_lconst (v := 1) hx hb dX12_quotient_151 rfl ?_
      refine W.lcmp hx hb dX12_quotient_152 ?_
      refine lv_if_ne (tgt := 162) hx hb dX12_quotient_153 (by decide) (fun c13 => ?_) (fun c13 => ?_)
      · replace hw := hw.1 c13
        refine lv_lload hx hb dX12_quotient_162 (lv_at hl 3 rfl) ?_
        exact z_lret hF hG hr hlk hw dX12_quotient_164
      replace hw := hw.2 (fun h => h c13)
      exact J156 x10 Z _ _ _ hG (lv_sub hl [3] rfl) hw
    replace hw := hw.2 c10
    refine lv_lload hx hb dX12_quotient_86 (lv_at hl 3 rfl) ?_
    refine lv_ldc2 hx hb hown (hts (.constantLong RX12 233 (2)) (List.mem_of_getElem? (i := 2) rfl)) dX12_quotient_88 ?_
    refine lv_lmul hx hb dX12_quotient_91 ?_
    refine lv_topl (fun y14 ey14 => ?_)
    replace hw := hw y14 ey14
    refine lv_lstore (lv' := [(10, .long y14), (5, .int a3), (6, .long x6), (8, .long x8), (12, .int x12)]) hx hb dX12_quotient_92 hl (by decide) rfl (fun ls hl => ?_)
    refine lv_lload hx hb dX12_quotient_94 (lv_at hl 2 rfl) ?_
    refine lv_lload hx hb dX12_quotient_96 (lv_at hl 3 rfl) ?_
    refine W.lcmp hx hb dX12_quotient_98 ?_
    refine lv_if_lt (tgt := 115) hx hb dX12_quotient_99 (by decide) (fun c15 => ?_) (fun c15 => ?_)
    · replace hw := hw.1 c15
      exact J115 x6 x8 y14 x12 Z _ _ _ hG (lv_sub hl [1, 2, 3, 0, 4] rfl) hw
    replace hw := hw.2 c15
    refine lv_lload hx hb dX12_quotient_102 (lv_at hl 0 rfl) ?_
    refine lv_lconst (v := 1) hx hb dX12_quotient_104 rfl ?_
    refine lv_ladd hx hb dX12_quotient_105 ?_
    refine lv_topl (fun y16 ey16 => ?_)
    replace hw := hw y16 ey16
    refine lv_lstore (lv' := [(10, .long y16), (5, .int a3), (6, .long x6), (8, .long x8), (12, .int x12)]) hx hb dX12_quotient_106 hl (by decide) rfl (fun ls hl => ?_)
    refine lv_lload hx hb dX12_quotient_108 (lv_at hl 2 rfl) ?_
    refine lv_lload hx hb dX12_quotient_110 (lv_at hl 3 rfl) ?_
    refine lv_lsub hx hb dX12_quotient_112 ?_
    refine lv_topl (fun y17 ey17 => ?_)
    replace hw := hw y17 ey17
    refine lv_lstore (lv' := [(6, .long y17), (10, .long y16), (5, .int a3), (8, .long x8), (12, .int x12)]) hx hb dX12_quotient_113 hl (by decide) rfl (fun ls hl => ?_)
    exact J115 y17 x8 y16 x12 Z _ _ _ hG (lv_sub hl [2, 0, 3, 1, 4] rfl) hw
  have J79 : ∀ n : Nat, ∀ (x6 : Int64) (x8 : Int64) (x10 : Int64) (x12 : Int32) (Z : zS) (H : Heap) (locs : List Loc) (ls : Array Slot), zG E Z s H locs → lv_has ls 13 [(5, .int a3), (6, .long x6), (8, .long x8), (10, .long x10), (12, .int x12)] → wX12_quotient_79 a1 a2 a3 K n x6 x8 x10 x12 Z → W p l e R s m args below meth c H locs 0 0 (zQl E K below args s) (F0 m 79 ls []) := by
    intro n
    induction n with
    | zero => intro x6 x8 x10 x12 Z H locs ls hG hl hw; exact hw.elim
    | succ n ih => intro x6 x8 x10 x12 Z H locs ls hG hl hw; exact S79 _ ih x6 x8 x10 x12 Z H locs ls hG hl hw
  have S44 : ∀ (L44 : Int64 → Int64 → zS → Prop), (∀ (x6 : Int64) (x8 : Int64) (Z : zS) (H : Heap) (locs : List Loc) (ls : Array Slot), zG E Z s H locs → lv_has ls 13 [(0, .ref (E.2.1 97)), (5, .int a3), (6, .long x6), (8, .long x8)] → L44 x6 x8 Z → W p l e R s m args below meth c H locs 0 0 (zQl E K below args s) (F0 m 44 ls [])) → ∀ (x6 : Int64) (x8 : Int64) (Z : zS) (H : Heap) (locs : List Loc) (ls : Array Slot), zG E Z s H locs → lv_has ls 13 [(0, .ref (E.2.1 97)), (5, .int a3), (6, .long x6), (8, .long x8)] → wX12_quotient_44b L44 a1 a2 a3 x6 x8 Z K → W p l e R s m args below meth c H locs 0 0 (zQl E K below args s) (F0 m 44 ls []) := by
    intro L44 ih44
    intro x6 x8 Z H locs ls hG hl hw
    unfold wX12_quotient_44b at hw
    refine lv_lload hx hb dX12_quotient_44 (lv_at hl 2 rfl) ?_
    refine lv_lload hx hb dX12_quotient_46 (lv_at hl 3 rfl) ?_
    refine W.lcmp hx hb dX12_quotient_48 ?_
    refine lv_if_ge (tgt := 73) hx hb dX12_quotient_49 (by decide) (fun c5 => ?_) (fun c5 => ?_)
    · replace hw := hw.1 c5
      refine lv_lconst (v := 0) hx hb dX12_quotient_73 rfl ?_
      refine lv_topl (fun y6 ey6 => ?_)
      replace hw := hw y6 ey6
      refine lv_lstore (lv' := [(10, .long y6), (0, .ref (E.2.1 97)), (5, .int a3), (6, .long x6), (8, .long x8)]) hx hb dX12_quotient_74 hl (by decide) rfl (fun ls hl => ?_)
      refine lv_iconst (v := 0) hx hb dX12_quotient_76 (by decide) ?_
      refine lv_topi (fun y7 ey7 => ?_)
      replace hw := hw y7 ey7
      refine lv_istore (lv' := [(12, .int y7), (10, .long y6), (0, .ref (E.2.1 97)), (5, .int a3), (6, .long x6), (8, .long x8)]) hx hb dX12_quotient_77 hl (by decide) rfl (fun ls hl => ?_)
      obtain ⟨n79, hw⟩ := hw
      exact J79 n79 x6 x8 y6 y7 Z _ _ _ hG (lv_sub hl [3, 4, 5, 1, 0] rfl) hw
    replace hw := hw.2 c5
    refine lv_lload hx hb dX12_quotient_52 (lv_at hl 2 rfl) ?_
    refine lv_ldc2 hx hb hown (hts (.constantLong RX12 233 (2)) (List.mem_of_getElem? (i := 2) rfl)) dX12_quotient_54 ?_
    refine lv_lmul hx hb dX12_quotient_57 ?_
    refine lv_topl (fun y8 ey8 => ?_)
    replace hw := hw y8 ey8
    refine lv_lstore (lv' := [(6, .long y8), (0, .ref (E.2.1 97)), (5, .int a3), (8, .long x8)]) hx hb dX12_quotient_58 hl (by decide) rfl (fun ls hl => ?_)
    refine lv_aload_n hx hb dX12_quotient_60 rfl (lv_at hl 1 rfl) ?_
    refine lv_dup hx hb dX12_quotient_61 rfl ?_
    refine z_get hF hG 97 (by decide) z_md rfl in12 8 (by decide) (List.mem_of_getElem? (i := 1) rfl) rfl rfl dX12_quotient_62 ?_
    refine lv_iconst (v := 1) hx hb dX12_quotient_65 (by decide) ?_
    refine lv_isub hx hb dX12_quotient_66 ?_
    refine z_put hF hG 97 (by decide) z_md rfl in12 tyX12_ok nmX12 8 (by decide) (List.mem_of_getElem? (i := 1) rfl) rfl rfl (tyX12_ok 8 (by decide)) rfl rfl (Nat.le_of_ble_eq_true rfl) (((Z 97 8) - 1)) z_md dX12_quotient_67 (fun Z9 H locs eZ9 hG => ?_)
    replace hw := hw Z9 eZ9
    refine lv_goto (tgt := 44) hx hb dX12_quotient_70 (by decide) ?_
    exact ih44 y8 x8 Z9 _ _ _ hG (lv_sub hl [1, 2, 0, 3] rfl) hw
  have J44 : ∀ n : Nat, ∀ (x6 : Int64) (x8 : Int64) (Z : zS) (H : Heap) (locs : List Loc) (ls : Array Slot), zG E Z s H locs → lv_has ls 13 [(0, .ref (E.2.1 97)), (5, .int a3), (6, .long x6), (8, .long x8)] → wX12_quotient_44 a1 a2 a3 K n x6 x8 Z → W p l e R s m args below meth c H locs 0 0 (zQl E K below args s) (F0 m 44 ls []) := by
    intro n
    induction n with
    | zero => intro x6 x8 Z H locs ls hG hl hw; exact hw.elim
    | succ n ih => intro x6 x8 Z H locs ls hG hl hw; exact S44 _ ih x6 x8 Z H locs ls hG hl hw
  have S11 : ∀ (L11 : Int64 → Int64 → zS → Prop), (∀ (x6 : Int64) (x8 : Int64) (Z : zS) (H : Heap) (locs : List Loc) (ls : Array Slot), zG E Z s H locs → lv_has ls 13 [(0, .ref (E.2.1 97)), (5, .int a3), (6, .long x6), (8, .long x8)] → L11 x6 x8 Z → W p l e R s m args below meth c H locs 0 0 (zQl E K below args s) (F0 m 11 ls [])) → ∀ (x6 : Int64) (x8 : Int64) (Z : zS) (H : Heap) (locs : List Loc) (ls : Array Slot), zG E Z s H locs → lv_has ls 13 [(0, .ref (E.2.1 97)), (5, .int a3), (6, .long x6), (8, .long x8)] → wX12_quotient_11b L11 a1 a2 a3 x6 x8 Z K → W p l e R s m args below meth c H locs 0 0 (zQl E K below args s) (F0 m 11 ls []) := by
    intro L11 ih11
    intro x6 x8 Z H locs ls hG hl hw
    unfold wX12_quotient_11b at hw
    refine lv_lload hx hb dX12_quotient_11 (lv_at hl 2 rfl) ?_
    refine lv_ldc2 hx hb hown (hts (.constantLong RX12 233 (2)) (List.mem_of_getElem? (i := 2) rfl)) dX12_quotient_13 ?_
    refine lv_lload hx hb dX12_quotient_16 (lv_at hl 3 rfl) ?_
    refine lv_lmul hx hb dX12_quotient_18 ?_
    refine W.lcmp hx hb dX12_quotient_19 ?_
    refine lv_if_lt (tgt := 44) hx hb dX12_quotient_20 (by decide) (fun c2 => ?_) (fun c2 => ?_)
    · replace hw := hw.1 c2
      obtain ⟨n44, hw⟩ := hw
      exact J44 n44 x6 x8 Z _ _ _ hG (lv_sub hl [0, 1, 2, 3] rfl) hw
    replace hw := hw.2 c2
    refine lv_lload hx hb dX12_quotient_23 (lv_at hl 3 rfl) ?_
    refine lv_ldc2 hx hb hown (hts (.constantLong RX12 233 (2)) (List.mem_of_getElem? (i := 2) rfl)) dX12_quotient_25 ?_
    refine lv_lmul hx hb dX12_quotient_28 ?_
    refine lv_topl (fun y3 ey3 => ?_)
    replace hw := hw y3 ey3
    refine lv_lstore (lv' := [(8, .long y3), (0, .ref (E.2.1 97)), (5, .int a3), (6, .long x6)]) hx hb dX12_quotient_29 hl (by decide) rfl (fun ls hl => ?_)
    refine lv_aload_n hx hb dX12_quotient_31 rfl (lv_at hl 1 rfl) ?_
    refine lv_dup hx hb dX12_quotient_32 rfl ?_
    refine z_get hF hG 97 (by decide) z_md rfl in12 8 (by decide) (List.mem_of_getElem? (i := 1) rfl) rfl rfl dX12_quotient_33 ?_
    refine lv_iconst (v := 1) hx hb dX12_quotient_36 (by decide) ?_
    refine lv_iadd hx hb dX12_quotient_37 ?_
    refine z_put hF hG 97 (by decide) z_md rfl in12 tyX12_ok nmX12 8 (by decide) (List.mem_of_getElem? (i := 1) rfl) rfl rfl (tyX12_ok 8 (by decide)) rfl rfl (Nat.le_of_ble_eq_true rfl) (((Z 97 8) + 1)) z_md dX12_quotient_38 (fun Z4 H locs eZ4 hG => ?_)
    replace hw := hw Z4 eZ4
    refine lv_goto (tgt := 11) hx hb dX12_quotient_41 (by decide) ?_
    exact ih11 x6 y3 Z4 _ _ _ hG (lv_sub hl [1, 2, 3, 0] rfl) hw
  have J11 : ∀ n : Nat, ∀ (x6 : Int64) (x8 : Int64) (Z : zS) (H : Heap) (locs : List Loc) (ls : Array Slot), zG E Z s H locs → lv_has ls 13 [(0, .ref (E.2.1 97)), (5, .int a3), (6, .long x6), (8, .long x8)] → wX12_quotient_11 a1 a2 a3 K n x6 x8 Z → W p l e R s m args below meth c H locs 0 0 (zQl E K below args s) (F0 m 11 ls []) := by
    intro n
    induction n with
    | zero => intro x6 x8 Z H locs ls hG hl hw; exact hw.elim
    | succ n ih => intro x6 x8 Z H locs ls hG hl hw; exact S11 _ ih x6 x8 Z H locs ls hG hl hw
  unfold wX12_quotient at hw
  refine lv_lload_n hx hb dX12_quotient_0 rfl (lv_at hl 1 rfl) ?_
  refine lv_lstore (lv' := [(6, .long a1), (0, .ref (E.2.1 97)), (1, .long a1), (3, .long a2), (5, .int a3)]) hx hb dX12_quotient_1 hl (by decide) rfl (fun ls hl => ?_)
  refine lv_lload_n hx hb dX12_quotient_3 rfl (lv_at hl 3 rfl) ?_
  refine lv_lstore (lv' := [(8, .long a2), (6, .long a1), (0, .ref (E.2.1 97)), (1, .long a1), (3, .long a2), (5, .int a3)]) hx hb dX12_quotient_4 hl (by decide) rfl (fun ls hl => ?_)
  refine lv_aload_n hx hb dX12_quotient_6 rfl (lv_at hl 2 rfl) ?_
  refine lv_iconst (v := 0) hx hb dX12_quotient_7 (by decide) ?_
  refine z_put hF hG 97 (by decide) z_md rfl in12 tyX12_ok nmX12 8 (by decide) (List.mem_of_getElem? (i := 1) rfl) rfl rfl (tyX12_ok 8 (by decide)) rfl rfl (Nat.le_of_ble_eq_true rfl) 0 z_md dX12_quotient_8 (fun Z1 H locs eZ1 hG => ?_)
  replace hw := hw Z1 eZ1
  obtain ⟨n11, hw⟩ := hw
  exact J11 n11 a1 a2 Z1 _ _ _ hG (lv_sub hl [2, 5, 1, 0] rfl) hw
theorem hS_yX12_quotient : yX12_quotient.cls ≠ "java/lang/invoke/MethodHandle" ∧ yX12_quotient.cls ≠ "java/lang/invoke/VarHandle" ∧ (parseMethodDescriptor yX12_quotient.desc).map (fun d => d.parameters.length) = some 3 := by decide +kernel
set_option maxHeartbeats 4000000 in
set_option maxRecDepth 100000 in
theorem kX12_bits (l : Launch) (E : zE) (Z : zS) (a1 : Int32) {K : Int32 → zS → Prop} (hw : wX12_bits a1 Z K) : zCi l yX12_bits wsX12_bits ({ frames := 2, cells := 0, slots := 0, locals := 43 } : Room) E Z [.ref (E.2.1 97), .int a1] K := by
  refine z_bodyi (cc := cX12_bits) (nL := 4) (ret := .int) (by decide) rfl (Nat.le_of_ble_eq_true rfl) ?_
  intro p e R s m args below meth c ls hfr hlo hF hr hlk hG hl
  have hx := hF.1.1
  have hb := hF.1.2.1
  have hown := hF.1.2.2.2.1
  have hts := hF.1.2.2.2.2
  have in12 : ∀ w ∈ u_ws RX12 TX12 22, w ∈ wsX12_bits := fun _ h => List.mem_cons_of_mem _ (List.mem_append_right _ h)
  have hl : lv_has ls 4 [(0, .ref (E.2.1 97)), (1, .int a1)] := hl
  unfold wX12_bits at hw
  refine lv_aload_n hx hb dX12_bits_0 rfl (lv_at hl 0 rfl) ?_
  refine lv_iload_n hx hb dX12_bits_1 rfl (lv_at hl 1 rfl) ?_
  refine z_ci (va_runV (rest := []) hF.1 (kX12_isServer l E Z a1  hw _) (cwV 1 hts gX12_bits_X12_isServer rfl rfl rfl ⟨rfl, hS_yX12_isServer⟩ ⟨Nat.le_trans (Nat.le_of_ble_eq_true rfl) hfr, Nat.le_trans (Nat.le_of_ble_eq_true rfl) hlo⟩) (z_preV hF hG 97 (by decide) z_md rfl) rfl rfl hl.1 rfl (lv_room (Nat.le_of_ble_eq_true rfl)) dX12_bits_2 ⟨Nat.zero_le _, Nat.zero_le _⟩) hG (fun r2 Z1 H locs hw hG => ?_)
  refine lv_if_ne (tgt := 10) hx hb dX12_bits_5 (by decide) (fun c3 => ?_) (fun c3 => ?_)
  · replace hw := hw.1 c3
    refine lv_aload_n hx hb dX12_bits_10 rfl (lv_at hl 0 rfl) ?_
    refine lv_aload_n hx hb dX12_bits_11 rfl (lv_at hl 0 rfl) ?_
    refine z_get hF hG 97 (by decide) z_md rfl in12 2 (by decide) (List.mem_of_getElem? (i := 1) rfl) rfl rfl dX12_bits_12 ?_
    refine lv_bipush (v := 12) hx hb dX12_bits_15 (by decide) ?_
    refine lv_iload_n hx hb dX12_bits_17 rfl (lv_at hl 1 rfl) ?_
    refine lv_iadd hx hb dX12_bits_18 ?_
    obtain ⟨q4, hw⟩ := hw
    refine z_iald hF hG 98 (by decide) z_m98 q4 dX12_bits_19 ?_
    refine lv_i2l hx hb dX12_bits_20 rfl ?_
    refine lv_aload_n hx hb dX12_bits_21 rfl (lv_at hl 0 rfl) ?_
    refine z_get hF hG 97 (by decide) z_md rfl in12 2 (by decide) (List.mem_of_getElem? (i := 1) rfl) rfl rfl dX12_bits_22 ?_
    refine lv_bipush (v := 18) hx hb dX12_bits_25 (by decide) ?_
    refine lv_iload_n hx hb dX12_bits_27 rfl (lv_at hl 1 rfl) ?_
    refine lv_iadd hx hb dX12_bits_28 ?_
    obtain ⟨q5, hw⟩ := hw
    refine z_iald hF hG 98 (by decide) z_m98 q5 dX12_bits_29 ?_
    refine lv_i2l hx hb dX12_bits_30 rfl ?_
    refine lv_bipush (v := 23) hx hb dX12_bits_31 (by decide) ?_
    refine z_cl (va_runV (rest := []) hF.1 (kX12_quotient l E Z1 ((Int32.toInt64 (Z1 98 ((12 + a1) : Int32).toNatClampNeg))) ((Int32.toInt64 (Z1 98 ((18 + a1) : Int32).toNatClampNeg))) 23  hw _) (cwV 3 hts gX12_bits_X12_quotient rfl rfl rfl ⟨rfl, hS_yX12_quotient⟩ ⟨Nat.le_trans (Nat.le_of_ble_eq_true rfl) hfr, Nat.le_trans (Nat.le_of_ble_eq_true rfl) hlo⟩) (z_preV hF hG 97 (by decide) z_md rfl) rfl rfl hl.1 rfl (lv_room (Nat.le_of_ble_eq_true rfl)) dX12_bits_33 ⟨Nat.zero_le _, Nat.zero_le _⟩) hG (fun r7 Z6 H locs hw hG => ?_)
    refine lv_lstore_n (lv' := [(2, .long r7), (0, .ref (E.2.1 97)), (1, .int a1)]) hx hb dX12_bits_36 rfl hl (by decide) rfl (fun ls hl => ?_)
    refine lv_lload_n hx hb dX12_bits_37 rfl (lv_at hl 0 rfl) ?_
    refine lv_ldc2 hx hb hown (hts (.constantLong RX12 238 (126)) (List.mem_of_getElem? (i := 2) rfl)) dX12_bits_38 ?_
    refine lv_aload_n hx hb dX12_bits_41 rfl (lv_at hl 1 rfl) ?_
    refine z_get hF hG 97 (by decide) z_md rfl in12 8 (by decide) (List.mem_of_getElem? (i := 3) rfl) rfl rfl dX12_bits_42 ?_
    refine lv_i2l hx hb dX12_bits_45 rfl ?_
    refine lv_ladd hx hb dX12_bits_46 ?_
    refine lv_bipush (v := 23) hx hb dX12_bits_47 (by decide) ?_
    refine lv_lshl hx hb dX12_bits_49 rfl ?_
    refine lv_ladd hx hb dX12_bits_50 ?_
    refine lv_l2i hx hb dX12_bits_51 rfl ?_
    exact z_iret hF hG hr hlk hw dX12_bits_52
  replace hw := hw.2 (fun h => h c3)
  refine lv_iconst (v := (-1)) hx hb dX12_bits_8 (by decide) ?_
  exact z_iret hF hG hr hlk hw dX12_bits_9
set_option maxHeartbeats 4000000 in
set_option maxRecDepth 100000 in
theorem kX12_wide (l : Launch) (E : zE) (Z : zS) (a1 : Int32) {K : Int64 → zS → Prop} (hw : wX12_wide a1 Z K) : zCl l yX12_wide wsX12_wide ({ frames := 2, cells := 0, slots := 0, locals := 43 } : Room) E Z [.ref (E.2.1 97), .int a1] K := by
  refine z_bodyl (cc := cX12_wide) (nL := 7) (by decide) rfl (Nat.le_of_ble_eq_true rfl) ?_
  intro p e R s m args below meth c ls hfr hlo hF hr hlk hG hl
  have hx := hF.1.1
  have hb := hF.1.2.1
  have hown := hF.1.2.2.2.1
  have hts := hF.1.2.2.2.2
  have in12 : ∀ w ∈ u_ws RX12 TX12 22, w ∈ wsX12_wide := fun _ h => List.mem_cons_of_mem _ (List.mem_append_right _ h)
  have hl : lv_has ls 7 [(0, .ref (E.2.1 97)), (1, .int a1)] := hl
  have J41 : ∀ (x2 : Int32) (s0 : Int64) (Z : zS) (H : Heap) (locs : List Loc) (ls : Array Slot), zG E Z s H locs → lv_has ls 7 [(0, .ref (E.2.1 97)), (2, .int x2)] → wX12_wide_41 a1 x2 s0 Z K → W p l e R s m args below meth c H locs 0 0 (zQl E K below args s) (F0 m 41 ls [.long s0, .ref (E.2.1 97)]) := by
    intro x2 s0 Z H locs ls hG hl hw
    unfold wX12_wide_41 at hw
    refine lv_ldc2 hx hb hown (hts (.constantLong RX12 240 (60)) (List.mem_of_getElem? (i := 3) rfl)) dX12_wide_41 ?_
    refine lv_bipush (v := 52) hx hb dX12_wide_44 (by decide) ?_
    refine z_cl (va_runV (rest := []) hF.1 (kX12_quotient l E Z s0 60 52  hw _) (cwV 3 hts gX12_wide_X12_quotient rfl rfl rfl ⟨rfl, hS_yX12_quotient⟩ ⟨Nat.le_trans (Nat.le_of_ble_eq_true rfl) hfr, Nat.le_trans (Nat.le_of_ble_eq_true rfl) hlo⟩) (z_preV hF hG 97 (by decide) z_md rfl) rfl rfl hl.1 rfl (lv_room (Nat.le_of_ble_eq_true rfl)) dX12_wide_46 ⟨Nat.zero_le _, Nat.zero_le _⟩) hG (fun r9 Z8 H locs hw hG => ?_)
    refine lv_lstore_n (lv' := [(3, .long r9), (0, .ref (E.2.1 97)), (2, .int x2)]) hx hb dX12_wide_49 rfl hl (by decide) rfl (fun ls hl => ?_)
    refine lv_lload_n hx hb dX12_wide_50 rfl (lv_at hl 0 rfl) ?_
    refine lv_ldc2 hx hb hown (hts (.constantLong RX12 242 (1022)) (List.mem_of_getElem? (i := 4) rfl)) dX12_wide_51 ?_
    refine lv_aload_n hx hb dX12_wide_54 rfl (lv_at hl 1 rfl) ?_
    refine z_get hF hG 97 (by decide) z_md rfl in12 8 (by decide) (List.mem_of_getElem? (i := 5) rfl) rfl rfl dX12_wide_55 ?_
    refine lv_i2l hx hb dX12_wide_58 rfl ?_
    refine lv_ladd hx hb dX12_wide_59 ?_
    refine lv_bipush (v := 52) hx hb dX12_wide_60 (by decide) ?_
    refine lv_lshl hx hb dX12_wide_62 rfl ?_
    refine lv_ladd hx hb dX12_wide_63 ?_
    refine lv_topl (fun y10 ey10 => ?_)
    replace hw := hw y10 ey10
    refine lv_lstore (lv' := [(5, .long y10), (3, .long r9), (0, .ref (E.2.1 97)), (2, .int x2)]) hx hb dX12_wide_64 hl (by decide) rfl (fun ls hl => ?_)
    refine lv_iload_n hx hb dX12_wide_66 rfl (lv_at hl 3 rfl) ?_
    refine lv_if_ge (tgt := 79) hx hb dX12_wide_67 (by decide) (fun c11 => ?_) (fun c11 => ?_)
    · replace hw := hw.1 c11
      refine lv_lload hx hb dX12_wide_79 (lv_at hl 0 rfl) ?_
      exact z_lret hF hG hr hlk hw dX12_wide_81
    replace hw := hw.2 c11
    refine lv_lload hx hb dX12_wide_70 (lv_at hl 0 rfl) ?_
    refine lv_ldc2 hx hb hown (hts (.constantLong RX12 244 (-9223372036854775808)) (List.mem_of_getElem? (i := 6) rfl)) dX12_wide_72 ?_
    refine lv_lor hx hb dX12_wide_75 ?_
    refine lv_goto (tgt := 81) hx hb dX12_wide_76 (by decide) ?_
    exact z_lret hF hG hr hlk hw dX12_wide_81
  unfold wX12_wide at hw
  refine lv_aload_n hx hb dX12_wide_0 rfl (lv_at hl 0 rfl) ?_
  refine lv_iload_n hx hb dX12_wide_1 rfl (lv_at hl 1 rfl) ?_
  refine z_ci (va_runV (rest := []) hF.1 (kX12_isServer l E Z a1  hw _) (cwV 1 hts gX12_wide_X12_isServer rfl rfl rfl ⟨rfl, hS_yX12_isServer⟩ ⟨Nat.le_trans (Nat.le_of_ble_eq_true rfl) hfr, Nat.le_trans (Nat.le_of_ble_eq_true rfl) hlo⟩) (z_preV hF hG 97 (by decide) z_md rfl) rfl rfl hl.1 rfl (lv_room (Nat.le_of_ble_eq_true rfl)) dX12_wide_2 ⟨Nat.zero_le _, Nat.zero_le _⟩) hG (fun r2 Z1 H locs hw hG => ?_)
  refine lv_if_ne (tgt := 12) hx hb dX12_wide_5 (by decide) (fun c3 => ?_) (fun c3 => ?_)
  · replace hw := hw.1 c3
    refine lv_aload_n hx hb dX12_wide_12 rfl (lv_at hl 0 rfl) ?_
    refine z_get hF hG 97 (by decide) z_md rfl in12 2 (by decide) (List.mem_of_getElem? (i := 2) rfl) rfl rfl dX12_wide_13 ?_
    refine lv_bipush (v := 24) hx hb dX12_wide_16 (by decide) ?_
    refine lv_iload_n hx hb dX12_wide_18 rfl (lv_at hl 1 rfl) ?_
    refine lv_iadd hx hb dX12_wide_19 ?_
    obtain ⟨q4, hw⟩ := hw
    refine z_iald hF hG 98 (by decide) z_m98 q4 dX12_wide_20 ?_
    refine lv_topi (fun y5 ey5 => ?_)
    replace hw := hw y5 ey5
    refine lv_istore_n (lv' := [(2, .int y5), (0, .ref (E.2.1 97)), (1, .int a1)]) hx hb dX12_wide_21 rfl hl (by decide) rfl (fun ls hl => ?_)
    refine lv_iload_n hx hb dX12_wide_22 rfl (lv_at hl 0 rfl) ?_
    refine lv_if_ne (tgt := 28) hx hb dX12_wide_23 (by decide) (fun c6 => ?_) (fun c6 => ?_)
    · replace hw := hw.1 c6
      refine lv_aload_n hx hb dX12_wide_28 rfl (lv_at hl 1 rfl) ?_
      refine lv_iload_n hx hb dX12_wide_29 rfl (lv_at hl 0 rfl) ?_
      refine lv_if_ge (tgt := 39) hx hb dX12_wide_30 (by decide) (fun c7 => ?_) (fun c7 => ?_)
      · replace hw := hw.1 c7
        refine lv_iload_n hx hb dX12_wide_39 rfl (lv_at hl 0 rfl) ?_
        refine lv_i2l hx hb dX12_wide_40 rfl ?_
        exact J41 y5 ((Int32.toInt64 y5)) Z1 _ _ _ hG (lv_sub hl [1, 0] rfl) hw
      replace hw := hw.2 c7
      refine lv_iload_n hx hb dX12_wide_33 rfl (lv_at hl 0 rfl) ?_
      refine lv_ineg hx hb dX12_wide_34 ?_
      refine lv_i2l hx hb dX12_wide_35 rfl ?_
      refine lv_goto (tgt := 41) hx hb dX12_wide_36 (by decide) ?_
      exact J41 y5 ((Int32.toInt64 (-y5))) Z1 _ _ _ hG (lv_sub hl [1, 0] rfl) hw
    replace hw := hw.2 (fun h => h c6)
    refine lv_lconst (v := 0) hx hb dX12_wide_26 rfl ?_
    exact z_lret hF hG hr hlk hw dX12_wide_27
  replace hw := hw.2 (fun h => h c3)
  refine lv_ldc2 hx hb hown (hts (.constantLong RX12 227 (-9223372036854775707)) (List.mem_of_getElem? (i := 1) rfl)) dX12_wide_8 ?_
  exact z_lret hF hG hr hlk hw dX12_wide_11
set_option maxHeartbeats 4000000 in
set_option maxRecDepth 100000 in
theorem kX12_forged (l : Launch) (E : zE) (Z : zS) (a1 : Int32) {K : Int32 → zS → Prop} (hw : wX12_forged a1 Z K) : zCi l yX12_forged wsX12_forged ({ frames := 2, cells := 0, slots := 0, locals := 43 } : Room) E Z [.ref (E.2.1 97), .int a1] K := by
  refine z_bodyi (cc := cX12_forged) (nL := 4) (ret := .int) (by decide) rfl (Nat.le_of_ble_eq_true rfl) ?_
  intro p e R s m args below meth c ls hfr hlo hF hr hlk hG hl
  have hx := hF.1.1
  have hb := hF.1.2.1
  have hown := hF.1.2.2.2.1
  have hts := hF.1.2.2.2.2
  have in12 : ∀ w ∈ u_ws RX12 TX12 22, w ∈ wsX12_forged := fun _ h => List.mem_cons_of_mem _ (List.mem_append_right _ h)
  have hl : lv_has ls 4 [(0, .ref (E.2.1 97)), (1, .int a1)] := hl
  have S23 : ∀ (L23 : Int32 → zS → Prop), (∀ (x3 : Int32) (Z : zS) (H : Heap) (locs : List Loc) (ls : Array Slot), zG E Z s H locs → lv_has ls 4 [(0, .ref (E.2.1 97)), (1, .int a1), (3, .int x3)] → L23 x3 Z → W p l e R s m args below meth c H locs 0 0 (zQi E K below args s) (F0 m 23 ls [])) → ∀ (x3 : Int32) (Z : zS) (H : Heap) (locs : List Loc) (ls : Array Slot), zG E Z s H locs → lv_has ls 4 [(0, .ref (E.2.1 97)), (1, .int a1), (3, .int x3)] → wX12_forged_23b L23 a1 x3 Z K → W p l e R s m args below meth c H locs 0 0 (zQi E K below args s) (F0 m 23 ls []) := by
    intro L23 ih23
    intro x3 Z H locs ls hG hl hw
    unfold wX12_forged_23b at hw
    refine lv_iload_n hx hb dX12_forged_23 rfl (lv_at hl 2 rfl) ?_
    refine lv_aload_n hx hb dX12_forged_24 rfl (lv_at hl 0 rfl) ?_
    refine z_get hF hG 97 (by decide) z_md rfl in12 16 (by decide) (List.mem_of_getElem? (i := 1) rfl) rfl rfl dX12_forged_25 ?_
    refine lv_iload_n hx hb dX12_forged_28 rfl (lv_at hl 1 rfl) ?_
    obtain ⟨q8, hw⟩ := hw
    refine z_iald hF hG 106 (by decide) z_m106 q8 dX12_forged_29 ?_
    refine lv_icmp_ge (tgt := 72) hx hb dX12_forged_30 (by decide) (fun c9 => ?_) (fun c9 => ?_)
    · replace hw := hw.1 c9
      refine lv_bipush (v := (-4)) hx hb dX12_forged_72 (by decide) ?_
      exact z_iret hF hG hr hlk hw dX12_forged_74
    replace hw := hw.2 c9
    refine lv_aload_n hx hb dX12_forged_33 rfl (lv_at hl 0 rfl) ?_
    refine lv_iload_n hx hb dX12_forged_34 rfl (lv_at hl 2 rfl) ?_
    refine z_ci (va_runV (rest := []) hF.1 (kX12_isServer l E Z x3  hw _) (cwV 1 hts gX12_forged_X12_isServer rfl rfl rfl ⟨rfl, hS_yX12_isServer⟩ ⟨Nat.le_trans (Nat.le_of_ble_eq_true rfl) hfr, Nat.le_trans (Nat.le_of_ble_eq_true rfl) hlo⟩) (z_preV hF hG 97 (by decide) z_md rfl) rfl rfl hl.1 rfl (lv_room (Nat.le_of_ble_eq_true rfl)) dX12_forged_35 ⟨Nat.zero_le _, Nat.zero_le _⟩) hG (fun r11 Z10 H locs hw hG => ?_)
    refine lv_if_eq (tgt := 64) hx hb dX12_forged_38 (by decide) (fun c12 => ?_) (fun c12 => ?_)
    · replace hw := hw.1 c12
      refine lv_iload_n hx hb dX12_forged_64 rfl (lv_at hl 2 rfl) ?_
      exact z_iret hF hG hr hlk hw dX12_forged_65
    replace hw := hw.2 c12
    refine lv_aload_n hx hb dX12_forged_41 rfl (lv_at hl 0 rfl) ?_
    refine z_get hF hG 97 (by decide) z_md rfl in12 17 (by decide) (List.mem_of_getElem? (i := 2) rfl) rfl rfl dX12_forged_42 ?_
    refine lv_bipush (v := 100) hx hb dX12_forged_45 (by decide) ?_
    refine lv_iload_n hx hb dX12_forged_47 rfl (lv_at hl 1 rfl) ?_
    refine lv_imul hx hb dX12_forged_48 ?_
    refine lv_iload_n hx hb dX12_forged_49 rfl (lv_at hl 2 rfl) ?_
    refine lv_iadd hx hb dX12_forged_50 ?_
    obtain ⟨q13, hw⟩ := hw
    refine z_iald hF hG 107 (by decide) z_m107 q13 dX12_forged_51 ?_
    refine lv_aload_n hx hb dX12_forged_52 rfl (lv_at hl 0 rfl) ?_
    refine z_get hF hG 97 (by decide) z_md rfl in12 2 (by decide) (List.mem_of_getElem? (i := 3) rfl) rfl rfl dX12_forged_53 ?_
    refine lv_bipush (v := 30) hx hb dX12_forged_56 (by decide) ?_
    refine lv_iload_n hx hb dX12_forged_58 rfl (lv_at hl 2 rfl) ?_
    refine lv_iadd hx hb dX12_forged_59 ?_
    obtain ⟨q14, hw⟩ := hw
    refine z_iald hF hG 98 (by decide) z_m98 q14 dX12_forged_60 ?_
    refine lv_icmp_eq (tgt := 66) hx hb dX12_forged_61 (by decide) (fun c15 => ?_) (fun c15 => ?_)
    · replace hw := hw.1 c15
      obtain ⟨y16, ey16⟩ : ∃ y : Int32, y = x3 + 1 := ⟨_, rfl⟩
      replace hw := hw y16 ey16
      refine lv_iinc (v := y16) (lv' := [(3, .int y16), (0, .ref (E.2.1 97)), (1, .int a1)]) hx hb dX12_forged_66 hl (k := 2) rfl (by rw [ey16]; rfl) (by decide) rfl (fun ls hl => ?_)
      refine lv_goto (tgt := 23) hx hb dX12_forged_69 (by decide) ?_
      exact ih23 y16 Z10 _ _ _ hG (lv_sub hl [1, 2, 0] rfl) hw
    replace hw := hw.2 c15
    refine lv_iload_n hx hb dX12_forged_64 rfl (lv_at hl 2 rfl) ?_
    exact z_iret hF hG hr hlk hw dX12_forged_65
  have J23 : ∀ n : Nat, ∀ (x3 : Int32) (Z : zS) (H : Heap) (locs : List Loc) (ls : Array Slot), zG E Z s H locs → lv_has ls 4 [(0, .ref (E.2.1 97)), (1, .int a1), (3, .int x3)] → wX12_forged_23 a1 K n x3 Z → W p l e R s m args below meth c H locs 0 0 (zQi E K below args s) (F0 m 23 ls []) := by
    intro n
    induction n with
    | zero => intro x3 Z H locs ls hG hl hw; exact hw.elim
    | succ n ih => intro x3 Z H locs ls hG hl hw; exact S23 _ ih x3 Z H locs ls hG hl hw
  unfold wX12_forged at hw
  refine lv_iload_n hx hb dX12_forged_0 rfl (lv_at hl 1 rfl) ?_
  refine z_ci (va_runS (rest := []) hF.1 (kX12_isShelf l E Z a1  hw _) (va_cwS 1 hts gX12_forged_X12_isShelf rfl rfl rfl hS_yX12_isShelf ⟨Nat.le_trans (Nat.le_of_ble_eq_true rfl) hfr, Nat.le_trans (Nat.le_of_ble_eq_true rfl) hlo⟩) (z_preS hF hG) rfl rfl hl.1 rfl (lv_room (Nat.le_of_ble_eq_true rfl)) dX12_forged_1 ⟨Nat.zero_le _, Nat.zero_le _⟩) hG (fun r2 Z1 H locs hw hG => ?_)
  refine lv_if_ne (tgt := 9) hx hb dX12_forged_4 (by decide) (fun c3 => ?_) (fun c3 => ?_)
  · replace hw := hw.1 c3
    refine lv_aload_n hx hb dX12_forged_9 rfl (lv_at hl 0 rfl) ?_
    refine lv_iload_n hx hb dX12_forged_10 rfl (lv_at hl 1 rfl) ?_
    refine z_ci (va_runV (rest := []) hF.1 (kX12_noRow l E Z1 a1  hw _) (cwV 1 hts gX12_forged_X12_noRow rfl rfl rfl ⟨rfl, hS_yX12_noRow⟩ ⟨Nat.le_trans (Nat.le_of_ble_eq_true rfl) hfr, Nat.le_trans (Nat.le_of_ble_eq_true rfl) hlo⟩) (z_preV hF hG 97 (by decide) z_md rfl) rfl rfl hl.1 rfl (lv_room (Nat.le_of_ble_eq_true rfl)) dX12_forged_11 ⟨Nat.zero_le _, Nat.zero_le _⟩) hG (fun r5 Z4 H locs hw hG => ?_)
    refine lv_istore_n (lv' := [(2, .int r5), (0, .ref (E.2.1 97)), (1, .int a1)]) hx hb dX12_forged_14 rfl hl (by decide) rfl (fun ls hl => ?_)
    refine lv_iload_n hx hb dX12_forged_15 rfl (lv_at hl 0 rfl) ?_
    refine lv_if_ge (tgt := 21) hx hb dX12_forged_16 (by decide) (fun c6 => ?_) (fun c6 => ?_)
    · replace hw := hw.1 c6
      refine lv_iconst (v := 0) hx hb dX12_forged_21 (by decide) ?_
      refine lv_topi (fun y7 ey7 => ?_)
      replace hw := hw y7 ey7
      refine lv_istore_n (lv' := [(3, .int y7), (2, .int r5), (0, .ref (E.2.1 97)), (1, .int a1)]) hx hb dX12_forged_22 rfl hl (by decide) rfl (fun ls hl => ?_)
      obtain ⟨n23, hw⟩ := hw
      exact J23 n23 y7 Z4 _ _ _ hG (lv_sub hl [2, 3, 0] rfl) hw
    replace hw := hw.2 c6
    refine lv_iload_n hx hb dX12_forged_19 rfl (lv_at hl 0 rfl) ?_
    exact z_iret hF hG hr hlk hw dX12_forged_20
  replace hw := hw.2 (fun h => h c3)
  refine lv_iconst (v := (-1)) hx hb dX12_forged_7 (by decide) ?_
  exact z_iret hF hG hr hlk hw dX12_forged_8
set_option maxHeartbeats 4000000 in
set_option maxRecDepth 100000 in
theorem kX12_judge (l : Launch) (E : zE) (Z : zS) (a1 : Int32) {K : Int32 → zS → Prop} (hw : wX12_judge a1 Z K) : zCi l yX12_judge wsX12_judge ({ frames := 6, cells := 0, slots := 0, locals := 128 } : Room) E Z [.ref (E.2.1 97), .int a1] K := by
  refine z_bodyi (cc := cX12_judge) (nL := 5) (ret := .int) (by decide) rfl (Nat.le_of_ble_eq_true rfl) ?_
  intro p e R s m args below meth c ls hfr hlo hF hr hlk hG hl
  have hx := hF.1.1
  have hb := hF.1.2.1
  have hown := hF.1.2.2.2.1
  have hts := hF.1.2.2.2.2
  have in12 : ∀ w ∈ u_ws RX12 TX12 22, w ∈ wsX12_judge := fun _ h => List.mem_cons_of_mem _ (List.mem_append_right _ h)
  have hl : lv_has ls 5 [(0, .ref (E.2.1 97)), (1, .int a1)] := hl
  have J104 : ∀ (x3 : Int32) (Z : zS) (H : Heap) (locs : List Loc) (ls : Array Slot), zG E Z s H locs → lv_has ls 5 [(0, .ref (E.2.1 97)), (3, .int x3)] → wX12_judge_104 a1 x3 Z K → W p l e R s m args below meth c H locs 0 0 (zQi E K below args s) (F0 m 104 ls []) := by
    intro x3 Z H locs ls hG hl hw
    unfold wX12_judge_104 at hw
    refine lv_aload_n hx hb dX12_judge_104 rfl (lv_at hl 0 rfl) ?_
    refine lv_aload_n hx hb dX12_judge_105 rfl (lv_at hl 0 rfl) ?_
    refine z_get hF hG 97 (by decide) z_md rfl in12 10 (by decide) (List.mem_of_getElem? (i := 1) rfl) rfl rfl dX12_judge_106 ?_
    refine z_cv (va_runV (rest := []) hF.1 (kX12_again l E Z 102 122 (by decide) (fun _ => z_m102) hw _) (cwV 1 hts gX12_judge_X12_again rfl rfl rfl ⟨rfl, hS_yX12_again⟩ ⟨Nat.le_trans (Nat.le_of_ble_eq_true rfl) hfr, Nat.le_trans (Nat.le_of_ble_eq_true rfl) hlo⟩) (z_preV hF hG 97 (by decide) z_md rfl) rfl rfl hl.1 rfl (lv_room (Nat.le_of_ble_eq_true rfl)) dX12_judge_109 ⟨Nat.zero_le _, Nat.zero_le _⟩) hG (fun Z23 H locs hw hG => ?_)
    refine lv_iload_n hx hb dX12_judge_112 rfl (lv_at hl 1 rfl) ?_
    exact z_iret hF hG hr hlk hw dX12_judge_113
  have S35 : ∀ (L35 : Int32 → Int32 → zS → Prop), (∀ (x3 : Int32) (x4 : Int32) (Z : zS) (H : Heap) (locs : List Loc) (ls : Array Slot), zG E Z s H locs → lv_has ls 5 [(0, .ref (E.2.1 97)), (1, .int a1), (3, .int x3), (4, .int x4)] → L35 x3 x4 Z → W p l e R s m args below meth c H locs 0 0 (zQi E K below args s) (F0 m 35 ls [])) → ∀ (x3 : Int32) (x4 : Int32) (Z : zS) (H : Heap) (locs : List Loc) (ls : Array Slot), zG E Z s H locs → lv_has ls 5 [(0, .ref (E.2.1 97)), (1, .int a1), (3, .int x3), (4, .int x4)] → wX12_judge_35b L35 a1 x3 x4 Z K → W p l e R s m args below meth c H locs 0 0 (zQi E K below args s) (F0 m 35 ls []) := by
    intro L35 ih35
    have J94 : ∀ (x3 : Int32) (x4 : Int32) (Z : zS) (H : Heap) (locs : List Loc) (ls : Array Slot), zG E Z s H locs → lv_has ls 5 [(0, .ref (E.2.1 97)), (1, .int a1), (3, .int x3), (4, .int x4)] → wX12_judge_94 L35 a1 x3 x4 Z K → W p l e R s m args below meth c H locs 0 0 (zQi E K below args s) (F0 m 94 ls []) := by
      intro x3 x4 Z H locs ls hG hl hw
      unfold wX12_judge_94 at hw
      refine lv_aload_n hx hb dX12_judge_94 rfl (lv_at hl 0 rfl) ?_
      refine z_cv (va_runV (rest := []) hF.1 (kX12_goes l E Z   hw _) (cwV 0 hts gX12_judge_X12_goes rfl rfl rfl ⟨rfl, hS_yX12_goes⟩ ⟨Nat.le_trans (Nat.le_of_ble_eq_true rfl) hfr, Nat.le_trans (Nat.le_of_ble_eq_true rfl) hlo⟩) (z_preV hF hG 97 (by decide) z_md rfl) rfl rfl hl.1 rfl (lv_room (Nat.le_of_ble_eq_true rfl)) dX12_judge_95 ⟨Nat.zero_le _, Nat.zero_le _⟩) hG (fun Z21 H locs hw hG => ?_)
      obtain ⟨y22, ey22⟩ : ∃ y : Int32, y = x4 + 1 := ⟨_, rfl⟩
      replace hw := hw y22 ey22
      refine lv_iinc (v := y22) (lv' := [(4, .int y22), (0, .ref (E.2.1 97)), (1, .int a1), (3, .int x3)]) hx hb dX12_judge_98 hl (k := 3) rfl (by rw [ey22]; rfl) (by decide) rfl (fun ls hl => ?_)
      refine lv_goto (tgt := 35) hx hb dX12_judge_101 (by decide) ?_
      exact ih35 x3 y22 Z21 _ _ _ hG (lv_sub hl [1, 2, 3, 0] rfl) hw
    intro x3 x4 Z H locs ls hG hl hw
    unfold wX12_judge_35b at hw
    refine lv_iload hx hb dX12_judge_35 (lv_at hl 3 rfl) ?_
    refine lv_aload_n hx hb dX12_judge_37 rfl (lv_at hl 0 rfl) ?_
    refine z_get hF hG 97 (by decide) z_md rfl in12 16 (by decide) (List.mem_of_getElem? (i := 2) rfl) rfl rfl dX12_judge_38 ?_
    refine lv_iload_n hx hb dX12_judge_41 rfl (lv_at hl 1 rfl) ?_
    obtain ⟨q10, hw⟩ := hw
    refine z_iald hF hG 106 (by decide) z_m106 q10 dX12_judge_42 ?_
    refine lv_icmp_ge (tgt := 104) hx hb dX12_judge_43 (by decide) (fun c11 => ?_) (fun c11 => ?_)
    · replace hw := hw.1 c11
      exact J104 x3 Z _ _ _ hG (lv_sub hl [0, 2] rfl) hw
    replace hw := hw.2 c11
    refine lv_iload_n hx hb dX12_judge_46 rfl (lv_at hl 2 rfl) ?_
    refine lv_bipush (v := (-4)) hx hb dX12_judge_47 (by decide) ?_
    refine lv_icmp_ne (tgt := 104) hx hb dX12_judge_49 (by decide) (fun c12 => ?_) (fun c12 => ?_)
    · replace hw := hw.1 c12
      exact J104 x3 Z _ _ _ hG (lv_sub hl [0, 2] rfl) hw
    replace hw := hw.2 (fun h => h c12)
    refine lv_aload_n hx hb dX12_judge_52 rfl (lv_at hl 0 rfl) ?_
    refine lv_iload_n hx hb dX12_judge_53 rfl (lv_at hl 1 rfl) ?_
    refine lv_aload_n hx hb dX12_judge_54 rfl (lv_at hl 0 rfl) ?_
    refine z_get hF hG 97 (by decide) z_md rfl in12 17 (by decide) (List.mem_of_getElem? (i := 3) rfl) rfl rfl dX12_judge_55 ?_
    refine lv_bipush (v := 100) hx hb dX12_judge_58 (by decide) ?_
    refine lv_iload_n hx hb dX12_judge_60 rfl (lv_at hl 1 rfl) ?_
    refine lv_imul hx hb dX12_judge_61 ?_
    refine lv_iload hx hb dX12_judge_62 (lv_at hl 3 rfl) ?_
    refine lv_iadd hx hb dX12_judge_64 ?_
    obtain ⟨q13, hw⟩ := hw
    refine z_iald hF hG 107 (by decide) z_m107 q13 dX12_judge_65 ?_
    refine z_ci (va_runV (rest := []) hF.1 (kX12_isSkipped l E Z a1 ((Z 107 (((100 * a1) + x4) : Int32).toNatClampNeg))  hw _) (cwV 2 hts gX12_judge_X12_isSkipped rfl rfl rfl ⟨rfl, hS_yX12_isSkipped⟩ ⟨Nat.le_trans (Nat.le_of_ble_eq_true rfl) hfr, Nat.le_trans (Nat.le_of_ble_eq_true rfl) hlo⟩) (z_preV hF hG 97 (by decide) z_md rfl) rfl rfl hl.1 rfl (lv_room (Nat.le_of_ble_eq_true rfl)) dX12_judge_66 ⟨Nat.zero_le _, Nat.zero_le _⟩) hG (fun r15 Z14 H locs hw hG => ?_)
    refine lv_if_ne (tgt := 94) hx hb dX12_judge_69 (by decide) (fun c16 => ?_) (fun c16 => ?_)
    · replace hw := hw.1 c16
      exact J94 x3 x4 Z14 _ _ _ hG (lv_sub hl [0, 1, 2, 3] rfl) hw
    replace hw := hw.2 (fun h => h c16)
    refine lv_aload_n hx hb dX12_judge_72 rfl (lv_at hl 0 rfl) ?_
    refine z_get hF hG 97 (by decide) z_md rfl in12 17 (by decide) (List.mem_of_getElem? (i := 3) rfl) rfl rfl dX12_judge_73 ?_
    refine lv_bipush (v := 100) hx hb dX12_judge_76 (by decide) ?_
    refine lv_iload_n hx hb dX12_judge_78 rfl (lv_at hl 1 rfl) ?_
    refine lv_imul hx hb dX12_judge_79 ?_
    refine lv_iload hx hb dX12_judge_80 (lv_at hl 3 rfl) ?_
    refine lv_iadd hx hb dX12_judge_82 ?_
    obtain ⟨q17, hw⟩ := hw
    refine z_iald hF hG 107 (by decide) z_m107 q17 dX12_judge_83 ?_
    refine lv_aload_n hx hb dX12_judge_84 rfl (lv_at hl 0 rfl) ?_
    refine z_ci (va_runV (rest := [.int ((Z14 107 (((100 * a1) + x4) : Int32).toNatClampNeg))]) hF.1 (kX12_load l E Z14   hw _) (cwV 0 hts gX12_judge_X12_load rfl rfl rfl ⟨rfl, hS_yX12_load⟩ ⟨Nat.le_trans (Nat.le_of_ble_eq_true rfl) hfr, Nat.le_trans (Nat.le_of_ble_eq_true rfl) hlo⟩) (z_preV hF hG 97 (by decide) z_md rfl) rfl rfl hl.1 rfl (lv_room (Nat.le_of_ble_eq_true rfl)) dX12_judge_85 ⟨Nat.zero_le _, Nat.zero_le _⟩) hG (fun r19 Z18 H locs hw hG => ?_)
    refine lv_icmp_eq (tgt := 94) hx hb dX12_judge_88 (by decide) (fun c20 => ?_) (fun c20 => ?_)
    · replace hw := hw.1 c20
      exact J94 x3 x4 Z18 _ _ _ hG (lv_sub hl [0, 1, 2, 3] rfl) hw
    replace hw := hw.2 c20
    refine lv_iload hx hb dX12_judge_91 (lv_at hl 3 rfl) ?_
    refine lv_istore_n (lv' := [(3, .int x4), (0, .ref (E.2.1 97)), (1, .int a1), (4, .int x4)]) hx hb dX12_judge_93 rfl hl (by decide) rfl (fun ls hl => ?_)
    exact J94 x4 x4 Z18 _ _ _ hG (lv_sub hl [1, 2, 0, 3] rfl) hw
  have J35 : ∀ n : Nat, ∀ (x3 : Int32) (x4 : Int32) (Z : zS) (H : Heap) (locs : List Loc) (ls : Array Slot), zG E Z s H locs → lv_has ls 5 [(0, .ref (E.2.1 97)), (1, .int a1), (3, .int x3), (4, .int x4)] → wX12_judge_35 a1 K n x3 x4 Z → W p l e R s m args below meth c H locs 0 0 (zQi E K below args s) (F0 m 35 ls []) := by
    intro n
    induction n with
    | zero => intro x3 x4 Z H locs ls hG hl hw; exact hw.elim
    | succ n ih => intro x3 x4 Z H locs ls hG hl hw; exact S35 _ ih x3 x4 Z H locs ls hG hl hw
  unfold wX12_judge at hw
  refine lv_iload_n hx hb dX12_judge_0 rfl (lv_at hl 1 rfl) ?_
  refine z_ci (va_runS (rest := []) hF.1 (kX12_isShelf l E Z a1  hw _) (va_cwS 1 hts gX12_judge_X12_isShelf rfl rfl rfl hS_yX12_isShelf ⟨Nat.le_trans (Nat.le_of_ble_eq_true rfl) hfr, Nat.le_trans (Nat.le_of_ble_eq_true rfl) hlo⟩) (z_preS hF hG) rfl rfl hl.1 rfl (lv_room (Nat.le_of_ble_eq_true rfl)) dX12_judge_1 ⟨Nat.zero_le _, Nat.zero_le _⟩) hG (fun r2 Z1 H locs hw hG => ?_)
  refine lv_if_ne (tgt := 9) hx hb dX12_judge_4 (by decide) (fun c3 => ?_) (fun c3 => ?_)
  · replace hw := hw.1 c3
    refine lv_aload_n hx hb dX12_judge_9 rfl (lv_at hl 0 rfl) ?_
    refine lv_iload_n hx hb dX12_judge_10 rfl (lv_at hl 1 rfl) ?_
    refine z_ci (va_runV (rest := []) hF.1 (kX12_noRow l E Z1 a1  hw _) (cwV 1 hts gX12_judge_X12_noRow rfl rfl rfl ⟨rfl, hS_yX12_noRow⟩ ⟨Nat.le_trans (Nat.le_of_ble_eq_true rfl) hfr, Nat.le_trans (Nat.le_of_ble_eq_true rfl) hlo⟩) (z_preV hF hG 97 (by decide) z_md rfl) rfl rfl hl.1 rfl (lv_room (Nat.le_of_ble_eq_true rfl)) dX12_judge_11 ⟨Nat.zero_le _, Nat.zero_le _⟩) hG (fun r5 Z4 H locs hw hG => ?_)
    refine lv_istore_n (lv' := [(2, .int r5), (0, .ref (E.2.1 97)), (1, .int a1)]) hx hb dX12_judge_14 rfl hl (by decide) rfl (fun ls hl => ?_)
    refine lv_iload_n hx hb dX12_judge_15 rfl (lv_at hl 0 rfl) ?_
    refine lv_if_ge (tgt := 21) hx hb dX12_judge_16 (by decide) (fun c6 => ?_) (fun c6 => ?_)
    · replace hw := hw.1 c6
      refine lv_aload_n hx hb dX12_judge_21 rfl (lv_at hl 1 rfl) ?_
      refine lv_aload_n hx hb dX12_judge_22 rfl (lv_at hl 1 rfl) ?_
      refine z_get hF hG 97 (by decide) z_md rfl in12 10 (by decide) (List.mem_of_getElem? (i := 1) rfl) rfl rfl dX12_judge_23 ?_
      refine z_cv (va_runV (rest := []) hF.1 (kX12_keep l E Z4 102 122 (by decide) (fun _ => z_m102) hw _) (cwV 1 hts gX12_judge_X12_keep rfl rfl rfl ⟨rfl, hS_yX12_keep⟩ ⟨Nat.le_trans (Nat.le_of_ble_eq_true rfl) hfr, Nat.le_trans (Nat.le_of_ble_eq_true rfl) hlo⟩) (z_preV hF hG 97 (by decide) z_md rfl) rfl rfl hl.1 rfl (lv_room (Nat.le_of_ble_eq_true rfl)) dX12_judge_26 ⟨Nat.zero_le _, Nat.zero_le _⟩) hG (fun Z7 H locs hw hG => ?_)
      refine lv_bipush (v := (-4)) hx hb dX12_judge_29 (by decide) ?_
      refine lv_topi (fun y8 ey8 => ?_)
      replace hw := hw y8 ey8
      refine lv_istore_n (lv' := [(3, .int y8), (2, .int r5), (0, .ref (E.2.1 97)), (1, .int a1)]) hx hb dX12_judge_31 rfl hl (by decide) rfl (fun ls hl => ?_)
      refine lv_iconst (v := 0) hx hb dX12_judge_32 (by decide) ?_
      refine lv_topi (fun y9 ey9 => ?_)
      replace hw := hw y9 ey9
      refine lv_istore (lv' := [(4, .int y9), (3, .int y8), (2, .int r5), (0, .ref (E.2.1 97)), (1, .int a1)]) hx hb dX12_judge_33 hl (by decide) rfl (fun ls hl => ?_)
      obtain ⟨n35, hw⟩ := hw
      exact J35 n35 y8 y9 Z7 _ _ _ hG (lv_sub hl [3, 4, 1, 0] rfl) hw
    replace hw := hw.2 c6
    refine lv_iload_n hx hb dX12_judge_19 rfl (lv_at hl 0 rfl) ?_
    exact z_iret hF hG hr hlk hw dX12_judge_20
  replace hw := hw.2 (fun h => h c3)
  refine lv_iconst (v := (-1)) hx hb dX12_judge_7 (by decide) ?_
  exact z_iret hF hG hr hlk hw dX12_judge_8
set_option maxHeartbeats 4000000 in
set_option maxRecDepth 100000 in
theorem kX12_draw (l : Launch) (E : zE) (Z : zS) (a1 : Int32) {K : Int32 → zS → Prop} (hw : wX12_draw a1 Z K) : zCi l yX12_draw wsX12_draw ({ frames := 0, cells := 0, slots := 0, locals := 0 } : Room) E Z [.ref (E.2.1 97), .int a1] K := by
  refine z_bodyi (cc := cX12_draw) (nL := 2) (ret := .int) (by decide) rfl (Nat.le_of_ble_eq_true rfl) ?_
  intro p e R s m args below meth c ls hfr hlo hF hr hlk hG hl
  have hx := hF.1.1
  have hb := hF.1.2.1
  have hown := hF.1.2.2.2.1
  have hts := hF.1.2.2.2.2
  have in12 : ∀ w ∈ u_ws RX12 TX12 22, w ∈ wsX12_draw := fun _ h => List.mem_cons_of_mem _ (List.mem_append_right _ h)
  have hl : lv_has ls 2 [(0, .ref (E.2.1 97)), (1, .int a1)] := hl
  unfold wX12_draw at hw
  refine lv_aload_n hx hb dX12_draw_0 rfl (lv_at hl 0 rfl) ?_
  refine lv_aload_n hx hb dX12_draw_1 rfl (lv_at hl 0 rfl) ?_
  refine z_get hF hG 97 (by decide) z_md rfl in12 13 (by decide) (List.mem_of_getElem? (i := 1) rfl) rfl rfl dX12_draw_2 ?_
  refine lv_ldc hx hb hown (hts (.constant RX12 249 (1103515245)) (List.mem_of_getElem? (i := 2) rfl)) dX12_draw_5 ?_
  refine lv_imul hx hb dX12_draw_7 ?_
  refine lv_sipush (v := 12345) hx hb dX12_draw_8 (by decide) ?_
  refine lv_iadd hx hb dX12_draw_11 ?_
  refine z_put hF hG 97 (by decide) z_md rfl in12 tyX12_ok nmX12 13 (by decide) (List.mem_of_getElem? (i := 1) rfl) rfl rfl (tyX12_ok 13 (by decide)) rfl rfl (Nat.le_of_ble_eq_true rfl) ((((Z 97 13) * 1103515245) + 12345)) z_md dX12_draw_12 (fun Z1 H locs eZ1 hG => ?_)
  replace hw := hw Z1 eZ1
  refine lv_aload_n hx hb dX12_draw_15 rfl (lv_at hl 0 rfl) ?_
  refine z_get hF hG 97 (by decide) z_md rfl in12 13 (by decide) (List.mem_of_getElem? (i := 1) rfl) rfl rfl dX12_draw_16 ?_
  refine lv_ldc hx hb hown (hts (.constant RX12 250 (2147483647)) (List.mem_of_getElem? (i := 3) rfl)) dX12_draw_19 ?_
  refine lv_iand hx hb dX12_draw_21 ?_
  refine lv_ldc hx hb hown (hts (.constant RX12 251 (65536)) (List.mem_of_getElem? (i := 4) rfl)) dX12_draw_22 ?_
  refine lv_idiv hx hb dX12_draw_24 hw.1 ?_
  replace hw := hw.2
  refine lv_iload_n hx hb dX12_draw_25 rfl (lv_at hl 1 rfl) ?_
  refine lv_irem hx hb dX12_draw_26 hw.1 ?_
  replace hw := hw.2
  exact z_iret hF hG hr hlk hw dX12_draw_27
theorem hS_yX12_draw : yX12_draw.cls ≠ "java/lang/invoke/MethodHandle" ∧ yX12_draw.cls ≠ "java/lang/invoke/VarHandle" ∧ (parseMethodDescriptor yX12_draw.desc).map (fun d => d.parameters.length) = some 1 := by decide +kernel
set_option maxHeartbeats 4000000 in
set_option maxRecDepth 100000 in
theorem kX12_sixTimes (l : Launch) (E : zE) (Z : zS) {K : zS → Prop} (hw : wX12_sixTimes Z K) : zCv l yX12_sixTimes wsX12_sixTimes ({ frames := 7, cells := 0, slots := 0, locals := 150 } : Room) E Z [.ref (E.2.1 97)] K := by
  refine z_bodyv (cc := cX12_sixTimes) (nL := 5) (by decide) rfl (Nat.le_of_ble_eq_true rfl) ?_
  intro p e R s m args below meth c ls hfr hlo hF hr hlk hG hl
  have hx := hF.1.1
  have hb := hF.1.2.1
  have hown := hF.1.2.2.2.1
  have hts := hF.1.2.2.2.2
  have in12 : ∀ w ∈ u_ws RX12 TX12 22, w ∈ wsX12_sixTimes := fun _ h => List.mem_cons_of_mem _ (List.mem_append_right _ h)
  have hl : lv_has ls 5 [(0, .ref (E.2.1 97))] := hl
  have S2 : ∀ (L2 : Int32 → zS → Prop), (∀ (x1 : Int32) (Z : zS) (H : Heap) (locs : List Loc) (ls : Array Slot), zG E Z s H locs → lv_has ls 5 [(0, .ref (E.2.1 97)), (1, .int x1)] → L2 x1 Z → W p l e R s m args below meth c H locs 0 0 (zQv E K below args s) (F0 m 2 ls [])) → ∀ (x1 : Int32) (Z : zS) (H : Heap) (locs : List Loc) (ls : Array Slot), zG E Z s H locs → lv_has ls 5 [(0, .ref (E.2.1 97)), (1, .int x1)] → wX12_sixTimes_2b L2 x1 Z K → W p l e R s m args below meth c H locs 0 0 (zQv E K below args s) (F0 m 2 ls []) := by
    intro L2 ih2
    have J55 : ∀ (x1 : Int32) (Z : zS) (H : Heap) (locs : List Loc) (ls : Array Slot), zG E Z s H locs → lv_has ls 5 [(0, .ref (E.2.1 97)), (1, .int x1)] → wX12_sixTimes_55 L2 x1 Z K → W p l e R s m args below meth c H locs 0 0 (zQv E K below args s) (F0 m 55 ls []) := by
      intro x1 Z H locs ls hG hl hw
      unfold wX12_sixTimes_55 at hw
      refine lv_aload_n hx hb dX12_sixTimes_55 rfl (lv_at hl 0 rfl) ?_
      refine lv_iconst (v := 5) hx hb dX12_sixTimes_56 (by decide) ?_
      refine z_cv (va_runV (rest := []) hF.1 (kX12_goesOn l E Z 5  hw _) (cwV 1 hts gX12_sixTimes_X12_goesOn rfl rfl rfl ⟨rfl, hS_yX12_goesOn⟩ ⟨Nat.le_trans (Nat.le_of_ble_eq_true rfl) hfr, Nat.le_trans (Nat.le_of_ble_eq_true rfl) hlo⟩) (z_preV hF hG 97 (by decide) z_md rfl) rfl rfl hl.1 rfl (lv_room (Nat.le_of_ble_eq_true rfl)) dX12_sixTimes_57 ⟨Nat.zero_le _, Nat.zero_le _⟩) hG (fun Z13 H locs hw hG => ?_)
      obtain ⟨y14, ey14⟩ : ∃ y : Int32, y = x1 + 1 := ⟨_, rfl⟩
      replace hw := hw y14 ey14
      refine lv_iinc (v := y14) (lv' := [(1, .int y14), (0, .ref (E.2.1 97))]) hx hb dX12_sixTimes_60 hl (k := 1) rfl (by rw [ey14]; rfl) (by decide) rfl (fun ls hl => ?_)
      refine lv_goto (tgt := 2) hx hb dX12_sixTimes_63 (by decide) ?_
      exact ih2 y14 Z13 _ _ _ hG (lv_sub hl [1, 0] rfl) hw
    intro x1 Z H locs ls hG hl hw
    unfold wX12_sixTimes_2b at hw
    refine lv_iload_n hx hb dX12_sixTimes_2 rfl (lv_at hl 1 rfl) ?_
    refine lv_bipush (v := 6) hx hb dX12_sixTimes_3 (by decide) ?_
    refine lv_icmp_ge (tgt := 66) hx hb dX12_sixTimes_5 (by decide) (fun c2 => ?_) (fun c2 => ?_)
    · replace hw := hw.1 c2
      exact z_vret hF hG hr hlk hw dX12_sixTimes_66
    replace hw := hw.2 c2
    refine lv_iconst (v := 1) hx hb dX12_sixTimes_8 (by decide) ?_
    refine lv_aload_n hx hb dX12_sixTimes_9 rfl (lv_at hl 0 rfl) ?_
    refine lv_bipush (v := 9) hx hb dX12_sixTimes_10 (by decide) ?_
    refine z_ci (va_runV (rest := [.int 1]) hF.1 (kX12_draw l E Z 9  hw _) (cwV 1 hts gX12_sixTimes_X12_draw rfl rfl rfl ⟨rfl, hS_yX12_draw⟩ ⟨Nat.le_trans (Nat.le_of_ble_eq_true rfl) hfr, Nat.le_trans (Nat.le_of_ble_eq_true rfl) hlo⟩) (z_preV hF hG 97 (by decide) z_md rfl) rfl rfl hl.1 rfl (lv_room (Nat.le_of_ble_eq_true rfl)) dX12_sixTimes_12 ⟨Nat.zero_le _, Nat.zero_le _⟩) hG (fun r4 Z3 H locs hw hG => ?_)
    refine lv_iadd hx hb dX12_sixTimes_15 ?_
    refine lv_topi (fun y5 ey5 => ?_)
    replace hw := hw y5 ey5
    refine lv_istore_n (lv' := [(2, .int y5), (0, .ref (E.2.1 97)), (1, .int x1)]) hx hb dX12_sixTimes_16 rfl hl (by decide) rfl (fun ls hl => ?_)
    refine lv_aload_n hx hb dX12_sixTimes_17 rfl (lv_at hl 1 rfl) ?_
    refine lv_iconst (v := 4) hx hb dX12_sixTimes_18 (by decide) ?_
    refine z_ci (va_runV (rest := []) hF.1 (kX12_draw l E Z3 4  hw _) (cwV 1 hts gX12_sixTimes_X12_draw rfl rfl rfl ⟨rfl, hS_yX12_draw⟩ ⟨Nat.le_trans (Nat.le_of_ble_eq_true rfl) hfr, Nat.le_trans (Nat.le_of_ble_eq_true rfl) hlo⟩) (z_preV hF hG 97 (by decide) z_md rfl) rfl rfl hl.1 rfl (lv_room (Nat.le_of_ble_eq_true rfl)) dX12_sixTimes_19 ⟨Nat.zero_le _, Nat.zero_le _⟩) hG (fun r7 Z6 H locs hw hG => ?_)
    refine lv_istore_n (lv' := [(3, .int r7), (2, .int y5), (0, .ref (E.2.1 97)), (1, .int x1)]) hx hb dX12_sixTimes_22 rfl hl (by decide) rfl (fun ls hl => ?_)
    refine lv_aload_n hx hb dX12_sixTimes_23 rfl (lv_at hl 2 rfl) ?_
    refine lv_aload_n hx hb dX12_sixTimes_24 rfl (lv_at hl 2 rfl) ?_
    refine z_get hF hG 97 (by decide) z_md rfl in12 1 (by decide) (List.mem_of_getElem? (i := 1) rfl) rfl rfl dX12_sixTimes_25 ?_
    refine z_ci (va_runV (rest := []) hF.1 (kX12_draw l E Z6 ((Z6 97 1))  hw _) (cwV 1 hts gX12_sixTimes_X12_draw rfl rfl rfl ⟨rfl, hS_yX12_draw⟩ ⟨Nat.le_trans (Nat.le_of_ble_eq_true rfl) hfr, Nat.le_trans (Nat.le_of_ble_eq_true rfl) hlo⟩) (z_preV hF hG 97 (by decide) z_md rfl) rfl rfl hl.1 rfl (lv_room (Nat.le_of_ble_eq_true rfl)) dX12_sixTimes_28 ⟨Nat.zero_le _, Nat.zero_le _⟩) hG (fun r9 Z8 H locs hw hG => ?_)
    refine lv_istore (lv' := [(4, .int r9), (3, .int r7), (2, .int y5), (0, .ref (E.2.1 97)), (1, .int x1)]) hx hb dX12_sixTimes_31 hl (by decide) rfl (fun ls hl => ?_)
    refine lv_aload_n hx hb dX12_sixTimes_33 rfl (lv_at hl 3 rfl) ?_
    refine z_get hF hG 97 (by decide) z_md rfl in12 2 (by decide) (List.mem_of_getElem? (i := 2) rfl) rfl rfl dX12_sixTimes_34 ?_
    refine lv_bipush (v := 42) hx hb dX12_sixTimes_37 (by decide) ?_
    refine lv_iload hx hb dX12_sixTimes_39 (lv_at hl 0 rfl) ?_
    refine lv_iadd hx hb dX12_sixTimes_41 ?_
    obtain ⟨q10, hw⟩ := hw
    refine z_iald hF hG 98 (by decide) z_m98 q10 dX12_sixTimes_42 ?_
    refine lv_iconst (v := 4) hx hb dX12_sixTimes_43 (by decide) ?_
    refine lv_icmp_ge (tgt := 55) hx hb dX12_sixTimes_44 (by decide) (fun c11 => ?_) (fun c11 => ?_)
    · replace hw := hw.1 c11
      exact J55 x1 Z8 _ _ _ hG (lv_sub hl [3, 4] rfl) hw
    replace hw := hw.2 c11
    refine lv_aload_n hx hb dX12_sixTimes_47 rfl (lv_at hl 3 rfl) ?_
    refine lv_iload hx hb dX12_sixTimes_48 (lv_at hl 0 rfl) ?_
    refine lv_iload_n hx hb dX12_sixTimes_50 rfl (lv_at hl 2 rfl) ?_
    refine lv_iload_n hx hb dX12_sixTimes_51 rfl (lv_at hl 1 rfl) ?_
    refine z_cv (va_runV (rest := []) hF.1 (kX12_jobComes l E Z8 r9 y5 r7  hw _) (cwV 3 hts gX12_sixTimes_X12_jobComes rfl rfl rfl ⟨rfl, hS_yX12_jobComes⟩ ⟨Nat.le_trans (Nat.le_of_ble_eq_true rfl) hfr, Nat.le_trans (Nat.le_of_ble_eq_true rfl) hlo⟩) (z_preV hF hG 97 (by decide) z_md rfl) rfl rfl hl.1 rfl (lv_room (Nat.le_of_ble_eq_true rfl)) dX12_sixTimes_52 ⟨Nat.zero_le _, Nat.zero_le _⟩) hG (fun Z12 H locs hw hG => ?_)
    exact J55 x1 Z12 _ _ _ hG (lv_sub hl [3, 4] rfl) hw
  have J2 : ∀ n : Nat, ∀ (x1 : Int32) (Z : zS) (H : Heap) (locs : List Loc) (ls : Array Slot), zG E Z s H locs → lv_has ls 5 [(0, .ref (E.2.1 97)), (1, .int x1)] → wX12_sixTimes_2 K n x1 Z → W p l e R s m args below meth c H locs 0 0 (zQv E K below args s) (F0 m 2 ls []) := by
    intro n
    induction n with
    | zero => intro x1 Z H locs ls hG hl hw; exact hw.elim
    | succ n ih => intro x1 Z H locs ls hG hl hw; exact S2 _ ih x1 Z H locs ls hG hl hw
  unfold wX12_sixTimes at hw
  refine lv_iconst (v := 0) hx hb dX12_sixTimes_0 (by decide) ?_
  refine lv_topi (fun y1 ey1 => ?_)
  replace hw := hw y1 ey1
  refine lv_istore_n (lv' := [(1, .int y1), (0, .ref (E.2.1 97))]) hx hb dX12_sixTimes_1 rfl hl (by decide) rfl (fun ls hl => ?_)
  obtain ⟨n2, hw⟩ := hw
  exact J2 n2 y1 Z _ _ _ hG (lv_sub hl [1, 0] rfl) hw
