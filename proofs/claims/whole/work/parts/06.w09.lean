theorem hS_yX12_isShelf : yX12_isShelf.cls ≠ "java/lang/invoke/MethodHandle" ∧ yX12_isShelf.cls ≠ "java/lang/invoke/VarHandle" ∧ (parseMethodDescriptor yX12_isShelf.desc).map (fun d => d.parameters.length) = some 1 := by decide +kernel
theorem hS_yX12_noBytes : yX12_noBytes.cls ≠ "java/lang/invoke/MethodHandle" ∧ yX12_noBytes.cls ≠ "java/lang/invoke/VarHandle" ∧ (parseMethodDescriptor yX12_noBytes.desc).map (fun d => d.parameters.length) = some 1 := by decide +kernel
theorem hS_yX12_keep : yX12_keep.cls ≠ "java/lang/invoke/MethodHandle" ∧ yX12_keep.cls ≠ "java/lang/invoke/VarHandle" ∧ (parseMethodDescriptor yX12_keep.desc).map (fun d => d.parameters.length) = some 1 := by decide +kernel
theorem hS_yX12_again : yX12_again.cls ≠ "java/lang/invoke/MethodHandle" ∧ yX12_again.cls ≠ "java/lang/invoke/VarHandle" ∧ (parseMethodDescriptor yX12_again.desc).map (fun d => d.parameters.length) = some 1 := by decide +kernel
theorem hS_yX12_statement : yX12_statement.cls ≠ "java/lang/invoke/MethodHandle" ∧ yX12_statement.cls ≠ "java/lang/invoke/VarHandle" ∧ (parseMethodDescriptor yX12_statement.desc).map (fun d => d.parameters.length) = some 0 := by decide +kernel
set_option maxHeartbeats 4000000 in
set_option maxRecDepth 100000 in
theorem kX12_text (l : Launch) (E : zE) (Z : zS) (a1 : Int32) {K : Int32 → zS → Prop} (hw : wX12_text a1 Z K) : zCi l yX12_text wsX12_text ({ frames := 8, cells := 0, slots := 0, locals := 172 } : Room) E Z [.ref (E.2.1 97), .int a1] K := by
  refine z_bodyi (cc := cX12_text) (nL := 8) (ret := .int) (by decide) rfl (Nat.le_of_ble_eq_true rfl) ?_
  intro p e R s m args below meth c ls hfr hlo hF hr hlk hG hl
  have hx := hF.1.1
  have hb := hF.1.2.1
  have hown := hF.1.2.2.2.1
  have hts := hF.1.2.2.2.2
  have in12 : ∀ w ∈ u_ws RX12 TX12 22, w ∈ wsX12_text := fun _ h => List.mem_cons_of_mem _ (List.mem_append_right _ h)
  have hl : lv_has ls 8 [(0, .ref (E.2.1 97)), (1, .int a1)] := hl
  have S51 : ∀ (L51 : Int32 → Int32 → Int32 → zS → Prop), (∀ (x3 : Int32) (x4 : Int32) (x6 : Int32) (Z : zS) (H : Heap) (locs : List Loc) (ls : Array Slot), zG E Z s H locs → lv_has ls 8 [(0, .ref (E.2.1 97)), (1, .int a1), (3, .int x3), (4, .int x4), (6, .int x6)] → L51 x3 x4 x6 Z → W p l e R s m args below meth c H locs 0 0 (zQi E K below args s) (F0 m 51 ls [])) → ∀ (x3 : Int32) (x4 : Int32) (x6 : Int32) (Z : zS) (H : Heap) (locs : List Loc) (ls : Array Slot), zG E Z s H locs → lv_has ls 8 [(0, .ref (E.2.1 97)), (1, .int a1), (3, .int x3), (4, .int x4), (6, .int x6)] → wX12_text_51b L51 a1 x3 x4 x6 Z K → W p l e R s m args below meth c H locs 0 0 (zQi E K below args s) (F0 m 51 ls []) := by
    intro L51 ih51
    have J128 : ∀ (x3 : Int32) (x4 : Int32) (s0 : Int32) (Z : zS) (H : Heap) (locs : List Loc) (ls : Array Slot), zG E Z s H locs → lv_has ls 8 [(0, .ref (E.2.1 97)), (1, .int a1), (3, .int x3), (4, .int x4)] → wX12_text_128 L51 a1 x3 x4 s0 Z K → W p l e R s m args below meth c H locs 0 0 (zQi E K below args s) (F0 m 128 ls [.int s0]) := by
      intro x3 x4 s0 Z H locs ls hG hl hw
      unfold wX12_text_128 at hw
      refine lv_istore (lv' := [(6, .int s0), (0, .ref (E.2.1 97)), (1, .int a1), (3, .int x3), (4, .int x4)]) hx hb dX12_text_128 hl (by decide) rfl (fun ls hl => ?_)
      refine lv_goto (tgt := 51) hx hb dX12_text_130 (by decide) ?_
      exact ih51 x3 x4 s0 Z _ _ _ hG (lv_sub hl [1, 2, 3, 4, 0] rfl) hw
    have J84 : ∀ (x3 : Int32) (x4 : Int32) (x7 : Int32) (Z : zS) (H : Heap) (locs : List Loc) (ls : Array Slot), zG E Z s H locs → lv_has ls 8 [(0, .ref (E.2.1 97)), (1, .int a1), (3, .int x3), (4, .int x4), (7, .int x7)] → wX12_text_84 L51 a1 x3 x4 x7 Z K → W p l e R s m args below meth c H locs 0 0 (zQi E K below args s) (F0 m 84 ls []) := by
      intro x3 x4 x7 Z H locs ls hG hl hw
      unfold wX12_text_84 at hw
      refine lv_iload hx hb dX12_text_84 (lv_at hl 4 rfl) ?_
      refine lv_iconst (v := (-1)) hx hb dX12_text_86 (by decide) ?_
      refine lv_icmp_ne (tgt := 107) hx hb dX12_text_87 (by decide) (fun c22 => ?_) (fun c22 => ?_)
      · replace hw := hw.1 c22
        obtain ⟨y23, ey23⟩ : ∃ y : Int32, y = x3 + 1 := ⟨_, rfl⟩
        replace hw := hw y23 ey23
        refine lv_iinc (v := y23) (lv' := [(3, .int y23), (0, .ref (E.2.1 97)), (1, .int a1), (4, .int x4), (7, .int x7)]) hx hb dX12_text_107 hl (k := 2) rfl (by rw [ey23]; rfl) (by decide) rfl (fun ls hl => ?_)
        refine lv_aload_n hx hb dX12_text_110 rfl (lv_at hl 1 rfl) ?_
        refine z_get hF hG 97 (by decide) z_md rfl in12 8 (by decide) (List.mem_of_getElem? (i := 2) rfl) rfl rfl dX12_text_111 ?_
        refine lv_aload_n hx hb dX12_text_114 rfl (lv_at hl 1 rfl) ?_
        refine z_get hF hG 97 (by decide) z_md rfl in12 16 (by decide) (List.mem_of_getElem? (i := 4) rfl) rfl rfl dX12_text_115 ?_
        refine lv_iload_n hx hb dX12_text_118 rfl (lv_at hl 2 rfl) ?_
        obtain ⟨q24, hw⟩ := hw
        refine z_iald hF hG 106 (by decide) z_m106 q24 dX12_text_119 ?_
        refine lv_icmp_ge (tgt := 127) hx hb dX12_text_120 (by decide) (fun c25 => ?_) (fun c25 => ?_)
        · replace hw := hw.1 c25
          refine lv_iconst (v := 0) hx hb dX12_text_127 (by decide) ?_
          exact J128 y23 x4 0 Z _ _ _ hG (lv_sub hl [1, 2, 0, 3] rfl) hw
        replace hw := hw.2 c25
        refine lv_iconst (v := 1) hx hb dX12_text_123 (by decide) ?_
        refine lv_goto (tgt := 128) hx hb dX12_text_124 (by decide) ?_
        exact J128 y23 x4 1 Z _ _ _ hG (lv_sub hl [1, 2, 0, 3] rfl) hw
      replace hw := hw.2 (fun h => h c22)
      refine lv_aload_n hx hb dX12_text_90 rfl (lv_at hl 0 rfl) ?_
      refine lv_aload_n hx hb dX12_text_91 rfl (lv_at hl 0 rfl) ?_
      refine z_get hF hG 97 (by decide) z_md rfl in12 10 (by decide) (List.mem_of_getElem? (i := 3) rfl) rfl rfl dX12_text_92 ?_
      refine z_cv (va_runV (rest := []) hF.1 (kX12_again l E Z 102 122 (by decide) (fun _ => z_m102) hw _) (cwV 1 hts gX12_text_X12_again rfl rfl rfl ⟨rfl, hS_yX12_again⟩ ⟨Nat.le_trans (Nat.le_of_ble_eq_true rfl) hfr, Nat.le_trans (Nat.le_of_ble_eq_true rfl) hlo⟩) (z_preV hF hG 97 (by decide) z_md rfl) rfl rfl hl.1 rfl (lv_room (Nat.le_of_ble_eq_true rfl)) dX12_text_95 ⟨Nat.zero_le _, Nat.zero_le _⟩) hG (fun Z26 H locs hw hG => ?_)
      refine lv_sipush (v := (-1000)) hx hb dX12_text_98 (by decide) ?_
      refine lv_aload_n hx hb dX12_text_101 rfl (lv_at hl 0 rfl) ?_
      refine z_get hF hG 97 (by decide) z_md rfl in12 8 (by decide) (List.mem_of_getElem? (i := 2) rfl) rfl rfl dX12_text_102 ?_
      refine lv_isub hx hb dX12_text_105 ?_
      exact z_iret hF hG hr hlk hw dX12_text_106
    intro x3 x4 x6 Z H locs ls hG hl hw
    unfold wX12_text_51b at hw
    refine lv_iload hx hb dX12_text_51 (lv_at hl 4 rfl) ?_
    refine lv_if_eq (tgt := 133) hx hb dX12_text_53 (by decide) (fun c14 => ?_) (fun c14 => ?_)
    · replace hw := hw.1 c14
      refine lv_iload hx hb dX12_text_133 (lv_at hl 3 rfl) ?_
      refine lv_bipush (v := (-4)) hx hb dX12_text_135 (by decide) ?_
      refine lv_icmp_ne (tgt := 142) hx hb dX12_text_137 (by decide) (fun c15 => ?_) (fun c15 => ?_)
      · replace hw := hw.1 c15
        refine lv_aload_n hx hb dX12_text_142 rfl (lv_at hl 0 rfl) ?_
        refine lv_aload_n hx hb dX12_text_143 rfl (lv_at hl 0 rfl) ?_
        refine z_get hF hG 97 (by decide) z_md rfl in12 10 (by decide) (List.mem_of_getElem? (i := 3) rfl) rfl rfl dX12_text_144 ?_
        refine z_cv (va_runV (rest := []) hF.1 (kX12_again l E Z 102 122 (by decide) (fun _ => z_m102) hw _) (cwV 1 hts gX12_text_X12_again rfl rfl rfl ⟨rfl, hS_yX12_again⟩ ⟨Nat.le_trans (Nat.le_of_ble_eq_true rfl) hfr, Nat.le_trans (Nat.le_of_ble_eq_true rfl) hlo⟩) (z_preV hF hG 97 (by decide) z_md rfl) rfl rfl hl.1 rfl (lv_room (Nat.le_of_ble_eq_true rfl)) dX12_text_147 ⟨Nat.zero_le _, Nat.zero_le _⟩) hG (fun Z16 H locs hw hG => ?_)
        refine lv_sipush (v := (-2000)) hx hb dX12_text_150 (by decide) ?_
        refine lv_iload hx hb dX12_text_153 (lv_at hl 3 rfl) ?_
        refine lv_isub hx hb dX12_text_155 ?_
        exact z_iret hF hG hr hlk hw dX12_text_156
      replace hw := hw.2 (fun h => h c15)
      refine lv_iload_n hx hb dX12_text_140 rfl (lv_at hl 2 rfl) ?_
      exact z_iret hF hG hr hlk hw dX12_text_141
    replace hw := hw.2 c14
    refine lv_aload_n hx hb dX12_text_56 rfl (lv_at hl 0 rfl) ?_
    refine z_get hF hG 97 (by decide) z_md rfl in12 8 (by decide) (List.mem_of_getElem? (i := 2) rfl) rfl rfl dX12_text_57 ?_
    refine lv_topi (fun y17 ey17 => ?_)
    replace hw := hw y17 ey17
    refine lv_istore (lv' := [(5, .int y17), (0, .ref (E.2.1 97)), (1, .int a1), (3, .int x3), (4, .int x4), (6, .int x6)]) hx hb dX12_text_60 hl (by decide) rfl (fun ls hl => ?_)
    refine lv_aload_n hx hb dX12_text_62 rfl (lv_at hl 1 rfl) ?_
    refine z_ci (va_runV (rest := []) hF.1 (kX12_statement l E Z   hw _) (cwV 0 hts gX12_text_X12_statement rfl rfl rfl ⟨rfl, hS_yX12_statement⟩ ⟨Nat.le_trans (Nat.le_of_ble_eq_true rfl) hfr, Nat.le_trans (Nat.le_of_ble_eq_true rfl) hlo⟩) (z_preV hF hG 97 (by decide) z_md rfl) rfl rfl hl.1 rfl (lv_room (Nat.le_of_ble_eq_true rfl)) dX12_text_63 ⟨Nat.zero_le _, Nat.zero_le _⟩) hG (fun r19 Z18 H locs hw hG => ?_)
    refine lv_istore (lv' := [(7, .int r19), (5, .int y17), (0, .ref (E.2.1 97)), (1, .int a1), (3, .int x3), (4, .int x4), (6, .int x6)]) hx hb dX12_text_66 hl (by decide) rfl (fun ls hl => ?_)
    refine lv_iload hx hb dX12_text_68 (lv_at hl 0 rfl) ?_
    refine lv_if_ne (tgt := 84) hx hb dX12_text_70 (by decide) (fun c20 => ?_) (fun c20 => ?_)
    · replace hw := hw.1 c20
      exact J84 x3 x4 r19 Z18 _ _ _ hG (lv_sub hl [2, 3, 4, 5, 0] rfl) hw
    replace hw := hw.2 (fun h => h c20)
    refine lv_iload hx hb dX12_text_73 (lv_at hl 5 rfl) ?_
    refine lv_bipush (v := (-4)) hx hb dX12_text_75 (by decide) ?_
    refine lv_icmp_ne (tgt := 84) hx hb dX12_text_77 (by decide) (fun c21 => ?_) (fun c21 => ?_)
    · replace hw := hw.1 c21
      exact J84 x3 x4 r19 Z18 _ _ _ hG (lv_sub hl [2, 3, 4, 5, 0] rfl) hw
    replace hw := hw.2 (fun h => h c21)
    refine lv_iload hx hb dX12_text_80 (lv_at hl 1 rfl) ?_
    refine lv_istore (lv' := [(4, .int y17), (7, .int r19), (5, .int y17), (0, .ref (E.2.1 97)), (1, .int a1), (3, .int x3), (6, .int x6)]) hx hb dX12_text_82 hl (by decide) rfl (fun ls hl => ?_)
    exact J84 x3 y17 r19 Z18 _ _ _ hG (lv_sub hl [3, 4, 5, 0, 1] rfl) hw
  have J51 : ∀ n : Nat, ∀ (x3 : Int32) (x4 : Int32) (x6 : Int32) (Z : zS) (H : Heap) (locs : List Loc) (ls : Array Slot), zG E Z s H locs → lv_has ls 8 [(0, .ref (E.2.1 97)), (1, .int a1), (3, .int x3), (4, .int x4), (6, .int x6)] → wX12_text_51 a1 K n x3 x4 x6 Z → W p l e R s m args below meth c H locs 0 0 (zQi E K below args s) (F0 m 51 ls []) := by
    intro n
    induction n with
    | zero => intro x3 x4 x6 Z H locs ls hG hl hw; exact hw.elim
    | succ n ih => intro x3 x4 x6 Z H locs ls hG hl hw; exact S51 _ ih x3 x4 x6 Z H locs ls hG hl hw
  unfold wX12_text at hw
  refine lv_iload_n hx hb dX12_text_0 rfl (lv_at hl 1 rfl) ?_
  refine z_ci (va_runS (rest := []) hF.1 (kX12_isShelf l E Z a1  hw _) (va_cwS 1 hts gX12_text_X12_isShelf rfl rfl rfl hS_yX12_isShelf ⟨Nat.le_trans (Nat.le_of_ble_eq_true rfl) hfr, Nat.le_trans (Nat.le_of_ble_eq_true rfl) hlo⟩) (z_preS hF hG) rfl rfl hl.1 rfl (lv_room (Nat.le_of_ble_eq_true rfl)) dX12_text_1 ⟨Nat.zero_le _, Nat.zero_le _⟩) hG (fun r2 Z1 H locs hw hG => ?_)
  refine lv_if_ne (tgt := 9) hx hb dX12_text_4 (by decide) (fun c3 => ?_) (fun c3 => ?_)
  · replace hw := hw.1 c3
    refine lv_aload_n hx hb dX12_text_9 rfl (lv_at hl 0 rfl) ?_
    refine lv_iload_n hx hb dX12_text_10 rfl (lv_at hl 1 rfl) ?_
    refine z_ci (va_runV (rest := []) hF.1 (kX12_noBytes l E Z1 a1  hw _) (cwV 1 hts gX12_text_X12_noBytes rfl rfl rfl ⟨rfl, hS_yX12_noBytes⟩ ⟨Nat.le_trans (Nat.le_of_ble_eq_true rfl) hfr, Nat.le_trans (Nat.le_of_ble_eq_true rfl) hlo⟩) (z_preV hF hG 97 (by decide) z_md rfl) rfl rfl hl.1 rfl (lv_room (Nat.le_of_ble_eq_true rfl)) dX12_text_11 ⟨Nat.zero_le _, Nat.zero_le _⟩) hG (fun r5 Z4 H locs hw hG => ?_)
    refine lv_istore_n (lv' := [(2, .int r5), (0, .ref (E.2.1 97)), (1, .int a1)]) hx hb dX12_text_14 rfl hl (by decide) rfl (fun ls hl => ?_)
    refine lv_iload_n hx hb dX12_text_15 rfl (lv_at hl 0 rfl) ?_
    refine lv_if_ge (tgt := 21) hx hb dX12_text_16 (by decide) (fun c6 => ?_) (fun c6 => ?_)
    · replace hw := hw.1 c6
      refine lv_aload_n hx hb dX12_text_21 rfl (lv_at hl 1 rfl) ?_
      refine lv_iload_n hx hb dX12_text_22 rfl (lv_at hl 2 rfl) ?_
      refine z_put hF hG 97 (by decide) z_md rfl in12 tyX12_ok nmX12 7 (by decide) (List.mem_of_getElem? (i := 1) rfl) rfl rfl (tyX12_ok 7 (by decide)) rfl rfl (Nat.le_of_ble_eq_true rfl) a1 z_md dX12_text_23 (fun Z7 H locs eZ7 hG => ?_)
      replace hw := hw Z7 eZ7
      refine lv_aload_n hx hb dX12_text_26 rfl (lv_at hl 1 rfl) ?_
      refine lv_iconst (v := 0) hx hb dX12_text_27 (by decide) ?_
      refine z_put hF hG 97 (by decide) z_md rfl in12 tyX12_ok nmX12 8 (by decide) (List.mem_of_getElem? (i := 2) rfl) rfl rfl (tyX12_ok 8 (by decide)) rfl rfl (Nat.le_of_ble_eq_true rfl) 0 z_md dX12_text_28 (fun Z8 H locs eZ8 hG => ?_)
      replace hw := hw Z8 eZ8
      refine lv_aload_n hx hb dX12_text_31 rfl (lv_at hl 1 rfl) ?_
      refine lv_aload_n hx hb dX12_text_32 rfl (lv_at hl 1 rfl) ?_
      refine z_get hF hG 97 (by decide) z_md rfl in12 10 (by decide) (List.mem_of_getElem? (i := 3) rfl) rfl rfl dX12_text_33 ?_
      refine z_cv (va_runV (rest := []) hF.1 (kX12_keep l E Z8 102 122 (by decide) (fun _ => z_m102) hw _) (cwV 1 hts gX12_text_X12_keep rfl rfl rfl ⟨rfl, hS_yX12_keep⟩ ⟨Nat.le_trans (Nat.le_of_ble_eq_true rfl) hfr, Nat.le_trans (Nat.le_of_ble_eq_true rfl) hlo⟩) (z_preV hF hG 97 (by decide) z_md rfl) rfl rfl hl.1 rfl (lv_room (Nat.le_of_ble_eq_true rfl)) dX12_text_36 ⟨Nat.zero_le _, Nat.zero_le _⟩) hG (fun Z9 H locs hw hG => ?_)
      refine lv_iconst (v := 0) hx hb dX12_text_39 (by decide) ?_
      refine lv_topi (fun y10 ey10 => ?_)
      replace hw := hw y10 ey10
      refine lv_istore_n (lv' := [(3, .int y10), (2, .int r5), (0, .ref (E.2.1 97)), (1, .int a1)]) hx hb dX12_text_40 rfl hl (by decide) rfl (fun ls hl => ?_)
      refine lv_bipush (v := (-4)) hx hb dX12_text_41 (by decide) ?_
      refine lv_topi (fun y11 ey11 => ?_)
      replace hw := hw y11 ey11
      refine lv_istore (lv' := [(4, .int y11), (3, .int y10), (2, .int r5), (0, .ref (E.2.1 97)), (1, .int a1)]) hx hb dX12_text_43 hl (by decide) rfl (fun ls hl => ?_)
      refine lv_iconst (v := 0) hx hb dX12_text_45 (by decide) ?_
      refine lv_topi (fun y12 ey12 => ?_)
      replace hw := hw y12 ey12
      refine lv_istore (lv' := [(5, .int y12), (4, .int y11), (3, .int y10), (2, .int r5), (0, .ref (E.2.1 97)), (1, .int a1)]) hx hb dX12_text_46 hl (by decide) rfl (fun ls hl => ?_)
      refine lv_iconst (v := 1) hx hb dX12_text_48 (by decide) ?_
      refine lv_topi (fun y13 ey13 => ?_)
      replace hw := hw y13 ey13
      refine lv_istore (lv' := [(6, .int y13), (5, .int y12), (4, .int y11), (3, .int y10), (2, .int r5), (0, .ref (E.2.1 97)), (1, .int a1)]) hx hb dX12_text_49 hl (by decide) rfl (fun ls hl => ?_)
      obtain ⟨n51, hw⟩ := hw
      exact J51 n51 y10 y11 y13 Z9 _ _ _ hG (lv_sub hl [5, 6, 3, 2, 0] rfl) hw
    replace hw := hw.2 c6
    refine lv_iload_n hx hb dX12_text_19 rfl (lv_at hl 0 rfl) ?_
    exact z_iret hF hG hr hlk hw dX12_text_20
  replace hw := hw.2 (fun h => h c3)
  refine lv_iconst (v := (-1)) hx hb dX12_text_7 (by decide) ?_
  exact z_iret hF hG hr hlk hw dX12_text_8
set_option maxHeartbeats 4000000 in
set_option maxRecDepth 100000 in
theorem kX12_server (l : Launch) (E : zE) (Z : zS) (a1 : Int32) (a2 : Int32) {K : Int32 → zS → Prop} (hw : wX12_server a1 a2 Z K) : zCi l yX12_server wsX12_server ({ frames := 4, cells := 0, slots := 0, locals := 85 } : Room) E Z [.ref (E.2.1 97), .int a1, .int a2] K := by
  refine z_bodyi (cc := cX12_server) (nL := 3) (ret := .int) (by decide) rfl (Nat.le_of_ble_eq_true rfl) ?_
  intro p e R s m args below meth c ls hfr hlo hF hr hlk hG hl
  have hx := hF.1.1
  have hb := hF.1.2.1
  have hown := hF.1.2.2.2.1
  have hts := hF.1.2.2.2.2
  have in12 : ∀ w ∈ u_ws RX12 TX12 22, w ∈ wsX12_server := fun _ h => List.mem_cons_of_mem _ (List.mem_append_right _ h)
  have hl : lv_has ls 3 [(0, .ref (E.2.1 97)), (1, .int a1), (2, .int a2)] := hl
  unfold wX12_server at hw
  refine lv_aload_n hx hb dX12_server_0 rfl (lv_at hl 0 rfl) ?_
  refine lv_iload_n hx hb dX12_server_1 rfl (lv_at hl 1 rfl) ?_
  refine z_ci (va_runV (rest := []) hF.1 (kX12_isServer l E Z a1  hw _) (cwV 1 hts gX12_server_X12_isServer rfl rfl rfl ⟨rfl, hS_yX12_isServer⟩ ⟨Nat.le_trans (Nat.le_of_ble_eq_true rfl) hfr, Nat.le_trans (Nat.le_of_ble_eq_true rfl) hlo⟩) (z_preV hF hG 97 (by decide) z_md rfl) rfl rfl hl.1 rfl (lv_room (Nat.le_of_ble_eq_true rfl)) dX12_server_2 ⟨Nat.zero_le _, Nat.zero_le _⟩) hG (fun r2 Z1 H locs hw hG => ?_)
  refine lv_if_ne (tgt := 10) hx hb dX12_server_5 (by decide) (fun c3 => ?_) (fun c3 => ?_)
  · replace hw := hw.1 c3
    refine lv_iload_n hx hb dX12_server_10 rfl (lv_at hl 2 rfl) ?_
    refine lv_topi (fun y4 ey4 => ?_)
    replace hw := hw y4 ey4
    by_cases c5 : y4 = 0
    · replace hw := hw.1 c5
      refine lv_tableIn (tgt := 72) (off := 61) hx hb dX12_server_11 (by rw [c5]; decide) (by rw [c5]; decide) (by rw [c5]; decide) (by decide) ?_
      refine lv_aload_n hx hb dX12_server_72 rfl (lv_at hl 0 rfl) ?_
      refine z_get hF hG 97 (by decide) z_md rfl in12 2 (by decide) (List.mem_of_getElem? (i := 1) rfl) rfl rfl dX12_server_73 ?_
      refine lv_iconst (v := 0) hx hb dX12_server_76 (by decide) ?_
      refine lv_iload_n hx hb dX12_server_77 rfl (lv_at hl 1 rfl) ?_
      refine lv_iadd hx hb dX12_server_78 ?_
      obtain ⟨q6, hw⟩ := hw
      refine z_iald hF hG 98 (by decide) z_m98 q6 dX12_server_79 ?_
      exact z_iret hF hG hr hlk hw dX12_server_80
    replace hw := hw.2 c5
    by_cases c7 : y4 = 1
    · replace hw := hw.1 c7
      refine lv_tableIn (tgt := 81) (off := 70) hx hb dX12_server_11 (by rw [c7]; decide) (by rw [c7]; decide) (by rw [c7]; decide) (by decide) ?_
      refine lv_aload_n hx hb dX12_server_81 rfl (lv_at hl 0 rfl) ?_
      refine z_get hF hG 97 (by decide) z_md rfl in12 2 (by decide) (List.mem_of_getElem? (i := 1) rfl) rfl rfl dX12_server_82 ?_
      refine lv_bipush (v := 6) hx hb dX12_server_85 (by decide) ?_
      refine lv_iload_n hx hb dX12_server_87 rfl (lv_at hl 1 rfl) ?_
      refine lv_iadd hx hb dX12_server_88 ?_
      obtain ⟨q8, hw⟩ := hw
      refine z_iald hF hG 98 (by decide) z_m98 q8 dX12_server_89 ?_
      exact z_iret hF hG hr hlk hw dX12_server_90
    replace hw := hw.2 c7
    by_cases c9 : y4 = 2
    · replace hw := hw.1 c9
      refine lv_tableIn (tgt := 91) (off := 80) hx hb dX12_server_11 (by rw [c9]; decide) (by rw [c9]; decide) (by rw [c9]; decide) (by decide) ?_
      refine lv_aload_n hx hb dX12_server_91 rfl (lv_at hl 0 rfl) ?_
      refine z_get hF hG 97 (by decide) z_md rfl in12 2 (by decide) (List.mem_of_getElem? (i := 1) rfl) rfl rfl dX12_server_92 ?_
      refine lv_bipush (v := 12) hx hb dX12_server_95 (by decide) ?_
      refine lv_iload_n hx hb dX12_server_97 rfl (lv_at hl 1 rfl) ?_
      refine lv_iadd hx hb dX12_server_98 ?_
      obtain ⟨q10, hw⟩ := hw
      refine z_iald hF hG 98 (by decide) z_m98 q10 dX12_server_99 ?_
      exact z_iret hF hG hr hlk hw dX12_server_100
    replace hw := hw.2 c9
    by_cases c11 : y4 = 3
    · replace hw := hw.1 c11
      refine lv_tableIn (tgt := 101) (off := 90) hx hb dX12_server_11 (by rw [c11]; decide) (by rw [c11]; decide) (by rw [c11]; decide) (by decide) ?_
      refine lv_aload_n hx hb dX12_server_101 rfl (lv_at hl 0 rfl) ?_
      refine z_get hF hG 97 (by decide) z_md rfl in12 2 (by decide) (List.mem_of_getElem? (i := 1) rfl) rfl rfl dX12_server_102 ?_
      refine lv_bipush (v := 18) hx hb dX12_server_105 (by decide) ?_
      refine lv_iload_n hx hb dX12_server_107 rfl (lv_at hl 1 rfl) ?_
      refine lv_iadd hx hb dX12_server_108 ?_
      obtain ⟨q12, hw⟩ := hw
      refine z_iald hF hG 98 (by decide) z_m98 q12 dX12_server_109 ?_
      exact z_iret hF hG hr hlk hw dX12_server_110
    replace hw := hw.2 c11
    by_cases c13 : y4 = 4
    · replace hw := hw.1 c13
      refine lv_tableIn (tgt := 111) (off := 100) hx hb dX12_server_11 (by rw [c13]; decide) (by rw [c13]; decide) (by rw [c13]; decide) (by decide) ?_
      refine lv_aload_n hx hb dX12_server_111 rfl (lv_at hl 0 rfl) ?_
      refine lv_iload_n hx hb dX12_server_112 rfl (lv_at hl 1 rfl) ?_
      refine z_ci (va_runV (rest := []) hF.1 (kX12_share l E Z1 a1  hw _) (cwV 1 hts gX12_server_X12_share rfl rfl rfl ⟨rfl, hS_yX12_share⟩ ⟨Nat.le_trans (Nat.le_of_ble_eq_true rfl) hfr, Nat.le_trans (Nat.le_of_ble_eq_true rfl) hlo⟩) (z_preV hF hG 97 (by decide) z_md rfl) rfl rfl hl.1 rfl (lv_room (Nat.le_of_ble_eq_true rfl)) dX12_server_113 ⟨Nat.zero_le _, Nat.zero_le _⟩) hG (fun r15 Z14 H locs hw hG => ?_)
      exact z_iret hF hG hr hlk hw dX12_server_116
    replace hw := hw.2 c13
    by_cases c16 : y4 = 5
    · replace hw := hw.1 c16
      refine lv_tableIn (tgt := 117) (off := 106) hx hb dX12_server_11 (by rw [c16]; decide) (by rw [c16]; decide) (by rw [c16]; decide) (by decide) ?_
      refine lv_aload_n hx hb dX12_server_117 rfl (lv_at hl 0 rfl) ?_
      refine z_get hF hG 97 (by decide) z_md rfl in12 2 (by decide) (List.mem_of_getElem? (i := 1) rfl) rfl rfl dX12_server_118 ?_
      refine lv_bipush (v := 24) hx hb dX12_server_121 (by decide) ?_
      refine lv_iload_n hx hb dX12_server_123 rfl (lv_at hl 1 rfl) ?_
      refine lv_iadd hx hb dX12_server_124 ?_
      obtain ⟨q17, hw⟩ := hw
      refine z_iald hF hG 98 (by decide) z_m98 q17 dX12_server_125 ?_
      refine lv_sipush (v := 10000) hx hb dX12_server_126 (by decide) ?_
      refine lv_iadd hx hb dX12_server_129 ?_
      exact z_iret hF hG hr hlk hw dX12_server_130
    replace hw := hw.2 c16
    by_cases c18 : y4 = 6
    · replace hw := hw.1 c18
      refine lv_tableIn (tgt := 131) (off := 120) hx hb dX12_server_11 (by rw [c18]; decide) (by rw [c18]; decide) (by rw [c18]; decide) (by decide) ?_
      refine lv_aload_n hx hb dX12_server_131 rfl (lv_at hl 0 rfl) ?_
      refine z_get hF hG 97 (by decide) z_md rfl in12 2 (by decide) (List.mem_of_getElem? (i := 1) rfl) rfl rfl dX12_server_132 ?_
      refine lv_bipush (v := 30) hx hb dX12_server_135 (by decide) ?_
      refine lv_iload_n hx hb dX12_server_137 rfl (lv_at hl 1 rfl) ?_
      refine lv_iadd hx hb dX12_server_138 ?_
      obtain ⟨q19, hw⟩ := hw
      refine z_iald hF hG 98 (by decide) z_m98 q19 dX12_server_139 ?_
      exact z_iret hF hG hr hlk hw dX12_server_140
    replace hw := hw.2 c18
    by_cases c20 : y4 = 7
    · replace hw := hw.1 c20
      refine lv_tableIn (tgt := 141) (off := 130) hx hb dX12_server_11 (by rw [c20]; decide) (by rw [c20]; decide) (by rw [c20]; decide) (by decide) ?_
      refine lv_aload_n hx hb dX12_server_141 rfl (lv_at hl 0 rfl) ?_
      refine z_get hF hG 97 (by decide) z_md rfl in12 2 (by decide) (List.mem_of_getElem? (i := 1) rfl) rfl rfl dX12_server_142 ?_
      refine lv_bipush (v := 36) hx hb dX12_server_145 (by decide) ?_
      refine lv_iload_n hx hb dX12_server_147 rfl (lv_at hl 1 rfl) ?_
      refine lv_iadd hx hb dX12_server_148 ?_
      obtain ⟨q21, hw⟩ := hw
      refine z_iald hF hG 98 (by decide) z_m98 q21 dX12_server_149 ?_
      exact z_iret hF hG hr hlk hw dX12_server_150
    replace hw := hw.2 c20
    by_cases c22 : y4 = 8
    · replace hw := hw.1 c22
      refine lv_tableIn (tgt := 151) (off := 140) hx hb dX12_server_11 (by rw [c22]; decide) (by rw [c22]; decide) (by rw [c22]; decide) (by decide) ?_
      refine lv_aload_n hx hb dX12_server_151 rfl (lv_at hl 0 rfl) ?_
      refine z_get hF hG 97 (by decide) z_md rfl in12 2 (by decide) (List.mem_of_getElem? (i := 1) rfl) rfl rfl dX12_server_152 ?_
      refine lv_bipush (v := 42) hx hb dX12_server_155 (by decide) ?_
      refine lv_iload_n hx hb dX12_server_157 rfl (lv_at hl 1 rfl) ?_
      refine lv_iadd hx hb dX12_server_158 ?_
      obtain ⟨q23, hw⟩ := hw
      refine z_iald hF hG 98 (by decide) z_m98 q23 dX12_server_159 ?_
      exact z_iret hF hG hr hlk hw dX12_server_160
    replace hw := hw.2 c22
    by_cases c24 : y4 = 9
    · replace hw := hw.1 c24
      refine lv_tableIn (tgt := 161) (off := 150) hx hb dX12_server_11 (by rw [c24]; decide) (by rw [c24]; decide) (by rw [c24]; decide) (by decide) ?_
      refine lv_aload_n hx hb dX12_server_161 rfl (lv_at hl 0 rfl) ?_
      refine z_get hF hG 97 (by decide) z_md rfl in12 2 (by decide) (List.mem_of_getElem? (i := 1) rfl) rfl rfl dX12_server_162 ?_
      refine lv_bipush (v := 48) hx hb dX12_server_165 (by decide) ?_
      refine lv_iload_n hx hb dX12_server_167 rfl (lv_at hl 1 rfl) ?_
      refine lv_iadd hx hb dX12_server_168 ?_
      obtain ⟨q25, hw⟩ := hw
      refine z_iald hF hG 98 (by decide) z_m98 q25 dX12_server_169 ?_
      exact z_iret hF hG hr hlk hw dX12_server_170
    replace hw := hw.2 c24
    by_cases c26 : y4 = 10
    · replace hw := hw.1 c26
      refine lv_tableIn (tgt := 171) (off := 160) hx hb dX12_server_11 (by rw [c26]; decide) (by rw [c26]; decide) (by rw [c26]; decide) (by decide) ?_
      refine lv_aload_n hx hb dX12_server_171 rfl (lv_at hl 0 rfl) ?_
      refine z_get hF hG 97 (by decide) z_md rfl in12 2 (by decide) (List.mem_of_getElem? (i := 1) rfl) rfl rfl dX12_server_172 ?_
      refine lv_bipush (v := 54) hx hb dX12_server_175 (by decide) ?_
      refine lv_iload_n hx hb dX12_server_177 rfl (lv_at hl 1 rfl) ?_
      refine lv_iadd hx hb dX12_server_178 ?_
      obtain ⟨q27, hw⟩ := hw
      refine z_iald hF hG 98 (by decide) z_m98 q27 dX12_server_179 ?_
      exact z_iret hF hG hr hlk hw dX12_server_180
    replace hw := hw.2 c26
    by_cases c28 : y4 = 11
    · replace hw := hw.1 c28
      refine lv_tableIn (tgt := 181) (off := 170) hx hb dX12_server_11 (by rw [c28]; decide) (by rw [c28]; decide) (by rw [c28]; decide) (by decide) ?_
      refine lv_aload_n hx hb dX12_server_181 rfl (lv_at hl 0 rfl) ?_
      refine lv_iload_n hx hb dX12_server_182 rfl (lv_at hl 1 rfl) ?_
      refine z_ci (va_runV (rest := []) hF.1 (kX12_pays l E Z1 a1  hw _) (cwV 1 hts gX12_server_X12_pays rfl rfl rfl ⟨rfl, hS_yX12_pays⟩ ⟨Nat.le_trans (Nat.le_of_ble_eq_true rfl) hfr, Nat.le_trans (Nat.le_of_ble_eq_true rfl) hlo⟩) (z_preV hF hG 97 (by decide) z_md rfl) rfl rfl hl.1 rfl (lv_room (Nat.le_of_ble_eq_true rfl)) dX12_server_183 ⟨Nat.zero_le _, Nat.zero_le _⟩) hG (fun r30 Z29 H locs hw hG => ?_)
      exact z_iret hF hG hr hlk hw dX12_server_186
    replace hw := hw.2 c28
    refine lv_tableOut (tgt := 187) hx hb dX12_server_11 (by have t0 := lv_neT c5 (a := 0) (by decide); have t1 := lv_neT c7 (a := 1) (by decide); have t2 := lv_neT c9 (a := 2) (by decide); have t3 := lv_neT c11 (a := 3) (by decide); have t4 := lv_neT c13 (a := 4) (by decide); have t5 := lv_neT c16 (a := 5) (by decide); have t6 := lv_neT c18 (a := 6) (by decide); have t7 := lv_neT c20 (a := 7) (by decide); have t8 := lv_neT c22 (a := 8) (by decide); have t9 := lv_neT c24 (a := 9) (by decide); have t10 := lv_neT c26 (a := 10) (by decide); have t11 := lv_neT c28 (a := 11) (by decide); omega) (by decide) ?_
    refine lv_iconst (v := (-1)) hx hb dX12_server_187 (by decide) ?_
    exact z_iret hF hG hr hlk hw dX12_server_188
  replace hw := hw.2 (fun h => h c3)
  refine lv_iconst (v := (-1)) hx hb dX12_server_8 (by decide) ?_
  exact z_iret hF hG hr hlk hw dX12_server_9
set_option maxHeartbeats 4000000 in
set_option maxRecDepth 100000 in
theorem kX12_job (l : Launch) (E : zE) (Z : zS) (a1 : Int32) (a2 : Int32) (a3 : Int32) {K : Int32 → zS → Prop} (hw : wX12_job a1 a2 a3 Z K) : zCi l yX12_job wsX12_job ({ frames := 2, cells := 0, slots := 0, locals := 43 } : Room) E Z [.ref (E.2.1 97), .int a1, .int a2, .int a3] K := by
  refine z_bodyi (cc := cX12_job) (nL := 4) (ret := .int) (by decide) rfl (Nat.le_of_ble_eq_true rfl) ?_
  intro p e R s m args below meth c ls hfr hlo hF hr hlk hG hl
  have hx := hF.1.1
  have hb := hF.1.2.1
  have hown := hF.1.2.2.2.1
  have hts := hF.1.2.2.2.2
  have in12 : ∀ w ∈ u_ws RX12 TX12 22, w ∈ wsX12_job := fun _ h => List.mem_cons_of_mem _ (List.mem_append_right _ h)
  have hl : lv_has ls 4 [(0, .ref (E.2.1 97)), (1, .int a1), (2, .int a2), (3, .int a3)] := hl
  unfold wX12_job at hw
  refine lv_aload_n hx hb dX12_job_0 rfl (lv_at hl 0 rfl) ?_
  refine lv_iload_n hx hb dX12_job_1 rfl (lv_at hl 1 rfl) ?_
  refine z_ci (va_runV (rest := []) hF.1 (kX12_isServer l E Z a1  hw _) (cwV 1 hts gX12_job_X12_isServer rfl rfl rfl ⟨rfl, hS_yX12_isServer⟩ ⟨Nat.le_trans (Nat.le_of_ble_eq_true rfl) hfr, Nat.le_trans (Nat.le_of_ble_eq_true rfl) hlo⟩) (z_preV hF hG 97 (by decide) z_md rfl) rfl rfl hl.1 rfl (lv_room (Nat.le_of_ble_eq_true rfl)) dX12_job_2 ⟨Nat.zero_le _, Nat.zero_le _⟩) hG (fun r2 Z1 H locs hw hG => ?_)
  refine lv_if_eq (tgt := 27) hx hb dX12_job_5 (by decide) (fun c3 => ?_) (fun c3 => ?_)
  · replace hw := hw.1 c3
    refine lv_iconst (v := (-1)) hx hb dX12_job_27 (by decide) ?_
    exact z_iret hF hG hr hlk hw dX12_job_28
  replace hw := hw.2 c3
  refine lv_iload_n hx hb dX12_job_8 rfl (lv_at hl 2 rfl) ?_
  refine lv_iconst (v := 0) hx hb dX12_job_9 (by decide) ?_
  refine lv_aload_n hx hb dX12_job_10 rfl (lv_at hl 0 rfl) ?_
  refine z_get hF hG 97 (by decide) z_md rfl in12 2 (by decide) (List.mem_of_getElem? (i := 1) rfl) rfl rfl dX12_job_11 ?_
  refine lv_bipush (v := 42) hx hb dX12_job_14 (by decide) ?_
  refine lv_iload_n hx hb dX12_job_16 rfl (lv_at hl 1 rfl) ?_
  refine lv_iadd hx hb dX12_job_17 ?_
  obtain ⟨q4, hw⟩ := hw
  refine z_iald hF hG 98 (by decide) z_m98 q4 dX12_job_18 ?_
  refine lv_iconst (v := 1) hx hb dX12_job_19 (by decide) ?_
  refine lv_isub hx hb dX12_job_20 ?_
  refine z_ci (va_runS (rest := []) hF.1 (kX12_within l E Z1 a2 0 (((Z1 98 ((42 + a1) : Int32).toNatClampNeg) - 1))  hw _) (va_cwS 3 hts gX12_job_X12_within rfl rfl rfl hS_yX12_within ⟨Nat.le_trans (Nat.le_of_ble_eq_true rfl) hfr, Nat.le_trans (Nat.le_of_ble_eq_true rfl) hlo⟩) (z_preS hF hG) rfl rfl hl.1 rfl (lv_room (Nat.le_of_ble_eq_true rfl)) dX12_job_21 ⟨Nat.zero_le _, Nat.zero_le _⟩) hG (fun r6 Z5 H locs hw hG => ?_)
  refine lv_if_ne (tgt := 29) hx hb dX12_job_24 (by decide) (fun c7 => ?_) (fun c7 => ?_)
  · replace hw := hw.1 c7
    refine lv_iload_n hx hb dX12_job_29 rfl (lv_at hl 3 rfl) ?_
    refine lv_topi (fun y8 ey8 => ?_)
    replace hw := hw y8 ey8
    by_cases c9 : y8 = 0
    · replace hw := hw.1 c9
      refine lv_tableIn (tgt := 60) (off := 30) hx hb dX12_job_30 (by rw [c9]; decide) (by rw [c9]; decide) (by rw [c9]; decide) (by decide) ?_
      refine lv_aload_n hx hb dX12_job_60 rfl (lv_at hl 0 rfl) ?_
      refine z_get hF hG 97 (by decide) z_md rfl in12 3 (by decide) (List.mem_of_getElem? (i := 2) rfl) rfl rfl dX12_job_61 ?_
      refine lv_iconst (v := 4) hx hb dX12_job_64 (by decide) ?_
      refine lv_iload_n hx hb dX12_job_65 rfl (lv_at hl 1 rfl) ?_
      refine lv_imul hx hb dX12_job_66 ?_
      refine lv_iload_n hx hb dX12_job_67 rfl (lv_at hl 2 rfl) ?_
      refine lv_iadd hx hb dX12_job_68 ?_
      obtain ⟨q10, hw⟩ := hw
      refine z_iald hF hG 99 (by decide) z_m99 q10 dX12_job_69 ?_
      exact z_iret hF hG hr hlk hw dX12_job_70
    replace hw := hw.2 c9
    by_cases c11 : y8 = 1
    · replace hw := hw.1 c11
      refine lv_tableIn (tgt := 71) (off := 41) hx hb dX12_job_30 (by rw [c11]; decide) (by rw [c11]; decide) (by rw [c11]; decide) (by decide) ?_
      refine lv_aload_n hx hb dX12_job_71 rfl (lv_at hl 0 rfl) ?_
      refine z_get hF hG 97 (by decide) z_md rfl in12 4 (by decide) (List.mem_of_getElem? (i := 3) rfl) rfl rfl dX12_job_72 ?_
      refine lv_iconst (v := 4) hx hb dX12_job_75 (by decide) ?_
      refine lv_iload_n hx hb dX12_job_76 rfl (lv_at hl 1 rfl) ?_
      refine lv_imul hx hb dX12_job_77 ?_
      refine lv_iload_n hx hb dX12_job_78 rfl (lv_at hl 2 rfl) ?_
      refine lv_iadd hx hb dX12_job_79 ?_
      obtain ⟨q12, hw⟩ := hw
      refine z_iald hF hG 100 (by decide) z_m100 q12 dX12_job_80 ?_
      exact z_iret hF hG hr hlk hw dX12_job_81
    replace hw := hw.2 c11
    by_cases c13 : y8 = 2
    · replace hw := hw.1 c13
      refine lv_tableIn (tgt := 82) (off := 52) hx hb dX12_job_30 (by rw [c13]; decide) (by rw [c13]; decide) (by rw [c13]; decide) (by decide) ?_
      refine lv_iload_n hx hb dX12_job_82 rfl (lv_at hl 2 rfl) ?_
      refine lv_if_ne (tgt := 98) hx hb dX12_job_83 (by decide) (fun c14 => ?_) (fun c14 => ?_)
      · replace hw := hw.1 c14
        refine lv_iconst (v := 0) hx hb dX12_job_98 (by decide) ?_
        exact z_iret hF hG hr hlk hw dX12_job_99
      replace hw := hw.2 (fun h => h c14)
      refine lv_aload_n hx hb dX12_job_86 rfl (lv_at hl 0 rfl) ?_
      refine z_get hF hG 97 (by decide) z_md rfl in12 2 (by decide) (List.mem_of_getElem? (i := 1) rfl) rfl rfl dX12_job_87 ?_
      refine lv_bipush (v := 66) hx hb dX12_job_90 (by decide) ?_
      refine lv_iload_n hx hb dX12_job_92 rfl (lv_at hl 1 rfl) ?_
      refine lv_iadd hx hb dX12_job_93 ?_
      obtain ⟨q15, hw⟩ := hw
      refine z_iald hF hG 98 (by decide) z_m98 q15 dX12_job_94 ?_
      refine lv_goto (tgt := 99) hx hb dX12_job_95 (by decide) ?_
      exact z_iret hF hG hr hlk hw dX12_job_99
    replace hw := hw.2 c13
    by_cases c16 : y8 = 3
    · replace hw := hw.1 c16
      refine lv_tableIn (tgt := 100) (off := 70) hx hb dX12_job_30 (by rw [c16]; decide) (by rw [c16]; decide) (by rw [c16]; decide) (by decide) ?_
      refine lv_iload_n hx hb dX12_job_100 rfl (lv_at hl 2 rfl) ?_
      refine lv_if_ne (tgt := 116) hx hb dX12_job_101 (by decide) (fun c17 => ?_) (fun c17 => ?_)
      · replace hw := hw.1 c17
        refine lv_bipush (v := (-4)) hx hb dX12_job_116 (by decide) ?_
        exact z_iret hF hG hr hlk hw dX12_job_118
      replace hw := hw.2 (fun h => h c17)
      refine lv_aload_n hx hb dX12_job_104 rfl (lv_at hl 0 rfl) ?_
      refine z_get hF hG 97 (by decide) z_md rfl in12 2 (by decide) (List.mem_of_getElem? (i := 1) rfl) rfl rfl dX12_job_105 ?_
      refine lv_bipush (v := 60) hx hb dX12_job_108 (by decide) ?_
      refine lv_iload_n hx hb dX12_job_110 rfl (lv_at hl 1 rfl) ?_
      refine lv_iadd hx hb dX12_job_111 ?_
      obtain ⟨q18, hw⟩ := hw
      refine z_iald hF hG 98 (by decide) z_m98 q18 dX12_job_112 ?_
      refine lv_goto (tgt := 118) hx hb dX12_job_113 (by decide) ?_
      exact z_iret hF hG hr hlk hw dX12_job_118
    replace hw := hw.2 c16
    refine lv_tableOut (tgt := 119) hx hb dX12_job_30 (by have t0 := lv_neT c9 (a := 0) (by decide); have t1 := lv_neT c11 (a := 1) (by decide); have t2 := lv_neT c13 (a := 2) (by decide); have t3 := lv_neT c16 (a := 3) (by decide); omega) (by decide) ?_
    refine lv_iconst (v := (-1)) hx hb dX12_job_119 (by decide) ?_
    exact z_iret hF hG hr hlk hw dX12_job_120
  replace hw := hw.2 (fun h => h c7)
  refine lv_iconst (v := (-1)) hx hb dX12_job_27 (by decide) ?_
  exact z_iret hF hG hr hlk hw dX12_job_28
theorem hS_yX12_noSort : yX12_noSort.cls ≠ "java/lang/invoke/MethodHandle" ∧ yX12_noSort.cls ≠ "java/lang/invoke/VarHandle" ∧ (parseMethodDescriptor yX12_noSort.desc).map (fun d => d.parameters.length) = some 1 := by decide +kernel
set_option maxHeartbeats 4000000 in
set_option maxRecDepth 100000 in
theorem kX12_comes (l : Launch) (E : zE) (Z : zS) (a1 : Int32) (a2 : Int32) (a3 : Int32) {K : Int32 → zS → Prop} (hw : wX12_comes a1 a2 a3 Z K) : zCi l yX12_comes wsX12_comes ({ frames := 2, cells := 0, slots := 0, locals := 43 } : Room) E Z [.ref (E.2.1 97), .int a1, .int a2, .int a3] K := by
  refine z_bodyi (cc := cX12_comes) (nL := 5) (ret := .int) (by decide) rfl (Nat.le_of_ble_eq_true rfl) ?_
  intro p e R s m args below meth c ls hfr hlo hF hr hlk hG hl
  have hx := hF.1.1
  have hb := hF.1.2.1
  have hown := hF.1.2.2.2.1
  have hts := hF.1.2.2.2.2
  have in12 : ∀ w ∈ u_ws RX12 TX12 22, w ∈ wsX12_comes := fun _ h => List.mem_cons_of_mem _ (List.mem_append_right _ h)
  have hl : lv_has ls 5 [(0, .ref (E.2.1 97)), (1, .int a1), (2, .int a2), (3, .int a3)] := hl
  unfold wX12_comes at hw
  refine lv_iload_n hx hb dX12_comes_0 rfl (lv_at hl 2 rfl) ?_
  refine lv_iload_n hx hb dX12_comes_1 rfl (lv_at hl 3 rfl) ?_
  refine z_ci (va_runS (rest := []) hF.1 (kX12_isSize l E Z a2 a3  hw _) (va_cwS 2 hts gX12_comes_X12_isSize rfl rfl rfl hS_yX12_isSize ⟨Nat.le_trans (Nat.le_of_ble_eq_true rfl) hfr, Nat.le_trans (Nat.le_of_ble_eq_true rfl) hlo⟩) (z_preS hF hG) rfl rfl hl.1 rfl (lv_room (Nat.le_of_ble_eq_true rfl)) dX12_comes_2 ⟨Nat.zero_le _, Nat.zero_le _⟩) hG (fun r2 Z1 H locs hw hG => ?_)
  refine lv_if_eq (tgt := 15) hx hb dX12_comes_5 (by decide) (fun c3 => ?_) (fun c3 => ?_)
  · replace hw := hw.1 c3
    refine lv_iconst (v := (-1)) hx hb dX12_comes_15 (by decide) ?_
    exact z_iret hF hG hr hlk hw dX12_comes_16
  replace hw := hw.2 c3
  refine lv_iload_n hx hb dX12_comes_8 rfl (lv_at hl 1 rfl) ?_
  refine z_ci (va_runS (rest := []) hF.1 (kX12_isShelf l E Z1 a1  hw _) (va_cwS 1 hts gX12_comes_X12_isShelf rfl rfl rfl hS_yX12_isShelf ⟨Nat.le_trans (Nat.le_of_ble_eq_true rfl) hfr, Nat.le_trans (Nat.le_of_ble_eq_true rfl) hlo⟩) (z_preS hF hG) rfl rfl hl.1 rfl (lv_room (Nat.le_of_ble_eq_true rfl)) dX12_comes_9 ⟨Nat.zero_le _, Nat.zero_le _⟩) hG (fun r5 Z4 H locs hw hG => ?_)
  refine lv_if_ne (tgt := 17) hx hb dX12_comes_12 (by decide) (fun c6 => ?_) (fun c6 => ?_)
  · replace hw := hw.1 c6
    refine lv_aload_n hx hb dX12_comes_17 rfl (lv_at hl 0 rfl) ?_
    refine lv_iload_n hx hb dX12_comes_18 rfl (lv_at hl 1 rfl) ?_
    refine z_ci (va_runV (rest := []) hF.1 (kX12_noSort l E Z4 a1  hw _) (cwV 1 hts gX12_comes_X12_noSort rfl rfl rfl ⟨rfl, hS_yX12_noSort⟩ ⟨Nat.le_trans (Nat.le_of_ble_eq_true rfl) hfr, Nat.le_trans (Nat.le_of_ble_eq_true rfl) hlo⟩) (z_preV hF hG 97 (by decide) z_md rfl) rfl rfl hl.1 rfl (lv_room (Nat.le_of_ble_eq_true rfl)) dX12_comes_19 ⟨Nat.zero_le _, Nat.zero_le _⟩) hG (fun r8 Z7 H locs hw hG => ?_)
    refine lv_istore (lv' := [(4, .int r8), (0, .ref (E.2.1 97)), (1, .int a1), (2, .int a2), (3, .int a3)]) hx hb dX12_comes_22 hl (by decide) rfl (fun ls hl => ?_)
    refine lv_iload hx hb dX12_comes_24 (lv_at hl 0 rfl) ?_
    refine lv_if_ge (tgt := 32) hx hb dX12_comes_26 (by decide) (fun c9 => ?_) (fun c9 => ?_)
    · replace hw := hw.1 c9
      refine lv_aload_n hx hb dX12_comes_32 rfl (lv_at hl 1 rfl) ?_
      refine z_get hF hG 97 (by decide) z_md rfl in12 1 (by decide) (List.mem_of_getElem? (i := 1) rfl) rfl rfl dX12_comes_33 ?_
      refine lv_bipush (v := 6) hx hb dX12_comes_36 (by decide) ?_
      refine lv_icmp_ne (tgt := 46) hx hb dX12_comes_38 (by decide) (fun c10 => ?_) (fun c10 => ?_)
      · replace hw := hw.1 c10
        refine lv_aload_n hx hb dX12_comes_46 rfl (lv_at hl 1 rfl) ?_
        refine lv_aload_n hx hb dX12_comes_47 rfl (lv_at hl 1 rfl) ?_
        refine z_get hF hG 97 (by decide) z_md rfl in12 15 (by decide) (List.mem_of_getElem? (i := 2) rfl) rfl rfl dX12_comes_48 ?_
        refine lv_iload_n hx hb dX12_comes_51 rfl (lv_at hl 2 rfl) ?_
        obtain ⟨q11, hw⟩ := hw
        refine z_iald hF hG 105 (by decide) z_m105 q11 dX12_comes_52 ?_
        refine lv_aload_n hx hb dX12_comes_53 rfl (lv_at hl 1 rfl) ?_
        refine z_get hF hG 97 (by decide) z_md rfl in12 16 (by decide) (List.mem_of_getElem? (i := 3) rfl) rfl rfl dX12_comes_54 ?_
        refine lv_iload_n hx hb dX12_comes_57 rfl (lv_at hl 2 rfl) ?_
        obtain ⟨q12, hw⟩ := hw
        refine z_iald hF hG 106 (by decide) z_m106 q12 dX12_comes_58 ?_
        refine lv_iload_n hx hb dX12_comes_59 rfl (lv_at hl 3 rfl) ?_
        refine lv_iload_n hx hb dX12_comes_60 rfl (lv_at hl 4 rfl) ?_
        refine z_ci (va_runV (rest := []) hF.1 (kX12_newServer l E Z7 ((Z7 105 (a1 : Int32).toNatClampNeg)) ((Z7 106 (a1 : Int32).toNatClampNeg)) a2 a3  hw _) (cwV 4 hts gX12_comes_X12_newServer rfl rfl rfl ⟨rfl, hS_yX12_newServer⟩ ⟨Nat.le_trans (Nat.le_of_ble_eq_true rfl) hfr, Nat.le_trans (Nat.le_of_ble_eq_true rfl) hlo⟩) (z_preV hF hG 97 (by decide) z_md rfl) rfl rfl hl.1 rfl (lv_room (Nat.le_of_ble_eq_true rfl)) dX12_comes_61 ⟨Nat.zero_le _, Nat.zero_le _⟩) hG (fun r14 Z13 H locs hw hG => ?_)
        exact z_iret hF hG hr hlk hw dX12_comes_64
      replace hw := hw.2 (fun h => h c10)
      refine lv_bipush (v := (-2)) hx hb dX12_comes_41 (by decide) ?_
      refine lv_goto (tgt := 64) hx hb dX12_comes_43 (by decide) ?_
      exact z_iret hF hG hr hlk hw dX12_comes_64
    replace hw := hw.2 c9
    refine lv_iload hx hb dX12_comes_29 (lv_at hl 0 rfl) ?_
    exact z_iret hF hG hr hlk hw dX12_comes_31
  replace hw := hw.2 (fun h => h c6)
  refine lv_iconst (v := (-1)) hx hb dX12_comes_15 (by decide) ?_
  exact z_iret hF hG hr hlk hw dX12_comes_16
set_option maxHeartbeats 4000000 in
set_option maxRecDepth 100000 in
theorem kX12_sends (l : Launch) (E : zE) (Z : zS) (a1 : Int32) (a2 : Int32) (a3 : Int32) {K : Int32 → zS → Prop} (hw : wX12_sends a1 a2 a3 Z K) : zCi l yX12_sends wsX12_sends ({ frames := 2, cells := 0, slots := 0, locals := 46 } : Room) E Z [.ref (E.2.1 97), .int a1, .int a2, .int a3] K := by
  refine z_bodyi (cc := cX12_sends) (nL := 4) (ret := .int) (by decide) rfl (Nat.le_of_ble_eq_true rfl) ?_
  intro p e R s m args below meth c ls hfr hlo hF hr hlk hG hl
  have hx := hF.1.1
  have hb := hF.1.2.1
  have hown := hF.1.2.2.2.1
  have hts := hF.1.2.2.2.2
  have in12 : ∀ w ∈ u_ws RX12 TX12 22, w ∈ wsX12_sends := fun _ h => List.mem_cons_of_mem _ (List.mem_append_right _ h)
  have hl : lv_has ls 4 [(0, .ref (E.2.1 97)), (1, .int a1), (2, .int a2), (3, .int a3)] := hl
  unfold wX12_sends at hw
  refine lv_aload_n hx hb dX12_sends_0 rfl (lv_at hl 0 rfl) ?_
  refine lv_iload_n hx hb dX12_sends_1 rfl (lv_at hl 1 rfl) ?_
  refine z_ci (va_runV (rest := []) hF.1 (kX12_isServer l E Z a1  hw _) (cwV 1 hts gX12_sends_X12_isServer rfl rfl rfl ⟨rfl, hS_yX12_isServer⟩ ⟨Nat.le_trans (Nat.le_of_ble_eq_true rfl) hfr, Nat.le_trans (Nat.le_of_ble_eq_true rfl) hlo⟩) (z_preV hF hG 97 (by decide) z_md rfl) rfl rfl hl.1 rfl (lv_room (Nat.le_of_ble_eq_true rfl)) dX12_sends_2 ⟨Nat.zero_le _, Nat.zero_le _⟩) hG (fun r2 Z1 H locs hw hG => ?_)
  refine lv_if_eq (tgt := 27) hx hb dX12_sends_5 (by decide) (fun c3 => ?_) (fun c3 => ?_)
  · replace hw := hw.1 c3
    refine lv_iconst (v := (-1)) hx hb dX12_sends_27 (by decide) ?_
    exact z_iret hF hG hr hlk hw dX12_sends_28
  replace hw := hw.2 c3
  refine lv_iload_n hx hb dX12_sends_8 rfl (lv_at hl 2 rfl) ?_
  refine lv_iconst (v := 1) hx hb dX12_sends_9 (by decide) ?_
  refine lv_bipush (v := 9) hx hb dX12_sends_10 (by decide) ?_
  refine z_ci (va_runS (rest := []) hF.1 (kX12_within l E Z1 a2 1 9  hw _) (va_cwS 3 hts gX12_sends_X12_within rfl rfl rfl hS_yX12_within ⟨Nat.le_trans (Nat.le_of_ble_eq_true rfl) hfr, Nat.le_trans (Nat.le_of_ble_eq_true rfl) hlo⟩) (z_preS hF hG) rfl rfl hl.1 rfl (lv_room (Nat.le_of_ble_eq_true rfl)) dX12_sends_12 ⟨Nat.zero_le _, Nat.zero_le _⟩) hG (fun r5 Z4 H locs hw hG => ?_)
  refine lv_if_eq (tgt := 27) hx hb dX12_sends_15 (by decide) (fun c6 => ?_) (fun c6 => ?_)
  · replace hw := hw.1 c6
    refine lv_iconst (v := (-1)) hx hb dX12_sends_27 (by decide) ?_
    exact z_iret hF hG hr hlk hw dX12_sends_28
  replace hw := hw.2 c6
  refine lv_iload_n hx hb dX12_sends_18 rfl (lv_at hl 3 rfl) ?_
  refine lv_iconst (v := 0) hx hb dX12_sends_19 (by decide) ?_
  refine lv_iconst (v := 3) hx hb dX12_sends_20 (by decide) ?_
  refine z_ci (va_runS (rest := []) hF.1 (kX12_within l E Z4 a3 0 3  hw _) (va_cwS 3 hts gX12_sends_X12_within rfl rfl rfl hS_yX12_within ⟨Nat.le_trans (Nat.le_of_ble_eq_true rfl) hfr, Nat.le_trans (Nat.le_of_ble_eq_true rfl) hlo⟩) (z_preS hF hG) rfl rfl hl.1 rfl (lv_room (Nat.le_of_ble_eq_true rfl)) dX12_sends_21 ⟨Nat.zero_le _, Nat.zero_le _⟩) hG (fun r8 Z7 H locs hw hG => ?_)
  refine lv_if_ne (tgt := 29) hx hb dX12_sends_24 (by decide) (fun c9 => ?_) (fun c9 => ?_)
  · replace hw := hw.1 c9
    refine lv_aload_n hx hb dX12_sends_29 rfl (lv_at hl 0 rfl) ?_
    refine z_get hF hG 97 (by decide) z_md rfl in12 2 (by decide) (List.mem_of_getElem? (i := 1) rfl) rfl rfl dX12_sends_30 ?_
    refine lv_bipush (v := 42) hx hb dX12_sends_33 (by decide) ?_
    refine lv_iload_n hx hb dX12_sends_35 rfl (lv_at hl 1 rfl) ?_
    refine lv_iadd hx hb dX12_sends_36 ?_
    obtain ⟨q10, hw⟩ := hw
    refine z_iald hF hG 98 (by decide) z_m98 q10 dX12_sends_37 ?_
    refine lv_iconst (v := 4) hx hb dX12_sends_38 (by decide) ?_
    refine lv_icmp_ne (tgt := 45) hx hb dX12_sends_39 (by decide) (fun c11 => ?_) (fun c11 => ?_)
    · replace hw := hw.1 c11
      refine lv_aload_n hx hb dX12_sends_45 rfl (lv_at hl 0 rfl) ?_
      refine lv_iload_n hx hb dX12_sends_46 rfl (lv_at hl 1 rfl) ?_
      refine lv_iload_n hx hb dX12_sends_47 rfl (lv_at hl 2 rfl) ?_
      refine lv_iload_n hx hb dX12_sends_48 rfl (lv_at hl 3 rfl) ?_
      refine z_cv (va_runV (rest := []) hF.1 (kX12_jobComes l E Z7 a1 a2 a3  hw _) (cwV 3 hts gX12_sends_X12_jobComes rfl rfl rfl ⟨rfl, hS_yX12_jobComes⟩ ⟨Nat.le_trans (Nat.le_of_ble_eq_true rfl) hfr, Nat.le_trans (Nat.le_of_ble_eq_true rfl) hlo⟩) (z_preV hF hG 97 (by decide) z_md rfl) rfl rfl hl.1 rfl (lv_room (Nat.le_of_ble_eq_true rfl)) dX12_sends_49 ⟨Nat.zero_le _, Nat.zero_le _⟩) hG (fun Z12 H locs hw hG => ?_)
      refine lv_aload_n hx hb dX12_sends_52 rfl (lv_at hl 0 rfl) ?_
      refine z_get hF hG 97 (by decide) z_md rfl in12 2 (by decide) (List.mem_of_getElem? (i := 1) rfl) rfl rfl dX12_sends_53 ?_
      refine lv_bipush (v := 42) hx hb dX12_sends_56 (by decide) ?_
      refine lv_iload_n hx hb dX12_sends_58 rfl (lv_at hl 1 rfl) ?_
      refine lv_iadd hx hb dX12_sends_59 ?_
      obtain ⟨q13, hw⟩ := hw
      refine z_iald hF hG 98 (by decide) z_m98 q13 dX12_sends_60 ?_
      exact z_iret hF hG hr hlk hw dX12_sends_61
    replace hw := hw.2 (fun h => h c11)
    refine lv_bipush (v := (-2)) hx hb dX12_sends_42 (by decide) ?_
    exact z_iret hF hG hr hlk hw dX12_sends_44
  replace hw := hw.2 (fun h => h c9)
  refine lv_iconst (v := (-1)) hx hb dX12_sends_27 (by decide) ?_
  exact z_iret hF hG hr hlk hw dX12_sends_28
set_option maxHeartbeats 4000000 in
set_option maxRecDepth 100000 in
theorem kX12_goesOff (l : Launch) (E : zE) (Z : zS) (a1 : Int32) {K : Int32 → zS → Prop} (hw : wX12_goesOff a1 Z K) : zCi l yX12_goesOff wsX12_goesOff ({ frames := 0, cells := 0, slots := 0, locals := 0 } : Room) E Z [.ref (E.2.1 97), .int a1] K := by
  refine z_bodyi (cc := cX12_goesOff) (nL := 3) (ret := .int) (by decide) rfl (Nat.le_of_ble_eq_true rfl) ?_
  intro p e R s m args below meth c ls hfr hlo hF hr hlk hG hl
  have hx := hF.1.1
  have hb := hF.1.2.1
  have hown := hF.1.2.2.2.1
  have hts := hF.1.2.2.2.2
  have in12 : ∀ w ∈ u_ws RX12 TX12 22, w ∈ wsX12_goesOff := fun _ h => List.mem_cons_of_mem _ (List.mem_append_right _ h)
  have hl : lv_has ls 3 [(0, .ref (E.2.1 97)), (1, .int a1)] := hl
  unfold wX12_goesOff at hw
  refine lv_aload_n hx hb dX12_goesOff_0 rfl (lv_at hl 0 rfl) ?_
  refine z_get hF hG 97 (by decide) z_md rfl in12 2 (by decide) (List.mem_of_getElem? (i := 1) rfl) rfl rfl dX12_goesOff_1 ?_
  refine lv_bipush (v := 42) hx hb dX12_goesOff_4 (by decide) ?_
  refine lv_iload_n hx hb dX12_goesOff_6 rfl (lv_at hl 1 rfl) ?_
  refine lv_iadd hx hb dX12_goesOff_7 ?_
  obtain ⟨q1, hw⟩ := hw
  refine z_iald hF hG 98 (by decide) z_m98 q1 dX12_goesOff_8 ?_
  refine lv_topi (fun y2 ey2 => ?_)
  replace hw := hw y2 ey2
  refine lv_istore_n (lv' := [(2, .int y2), (0, .ref (E.2.1 97)), (1, .int a1)]) hx hb dX12_goesOff_9 rfl hl (by decide) rfl (fun ls hl => ?_)
  refine lv_aload_n hx hb dX12_goesOff_10 rfl (lv_at hl 1 rfl) ?_
  refine z_get hF hG 97 (by decide) z_md rfl in12 2 (by decide) (List.mem_of_getElem? (i := 1) rfl) rfl rfl dX12_goesOff_11 ?_
  refine lv_bipush (v := 42) hx hb dX12_goesOff_14 (by decide) ?_
  refine lv_iload_n hx hb dX12_goesOff_16 rfl (lv_at hl 2 rfl) ?_
  refine lv_iadd hx hb dX12_goesOff_17 ?_
  refine lv_iconst (v := 0) hx hb dX12_goesOff_18 (by decide) ?_
  obtain ⟨q3, hw⟩ := hw
  refine z_iast hF hG 98 (by decide) (fun _ => z_m98) q3 dX12_goesOff_19 (fun Z4 H locs eZ4 hG => ?_)
  replace hw := hw Z4 eZ4
  refine lv_aload_n hx hb dX12_goesOff_20 rfl (lv_at hl 1 rfl) ?_
  refine z_get hF hG 97 (by decide) z_md rfl in12 2 (by decide) (List.mem_of_getElem? (i := 1) rfl) rfl rfl dX12_goesOff_21 ?_
  refine lv_bipush (v := 66) hx hb dX12_goesOff_24 (by decide) ?_
  refine lv_iload_n hx hb dX12_goesOff_26 rfl (lv_at hl 2 rfl) ?_
  refine lv_iadd hx hb dX12_goesOff_27 ?_
  refine lv_iconst (v := 0) hx hb dX12_goesOff_28 (by decide) ?_
  obtain ⟨q5, hw⟩ := hw
  refine z_iast hF hG 98 (by decide) (fun _ => z_m98) q5 dX12_goesOff_29 (fun Z6 H locs eZ6 hG => ?_)
  replace hw := hw Z6 eZ6
  refine lv_aload_n hx hb dX12_goesOff_30 rfl (lv_at hl 1 rfl) ?_
  refine z_get hF hG 97 (by decide) z_md rfl in12 2 (by decide) (List.mem_of_getElem? (i := 1) rfl) rfl rfl dX12_goesOff_31 ?_
  refine lv_bipush (v := 36) hx hb dX12_goesOff_34 (by decide) ?_
  refine lv_iload_n hx hb dX12_goesOff_36 rfl (lv_at hl 2 rfl) ?_
  refine lv_iadd hx hb dX12_goesOff_37 ?_
  refine lv_iconst (v := 0) hx hb dX12_goesOff_38 (by decide) ?_
  obtain ⟨q7, hw⟩ := hw
  refine z_iast hF hG 98 (by decide) (fun _ => z_m98) q7 dX12_goesOff_39 (fun Z8 H locs eZ8 hG => ?_)
  replace hw := hw Z8 eZ8
  refine lv_iload_n hx hb dX12_goesOff_40 rfl (lv_at hl 0 rfl) ?_
  exact z_iret hF hG hr hlk hw dX12_goesOff_41
theorem hS_yX12_goesOff : yX12_goesOff.cls ≠ "java/lang/invoke/MethodHandle" ∧ yX12_goesOff.cls ≠ "java/lang/invoke/VarHandle" ∧ (parseMethodDescriptor yX12_goesOff.desc).map (fun d => d.parameters.length) = some 1 := by decide +kernel
set_option maxHeartbeats 4000000 in
set_option maxRecDepth 100000 in
theorem kX12_drops (l : Launch) (E : zE) (Z : zS) (a1 : Int32) {K : Int32 → zS → Prop} (hw : wX12_drops a1 Z K) : zCi l yX12_drops wsX12_drops ({ frames := 2, cells := 0, slots := 0, locals := 43 } : Room) E Z [.ref (E.2.1 97), .int a1] K := by
  refine z_bodyi (cc := cX12_drops) (nL := 2) (ret := .int) (by decide) rfl (Nat.le_of_ble_eq_true rfl) ?_
  intro p e R s m args below meth c ls hfr hlo hF hr hlk hG hl
  have hx := hF.1.1
  have hb := hF.1.2.1
  have hown := hF.1.2.2.2.1
  have hts := hF.1.2.2.2.2
  have hl : lv_has ls 2 [(0, .ref (E.2.1 97)), (1, .int a1)] := hl
  unfold wX12_drops at hw
  refine lv_aload_n hx hb dX12_drops_0 rfl (lv_at hl 0 rfl) ?_
  refine lv_iload_n hx hb dX12_drops_1 rfl (lv_at hl 1 rfl) ?_
  refine z_ci (va_runV (rest := []) hF.1 (kX12_isServer l E Z a1  hw _) (cwV 1 hts gX12_drops_X12_isServer rfl rfl rfl ⟨rfl, hS_yX12_isServer⟩ ⟨Nat.le_trans (Nat.le_of_ble_eq_true rfl) hfr, Nat.le_trans (Nat.le_of_ble_eq_true rfl) hlo⟩) (z_preV hF hG 97 (by decide) z_md rfl) rfl rfl hl.1 rfl (lv_room (Nat.le_of_ble_eq_true rfl)) dX12_drops_2 ⟨Nat.zero_le _, Nat.zero_le _⟩) hG (fun r2 Z1 H locs hw hG => ?_)
  refine lv_if_eq (tgt := 16) hx hb dX12_drops_5 (by decide) (fun c3 => ?_) (fun c3 => ?_)
  · replace hw := hw.1 c3
    refine lv_iconst (v := (-1)) hx hb dX12_drops_16 (by decide) ?_
    exact z_iret hF hG hr hlk hw dX12_drops_17
  replace hw := hw.2 c3
  refine lv_aload_n hx hb dX12_drops_8 rfl (lv_at hl 0 rfl) ?_
  refine lv_iload_n hx hb dX12_drops_9 rfl (lv_at hl 1 rfl) ?_
  refine z_ci (va_runV (rest := []) hF.1 (kX12_goesOff l E Z1 a1  hw _) (cwV 1 hts gX12_drops_X12_goesOff rfl rfl rfl ⟨rfl, hS_yX12_goesOff⟩ ⟨Nat.le_trans (Nat.le_of_ble_eq_true rfl) hfr, Nat.le_trans (Nat.le_of_ble_eq_true rfl) hlo⟩) (z_preV hF hG 97 (by decide) z_md rfl) rfl rfl hl.1 rfl (lv_room (Nat.le_of_ble_eq_true rfl)) dX12_drops_10 ⟨Nat.zero_le _, Nat.zero_le _⟩) hG (fun r5 Z4 H locs hw hG => ?_)
  refine lv_goto (tgt := 17) hx hb dX12_drops_13 (by decide) ?_
  exact z_iret hF hG hr hlk hw dX12_drops_17
theorem hS_yX12_allLate : yX12_allLate.cls ≠ "java/lang/invoke/MethodHandle" ∧ yX12_allLate.cls ≠ "java/lang/invoke/VarHandle" ∧ (parseMethodDescriptor yX12_allLate.desc).map (fun d => d.parameters.length) = some 0 := by decide +kernel
set_option maxHeartbeats 4000000 in
set_option maxRecDepth 100000 in
theorem kX12_ticks (l : Launch) (E : zE) (Z : zS) (a1 : Int32) {K : Int32 → zS → Prop} (hw : wX12_ticks a1 Z K) : zCi l yX12_ticks wsX12_ticks ({ frames := 6, cells := 0, slots := 0, locals := 128 } : Room) E Z [.ref (E.2.1 97), .int a1] K := by
  refine z_bodyi (cc := cX12_ticks) (nL := 3) (ret := .int) (by decide) rfl (Nat.le_of_ble_eq_true rfl) ?_
  intro p e R s m args below meth c ls hfr hlo hF hr hlk hG hl
  have hx := hF.1.1
  have hb := hF.1.2.1
  have hown := hF.1.2.2.2.1
  have hts := hF.1.2.2.2.2
  have in12 : ∀ w ∈ u_ws RX12 TX12 22, w ∈ wsX12_ticks := fun _ h => List.mem_cons_of_mem _ (List.mem_append_right _ h)
  have hl : lv_has ls 3 [(0, .ref (E.2.1 97)), (1, .int a1)] := hl
  have S29 : ∀ (L29 : Int32 → zS → Prop), (∀ (x2 : Int32) (Z : zS) (H : Heap) (locs : List Loc) (ls : Array Slot), zG E Z s H locs → lv_has ls 3 [(0, .ref (E.2.1 97)), (1, .int a1), (2, .int x2)] → L29 x2 Z → W p l e R s m args below meth c H locs 0 0 (zQi E K below args s) (F0 m 29 ls [])) → ∀ (x2 : Int32) (Z : zS) (H : Heap) (locs : List Loc) (ls : Array Slot), zG E Z s H locs → lv_has ls 3 [(0, .ref (E.2.1 97)), (1, .int a1), (2, .int x2)] → wX12_ticks_29b L29 a1 x2 Z K → W p l e R s m args below meth c H locs 0 0 (zQi E K below args s) (F0 m 29 ls []) := by
    intro L29 ih29
    intro x2 Z H locs ls hG hl hw
    unfold wX12_ticks_29b at hw
    refine lv_iload_n hx hb dX12_ticks_29 rfl (lv_at hl 2 rfl) ?_
    refine lv_iload_n hx hb dX12_ticks_30 rfl (lv_at hl 1 rfl) ?_
    refine lv_icmp_ge (tgt := 44) hx hb dX12_ticks_31 (by decide) (fun c6 => ?_) (fun c6 => ?_)
    · replace hw := hw.1 c6
      refine lv_aload_n hx hb dX12_ticks_44 rfl (lv_at hl 0 rfl) ?_
      refine z_ci (va_runV (rest := []) hF.1 (kX12_allLate l E Z   hw _) (cwV 0 hts gX12_ticks_X12_allLate rfl rfl rfl ⟨rfl, hS_yX12_allLate⟩ ⟨Nat.le_trans (Nat.le_of_ble_eq_true rfl) hfr, Nat.le_trans (Nat.le_of_ble_eq_true rfl) hlo⟩) (z_preV hF hG 97 (by decide) z_md rfl) rfl rfl hl.1 rfl (lv_room (Nat.le_of_ble_eq_true rfl)) dX12_ticks_45 ⟨Nat.zero_le _, Nat.zero_le _⟩) hG (fun r8 Z7 H locs hw hG => ?_)
      exact z_iret hF hG hr hlk hw dX12_ticks_48
    replace hw := hw.2 c6
    refine lv_aload_n hx hb dX12_ticks_34 rfl (lv_at hl 0 rfl) ?_
    refine z_cv (va_runV (rest := []) hF.1 (kX12_goes l E Z   hw _) (cwV 0 hts gX12_ticks_X12_goes rfl rfl rfl ⟨rfl, hS_yX12_goes⟩ ⟨Nat.le_trans (Nat.le_of_ble_eq_true rfl) hfr, Nat.le_trans (Nat.le_of_ble_eq_true rfl) hlo⟩) (z_preV hF hG 97 (by decide) z_md rfl) rfl rfl hl.1 rfl (lv_room (Nat.le_of_ble_eq_true rfl)) dX12_ticks_35 ⟨Nat.zero_le _, Nat.zero_le _⟩) hG (fun Z9 H locs hw hG => ?_)
    obtain ⟨y10, ey10⟩ : ∃ y : Int32, y = x2 + 1 := ⟨_, rfl⟩
    replace hw := hw y10 ey10
    refine lv_iinc (v := y10) (lv' := [(2, .int y10), (0, .ref (E.2.1 97)), (1, .int a1)]) hx hb dX12_ticks_38 hl (k := 2) rfl (by rw [ey10]; rfl) (by decide) rfl (fun ls hl => ?_)
    refine lv_goto (tgt := 29) hx hb dX12_ticks_41 (by decide) ?_
    exact ih29 y10 Z9 _ _ _ hG (lv_sub hl [1, 2, 0] rfl) hw
  have J29 : ∀ n : Nat, ∀ (x2 : Int32) (Z : zS) (H : Heap) (locs : List Loc) (ls : Array Slot), zG E Z s H locs → lv_has ls 3 [(0, .ref (E.2.1 97)), (1, .int a1), (2, .int x2)] → wX12_ticks_29 a1 K n x2 Z → W p l e R s m args below meth c H locs 0 0 (zQi E K below args s) (F0 m 29 ls []) := by
    intro n
    induction n with
    | zero => intro x2 Z H locs ls hG hl hw; exact hw.elim
    | succ n ih => intro x2 Z H locs ls hG hl hw; exact S29 _ ih x2 Z H locs ls hG hl hw
  unfold wX12_ticks at hw
  refine lv_iload_n hx hb dX12_ticks_0 rfl (lv_at hl 1 rfl) ?_
  refine lv_iconst (v := 1) hx hb dX12_ticks_1 (by decide) ?_
  refine lv_bipush (v := 60) hx hb dX12_ticks_2 (by decide) ?_
  refine z_ci (va_runS (rest := []) hF.1 (kX12_within l E Z a1 1 60  hw _) (va_cwS 3 hts gX12_ticks_X12_within rfl rfl rfl hS_yX12_within ⟨Nat.le_trans (Nat.le_of_ble_eq_true rfl) hfr, Nat.le_trans (Nat.le_of_ble_eq_true rfl) hlo⟩) (z_preS hF hG) rfl rfl hl.1 rfl (lv_room (Nat.le_of_ble_eq_true rfl)) dX12_ticks_4 ⟨Nat.zero_le _, Nat.zero_le _⟩) hG (fun r2 Z1 H locs hw hG => ?_)
  refine lv_if_ne (tgt := 12) hx hb dX12_ticks_7 (by decide) (fun c3 => ?_) (fun c3 => ?_)
  · replace hw := hw.1 c3
    refine lv_aload_n hx hb dX12_ticks_12 rfl (lv_at hl 0 rfl) ?_
    refine z_get hF hG 97 (by decide) z_md rfl in12 0 (by decide) (List.mem_of_getElem? (i := 1) rfl) rfl rfl dX12_ticks_13 ?_
    refine lv_iload_n hx hb dX12_ticks_16 rfl (lv_at hl 1 rfl) ?_
    refine lv_iadd hx hb dX12_ticks_17 ?_
    refine lv_sipush (v := 9999) hx hb dX12_ticks_18 (by decide) ?_
    refine lv_icmp_le (tgt := 27) hx hb dX12_ticks_21 (by decide) (fun c4 => ?_) (fun c4 => ?_)
    · replace hw := hw.1 c4
      refine lv_iconst (v := 0) hx hb dX12_ticks_27 (by decide) ?_
      refine lv_topi (fun y5 ey5 => ?_)
      replace hw := hw y5 ey5
      refine lv_istore_n (lv' := [(2, .int y5), (0, .ref (E.2.1 97)), (1, .int a1)]) hx hb dX12_ticks_28 rfl hl (by decide) rfl (fun ls hl => ?_)
      obtain ⟨n29, hw⟩ := hw
      exact J29 n29 y5 Z1 _ _ _ hG (lv_sub hl [1, 2, 0] rfl) hw
    replace hw := hw.2 c4
    refine lv_bipush (v := (-3)) hx hb dX12_ticks_24 (by decide) ?_
    exact z_iret hF hG hr hlk hw dX12_ticks_26
  replace hw := hw.2 (fun h => h c3)
  refine lv_iconst (v := (-1)) hx hb dX12_ticks_10 (by decide) ?_
  exact z_iret hF hG hr hlk hw dX12_ticks_11
set_option maxHeartbeats 4000000 in
set_option maxRecDepth 100000 in
theorem kX12_goesOn (l : Launch) (E : zE) (Z : zS) (a1 : Int32) {K : zS → Prop} (hw : wX12_goesOn a1 Z K) : zCv l yX12_goesOn wsX12_goesOn ({ frames := 6, cells := 0, slots := 0, locals := 128 } : Room) E Z [.ref (E.2.1 97), .int a1] K := by
  refine z_bodyv (cc := cX12_goesOn) (nL := 3) (by decide) rfl (Nat.le_of_ble_eq_true rfl) ?_
  intro p e R s m args below meth c ls hfr hlo hF hr hlk hG hl
  have hx := hF.1.1
  have hb := hF.1.2.1
  have hown := hF.1.2.2.2.1
  have hts := hF.1.2.2.2.2
  have hl : lv_has ls 3 [(0, .ref (E.2.1 97)), (1, .int a1)] := hl
  have S2 : ∀ (L2 : Int32 → zS → Prop), (∀ (x2 : Int32) (Z : zS) (H : Heap) (locs : List Loc) (ls : Array Slot), zG E Z s H locs → lv_has ls 3 [(0, .ref (E.2.1 97)), (1, .int a1), (2, .int x2)] → L2 x2 Z → W p l e R s m args below meth c H locs 0 0 (zQv E K below args s) (F0 m 2 ls [])) → ∀ (x2 : Int32) (Z : zS) (H : Heap) (locs : List Loc) (ls : Array Slot), zG E Z s H locs → lv_has ls 3 [(0, .ref (E.2.1 97)), (1, .int a1), (2, .int x2)] → wX12_goesOn_2b L2 a1 x2 Z K → W p l e R s m args below meth c H locs 0 0 (zQv E K below args s) (F0 m 2 ls []) := by
    intro L2 ih2
    intro x2 Z H locs ls hG hl hw
    unfold wX12_goesOn_2b at hw
    refine lv_iload_n hx hb dX12_goesOn_2 rfl (lv_at hl 2 rfl) ?_
    refine lv_iload_n hx hb dX12_goesOn_3 rfl (lv_at hl 1 rfl) ?_
    refine lv_icmp_ge (tgt := 17) hx hb dX12_goesOn_4 (by decide) (fun c2 => ?_) (fun c2 => ?_)
    · replace hw := hw.1 c2
      exact z_vret hF hG hr hlk hw dX12_goesOn_17
    replace hw := hw.2 c2
    refine lv_aload_n hx hb dX12_goesOn_7 rfl (lv_at hl 0 rfl) ?_
    refine z_cv (va_runV (rest := []) hF.1 (kX12_goes l E Z   hw _) (cwV 0 hts gX12_goesOn_X12_goes rfl rfl rfl ⟨rfl, hS_yX12_goes⟩ ⟨Nat.le_trans (Nat.le_of_ble_eq_true rfl) hfr, Nat.le_trans (Nat.le_of_ble_eq_true rfl) hlo⟩) (z_preV hF hG 97 (by decide) z_md rfl) rfl rfl hl.1 rfl (lv_room (Nat.le_of_ble_eq_true rfl)) dX12_goesOn_8 ⟨Nat.zero_le _, Nat.zero_le _⟩) hG (fun Z3 H locs hw hG => ?_)
    obtain ⟨y4, ey4⟩ : ∃ y : Int32, y = x2 + 1 := ⟨_, rfl⟩
    replace hw := hw y4 ey4
    refine lv_iinc (v := y4) (lv' := [(2, .int y4), (0, .ref (E.2.1 97)), (1, .int a1)]) hx hb dX12_goesOn_11 hl (k := 2) rfl (by rw [ey4]; rfl) (by decide) rfl (fun ls hl => ?_)
    refine lv_goto (tgt := 2) hx hb dX12_goesOn_14 (by decide) ?_
    exact ih2 y4 Z3 _ _ _ hG (lv_sub hl [1, 2, 0] rfl) hw
  have J2 : ∀ n : Nat, ∀ (x2 : Int32) (Z : zS) (H : Heap) (locs : List Loc) (ls : Array Slot), zG E Z s H locs → lv_has ls 3 [(0, .ref (E.2.1 97)), (1, .int a1), (2, .int x2)] → wX12_goesOn_2 a1 K n x2 Z → W p l e R s m args below meth c H locs 0 0 (zQv E K below args s) (F0 m 2 ls []) := by
    intro n
    induction n with
    | zero => intro x2 Z H locs ls hG hl hw; exact hw.elim
    | succ n ih => intro x2 Z H locs ls hG hl hw; exact S2 _ ih x2 Z H locs ls hG hl hw
  unfold wX12_goesOn at hw
  refine lv_iconst (v := 0) hx hb dX12_goesOn_0 (by decide) ?_
  refine lv_topi (fun y1 ey1 => ?_)
  replace hw := hw y1 ey1
  refine lv_istore_n (lv' := [(2, .int y1), (0, .ref (E.2.1 97)), (1, .int a1)]) hx hb dX12_goesOn_1 rfl hl (by decide) rfl (fun ls hl => ?_)
  obtain ⟨n2, hw⟩ := hw
  exact J2 n2 y1 Z _ _ _ hG (lv_sub hl [1, 2, 0] rfl) hw
set_option maxHeartbeats 4000000 in
set_option maxRecDepth 100000 in
theorem kX12_workOf (l : Launch) (E : zE) (Z : zS) (a1 : Int32) {K : Int32 → zS → Prop} (hw : wX12_workOf a1 Z K) : zCi l yX12_workOf wsX12_workOf ({ frames := 0, cells := 0, slots := 0, locals := 0 } : Room) E Z [.ref (E.2.1 97), .int a1] K := by
  refine z_bodyi (cc := cX12_workOf) (nL := 4) (ret := .int) (by decide) rfl (Nat.le_of_ble_eq_true rfl) ?_
  intro p e R s m args below meth c ls hfr hlo hF hr hlk hG hl
  have hx := hF.1.1
  have hb := hF.1.2.1
  have hown := hF.1.2.2.2.1
  have hts := hF.1.2.2.2.2
  have in12 : ∀ w ∈ u_ws RX12 TX12 22, w ∈ wsX12_workOf := fun _ h => List.mem_cons_of_mem _ (List.mem_append_right _ h)
  have hl : lv_has ls 4 [(0, .ref (E.2.1 97)), (1, .int a1)] := hl
  have S4 : ∀ (L4 : Int32 → Int32 → zS → Prop), (∀ (x2 : Int32) (x3 : Int32) (Z : zS) (H : Heap) (locs : List Loc) (ls : Array Slot), zG E Z s H locs → lv_has ls 4 [(0, .ref (E.2.1 97)), (1, .int a1), (2, .int x2), (3, .int x3)] → L4 x2 x3 Z → W p l e R s m args below meth c H locs 0 0 (zQi E K below args s) (F0 m 4 ls [])) → ∀ (x2 : Int32) (x3 : Int32) (Z : zS) (H : Heap) (locs : List Loc) (ls : Array Slot), zG E Z s H locs → lv_has ls 4 [(0, .ref (E.2.1 97)), (1, .int a1), (2, .int x2), (3, .int x3)] → wX12_workOf_4b L4 a1 x2 x3 Z K → W p l e R s m args below meth c H locs 0 0 (zQi E K below args s) (F0 m 4 ls []) := by
    intro L4 ih4
    intro x2 x3 Z H locs ls hG hl hw
    unfold wX12_workOf_4b at hw
    refine lv_iload_n hx hb dX12_workOf_4 rfl (lv_at hl 3 rfl) ?_
    refine lv_aload_n hx hb dX12_workOf_5 rfl (lv_at hl 0 rfl) ?_
    refine z_get hF hG 97 (by decide) z_md rfl in12 2 (by decide) (List.mem_of_getElem? (i := 1) rfl) rfl rfl dX12_workOf_6 ?_
    refine lv_bipush (v := 42) hx hb dX12_workOf_9 (by decide) ?_
    refine lv_iload_n hx hb dX12_workOf_11 rfl (lv_at hl 1 rfl) ?_
    refine lv_iadd hx hb dX12_workOf_12 ?_
    obtain ⟨q3, hw⟩ := hw
    refine z_iald hF hG 98 (by decide) z_m98 q3 dX12_workOf_13 ?_
    refine lv_icmp_ge (tgt := 36) hx hb dX12_workOf_14 (by decide) (fun c4 => ?_) (fun c4 => ?_)
    · replace hw := hw.1 c4
      refine lv_iload_n hx hb dX12_workOf_36 rfl (lv_at hl 2 rfl) ?_
      exact z_iret hF hG hr hlk hw dX12_workOf_37
    replace hw := hw.2 c4
    refine lv_iload_n hx hb dX12_workOf_17 rfl (lv_at hl 2 rfl) ?_
    refine lv_aload_n hx hb dX12_workOf_18 rfl (lv_at hl 0 rfl) ?_
    refine z_get hF hG 97 (by decide) z_md rfl in12 3 (by decide) (List.mem_of_getElem? (i := 2) rfl) rfl rfl dX12_workOf_19 ?_
    refine lv_iconst (v := 4) hx hb dX12_workOf_22 (by decide) ?_
    refine lv_iload_n hx hb dX12_workOf_23 rfl (lv_at hl 1 rfl) ?_
    refine lv_imul hx hb dX12_workOf_24 ?_
    refine lv_iload_n hx hb dX12_workOf_25 rfl (lv_at hl 3 rfl) ?_
    refine lv_iadd hx hb dX12_workOf_26 ?_
    obtain ⟨q5, hw⟩ := hw
    refine z_iald hF hG 99 (by decide) z_m99 q5 dX12_workOf_27 ?_
    refine lv_iadd hx hb dX12_workOf_28 ?_
    refine lv_topi (fun y6 ey6 => ?_)
    replace hw := hw y6 ey6
    refine lv_istore_n (lv' := [(2, .int y6), (0, .ref (E.2.1 97)), (1, .int a1), (3, .int x3)]) hx hb dX12_workOf_29 rfl hl (by decide) rfl (fun ls hl => ?_)
    obtain ⟨y7, ey7⟩ : ∃ y : Int32, y = x3 + 1 := ⟨_, rfl⟩
    replace hw := hw y7 ey7
    refine lv_iinc (v := y7) (lv' := [(3, .int y7), (2, .int y6), (0, .ref (E.2.1 97)), (1, .int a1)]) hx hb dX12_workOf_30 hl (k := 3) rfl (by rw [ey7]; rfl) (by decide) rfl (fun ls hl => ?_)
    refine lv_goto (tgt := 4) hx hb dX12_workOf_33 (by decide) ?_
    exact ih4 y6 y7 Z _ _ _ hG (lv_sub hl [2, 3, 1, 0] rfl) hw
  have J4 : ∀ n : Nat, ∀ (x2 : Int32) (x3 : Int32) (Z : zS) (H : Heap) (locs : List Loc) (ls : Array Slot), zG E Z s H locs → lv_has ls 4 [(0, .ref (E.2.1 97)), (1, .int a1), (2, .int x2), (3, .int x3)] → wX12_workOf_4 a1 K n x2 x3 Z → W p l e R s m args below meth c H locs 0 0 (zQi E K below args s) (F0 m 4 ls []) := by
    intro n
    induction n with
    | zero => intro x2 x3 Z H locs ls hG hl hw; exact hw.elim
    | succ n ih => intro x2 x3 Z H locs ls hG hl hw; exact S4 _ ih x2 x3 Z H locs ls hG hl hw
  unfold wX12_workOf at hw
  refine lv_iconst (v := 0) hx hb dX12_workOf_0 (by decide) ?_
  refine lv_topi (fun y1 ey1 => ?_)
  replace hw := hw y1 ey1
  refine lv_istore_n (lv' := [(2, .int y1), (0, .ref (E.2.1 97)), (1, .int a1)]) hx hb dX12_workOf_1 rfl hl (by decide) rfl (fun ls hl => ?_)
  refine lv_iconst (v := 0) hx hb dX12_workOf_2 (by decide) ?_
  refine lv_topi (fun y2 ey2 => ?_)
  replace hw := hw y2 ey2
  refine lv_istore_n (lv' := [(3, .int y2), (2, .int y1), (0, .ref (E.2.1 97)), (1, .int a1)]) hx hb dX12_workOf_3 rfl hl (by decide) rfl (fun ls hl => ?_)
  obtain ⟨n4, hw⟩ := hw
  exact J4 n4 y1 y2 Z _ _ _ hG (lv_sub hl [2, 3, 1, 0] rfl) hw
theorem hS_yX12_workOf : yX12_workOf.cls ≠ "java/lang/invoke/MethodHandle" ∧ yX12_workOf.cls ≠ "java/lang/invoke/VarHandle" ∧ (parseMethodDescriptor yX12_workOf.desc).map (fun d => d.parameters.length) = some 1 := by decide +kernel
set_option maxHeartbeats 4000000 in
set_option maxRecDepth 100000 in
theorem kX12_told (l : Launch) (E : zE) (Z : zS) (a1 : Int32) (a2 : Int32) {K : Int32 → zS → Prop} (hw : wX12_told a1 a2 Z K) : zCi l yX12_told wsX12_told ({ frames := 1, cells := 0, slots := 0, locals := 23 } : Room) E Z [.ref (E.2.1 97), .int a1, .int a2] K := by
  refine z_bodyi (cc := cX12_told) (nL := 3) (ret := .int) (by decide) rfl (Nat.le_of_ble_eq_true rfl) ?_
  intro p e R s m args below meth c ls hfr hlo hF hr hlk hG hl
  have hx := hF.1.1
  have hb := hF.1.2.1
  have hown := hF.1.2.2.2.1
  have hts := hF.1.2.2.2.2
  have in12 : ∀ w ∈ u_ws RX12 TX12 22, w ∈ wsX12_told := fun _ h => List.mem_cons_of_mem _ (List.mem_append_right _ h)
  have hl : lv_has ls 3 [(0, .ref (E.2.1 97)), (1, .int a1), (2, .int a2)] := hl
  unfold wX12_told at hw
  refine lv_iload_n hx hb dX12_told_0 rfl (lv_at hl 2 rfl) ?_
  refine lv_topi (fun y1 ey1 => ?_)
  replace hw := hw y1 ey1
  by_cases c2 : y1 = 0
  · replace hw := hw.1 c2
    refine lv_tableIn (tgt := 36) (off := 35) hx hb dX12_told_1 (by rw [c2]; decide) (by rw [c2]; decide) (by rw [c2]; decide) (by decide) ?_
    refine lv_aload_n hx hb dX12_told_36 rfl (lv_at hl 0 rfl) ?_
    refine lv_iload_n hx hb dX12_told_37 rfl (lv_at hl 1 rfl) ?_
    refine z_ci (va_runV (rest := []) hF.1 (kX12_workOf l E Z a1  hw _) (cwV 1 hts gX12_told_X12_workOf rfl rfl rfl ⟨rfl, hS_yX12_workOf⟩ ⟨Nat.le_trans (Nat.le_of_ble_eq_true rfl) hfr, Nat.le_trans (Nat.le_of_ble_eq_true rfl) hlo⟩) (z_preV hF hG 97 (by decide) z_md rfl) rfl rfl hl.1 rfl (lv_room (Nat.le_of_ble_eq_true rfl)) dX12_told_38 ⟨Nat.zero_le _, Nat.zero_le _⟩) hG (fun r4 Z3 H locs hw hG => ?_)
    exact z_iret hF hG hr hlk hw dX12_told_41
  replace hw := hw.2 c2
  by_cases c5 : y1 = 1
  · replace hw := hw.1 c5
    refine lv_tableIn (tgt := 42) (off := 41) hx hb dX12_told_1 (by rw [c5]; decide) (by rw [c5]; decide) (by rw [c5]; decide) (by decide) ?_
    refine lv_aload_n hx hb dX12_told_42 rfl (lv_at hl 0 rfl) ?_
    refine z_get hF hG 97 (by decide) z_md rfl in12 2 (by decide) (List.mem_of_getElem? (i := 1) rfl) rfl rfl dX12_told_43 ?_
    refine lv_bipush (v := 24) hx hb dX12_told_46 (by decide) ?_
    refine lv_iload_n hx hb dX12_told_48 rfl (lv_at hl 1 rfl) ?_
    refine lv_iadd hx hb dX12_told_49 ?_
    obtain ⟨q6, hw⟩ := hw
    refine z_iald hF hG 98 (by decide) z_m98 q6 dX12_told_50 ?_
    refine lv_sipush (v := 10000) hx hb dX12_told_51 (by decide) ?_
    refine lv_iadd hx hb dX12_told_54 ?_
    exact z_iret hF hG hr hlk hw dX12_told_55
  replace hw := hw.2 c5
  by_cases c7 : y1 = 2
  · replace hw := hw.1 c7
    refine lv_tableIn (tgt := 56) (off := 55) hx hb dX12_told_1 (by rw [c7]; decide) (by rw [c7]; decide) (by rw [c7]; decide) (by decide) ?_
    refine lv_aload_n hx hb dX12_told_56 rfl (lv_at hl 0 rfl) ?_
    refine z_get hF hG 97 (by decide) z_md rfl in12 2 (by decide) (List.mem_of_getElem? (i := 1) rfl) rfl rfl dX12_told_57 ?_
    refine lv_bipush (v := 30) hx hb dX12_told_60 (by decide) ?_
    refine lv_iload_n hx hb dX12_told_62 rfl (lv_at hl 1 rfl) ?_
    refine lv_iadd hx hb dX12_told_63 ?_
    obtain ⟨q8, hw⟩ := hw
    refine z_iald hF hG 98 (by decide) z_m98 q8 dX12_told_64 ?_
    exact z_iret hF hG hr hlk hw dX12_told_65
  replace hw := hw.2 c7
  by_cases c9 : y1 = 3
  · replace hw := hw.1 c9
    refine lv_tableIn (tgt := 66) (off := 65) hx hb dX12_told_1 (by rw [c9]; decide) (by rw [c9]; decide) (by rw [c9]; decide) (by decide) ?_
    refine lv_aload_n hx hb dX12_told_66 rfl (lv_at hl 0 rfl) ?_
    refine z_get hF hG 97 (by decide) z_md rfl in12 2 (by decide) (List.mem_of_getElem? (i := 1) rfl) rfl rfl dX12_told_67 ?_
    refine lv_bipush (v := 36) hx hb dX12_told_70 (by decide) ?_
    refine lv_iload_n hx hb dX12_told_72 rfl (lv_at hl 1 rfl) ?_
    refine lv_iadd hx hb dX12_told_73 ?_
    obtain ⟨q10, hw⟩ := hw
    refine z_iald hF hG 98 (by decide) z_m98 q10 dX12_told_74 ?_
    exact z_iret hF hG hr hlk hw dX12_told_75
  replace hw := hw.2 c9
  by_cases c11 : y1 = 4
  · replace hw := hw.1 c11
    refine lv_tableIn (tgt := 76) (off := 75) hx hb dX12_told_1 (by rw [c11]; decide) (by rw [c11]; decide) (by rw [c11]; decide) (by decide) ?_
    refine lv_aload_n hx hb dX12_told_76 rfl (lv_at hl 0 rfl) ?_
    refine z_get hF hG 97 (by decide) z_md rfl in12 2 (by decide) (List.mem_of_getElem? (i := 1) rfl) rfl rfl dX12_told_77 ?_
    refine lv_bipush (v := 48) hx hb dX12_told_80 (by decide) ?_
    refine lv_iload_n hx hb dX12_told_82 rfl (lv_at hl 1 rfl) ?_
    refine lv_iadd hx hb dX12_told_83 ?_
    obtain ⟨q12, hw⟩ := hw
    refine z_iald hF hG 98 (by decide) z_m98 q12 dX12_told_84 ?_
    exact z_iret hF hG hr hlk hw dX12_told_85
  replace hw := hw.2 c11
  refine lv_tableOut (tgt := 86) hx hb dX12_told_1 (by have t0 := lv_neT c2 (a := 0) (by decide); have t1 := lv_neT c5 (a := 1) (by decide); have t2 := lv_neT c7 (a := 2) (by decide); have t3 := lv_neT c9 (a := 3) (by decide); have t4 := lv_neT c11 (a := 4) (by decide); omega) (by decide) ?_
  refine lv_aload_n hx hb dX12_told_86 rfl (lv_at hl 0 rfl) ?_
  refine z_get hF hG 97 (by decide) z_md rfl in12 2 (by decide) (List.mem_of_getElem? (i := 1) rfl) rfl rfl dX12_told_87 ?_
  refine lv_bipush (v := 54) hx hb dX12_told_90 (by decide) ?_
  refine lv_iload_n hx hb dX12_told_92 rfl (lv_at hl 1 rfl) ?_
  refine lv_iadd hx hb dX12_told_93 ?_
  obtain ⟨q13, hw⟩ := hw
  refine z_iald hF hG 98 (by decide) z_m98 q13 dX12_told_94 ?_
  exact z_iret hF hG hr hlk hw dX12_told_95
theorem hS_yX12_goesOn : yX12_goesOn.cls ≠ "java/lang/invoke/MethodHandle" ∧ yX12_goesOn.cls ≠ "java/lang/invoke/VarHandle" ∧ (parseMethodDescriptor yX12_goesOn.desc).map (fun d => d.parameters.length) = some 1 := by decide +kernel
theorem hS_yX12_told : yX12_told.cls ≠ "java/lang/invoke/MethodHandle" ∧ yX12_told.cls ≠ "java/lang/invoke/VarHandle" ∧ (parseMethodDescriptor yX12_told.desc).map (fun d => d.parameters.length) = some 2 := by decide +kernel
set_option maxHeartbeats 4000000 in
set_option maxRecDepth 100000 in
theorem kX12_then (l : Launch) (E : zE) (Z : zS) (a1 : Int32) (a2 : Int32) (a3 : Int32) {K : Int32 → zS → Prop} (hw : wX12_then a1 a2 a3 Z K) : zCi l yX12_then wsX12_then ({ frames := 7, cells := 0, slots := 0, locals := 150 } : Room) E Z [.ref (E.2.1 97), .int a1, .int a2, .int a3] K := by
  refine z_bodyi (cc := cX12_then) (nL := 5) (ret := .int) (by decide) rfl (Nat.le_of_ble_eq_true rfl) ?_
  intro p e R s m args below meth c ls hfr hlo hF hr hlk hG hl
  have hx := hF.1.1
  have hb := hF.1.2.1
  have hown := hF.1.2.2.2.1
  have hts := hF.1.2.2.2.2
  have in12 : ∀ w ∈ u_ws RX12 TX12 22, w ∈ wsX12_then := fun _ h => List.mem_cons_of_mem _ (List.mem_append_right _ h)
  have hl : lv_has ls 5 [(0, .ref (E.2.1 97)), (1, .int a1), (2, .int a2), (3, .int a3)] := hl
  unfold wX12_then at hw
  refine lv_aload_n hx hb dX12_then_0 rfl (lv_at hl 0 rfl) ?_
  refine lv_iload_n hx hb dX12_then_1 rfl (lv_at hl 1 rfl) ?_
  refine z_ci (va_runV (rest := []) hF.1 (kX12_isServer l E Z a1  hw _) (cwV 1 hts gX12_then_X12_isServer rfl rfl rfl ⟨rfl, hS_yX12_isServer⟩ ⟨Nat.le_trans (Nat.le_of_ble_eq_true rfl) hfr, Nat.le_trans (Nat.le_of_ble_eq_true rfl) hlo⟩) (z_preV hF hG 97 (by decide) z_md rfl) rfl rfl hl.1 rfl (lv_room (Nat.le_of_ble_eq_true rfl)) dX12_then_2 ⟨Nat.zero_le _, Nat.zero_le _⟩) hG (fun r2 Z1 H locs hw hG => ?_)
  refine lv_if_eq (tgt := 27) hx hb dX12_then_5 (by decide) (fun c3 => ?_) (fun c3 => ?_)
  · replace hw := hw.1 c3
    refine lv_iconst (v := (-1)) hx hb dX12_then_27 (by decide) ?_
    exact z_iret hF hG hr hlk hw dX12_then_28
  replace hw := hw.2 c3
  refine lv_iload_n hx hb dX12_then_8 rfl (lv_at hl 2 rfl) ?_
  refine lv_iconst (v := 0) hx hb dX12_then_9 (by decide) ?_
  refine lv_bipush (v := 99) hx hb dX12_then_10 (by decide) ?_
  refine z_ci (va_runS (rest := []) hF.1 (kX12_within l E Z1 a2 0 99  hw _) (va_cwS 3 hts gX12_then_X12_within rfl rfl rfl hS_yX12_within ⟨Nat.le_trans (Nat.le_of_ble_eq_true rfl) hfr, Nat.le_trans (Nat.le_of_ble_eq_true rfl) hlo⟩) (z_preS hF hG) rfl rfl hl.1 rfl (lv_room (Nat.le_of_ble_eq_true rfl)) dX12_then_12 ⟨Nat.zero_le _, Nat.zero_le _⟩) hG (fun r5 Z4 H locs hw hG => ?_)
  refine lv_if_eq (tgt := 27) hx hb dX12_then_15 (by decide) (fun c6 => ?_) (fun c6 => ?_)
  · replace hw := hw.1 c6
    refine lv_iconst (v := (-1)) hx hb dX12_then_27 (by decide) ?_
    exact z_iret hF hG hr hlk hw dX12_then_28
  replace hw := hw.2 c6
  refine lv_iload_n hx hb dX12_then_18 rfl (lv_at hl 3 rfl) ?_
  refine lv_iconst (v := 0) hx hb dX12_then_19 (by decide) ?_
  refine lv_iconst (v := 5) hx hb dX12_then_20 (by decide) ?_
  refine z_ci (va_runS (rest := []) hF.1 (kX12_within l E Z4 a3 0 5  hw _) (va_cwS 3 hts gX12_then_X12_within rfl rfl rfl hS_yX12_within ⟨Nat.le_trans (Nat.le_of_ble_eq_true rfl) hfr, Nat.le_trans (Nat.le_of_ble_eq_true rfl) hlo⟩) (z_preS hF hG) rfl rfl hl.1 rfl (lv_room (Nat.le_of_ble_eq_true rfl)) dX12_then_21 ⟨Nat.zero_le _, Nat.zero_le _⟩) hG (fun r8 Z7 H locs hw hG => ?_)
  refine lv_if_ne (tgt := 29) hx hb dX12_then_24 (by decide) (fun c9 => ?_) (fun c9 => ?_)
  · replace hw := hw.1 c9
    refine lv_aload_n hx hb dX12_then_29 rfl (lv_at hl 0 rfl) ?_
    refine lv_aload_n hx hb dX12_then_30 rfl (lv_at hl 0 rfl) ?_
    refine z_get hF hG 97 (by decide) z_md rfl in12 10 (by decide) (List.mem_of_getElem? (i := 1) rfl) rfl rfl dX12_then_31 ?_
    refine z_cv (va_runV (rest := []) hF.1 (kX12_keep l E Z7 102 122 (by decide) (fun _ => z_m102) hw _) (cwV 1 hts gX12_then_X12_keep rfl rfl rfl ⟨rfl, hS_yX12_keep⟩ ⟨Nat.le_trans (Nat.le_of_ble_eq_true rfl) hfr, Nat.le_trans (Nat.le_of_ble_eq_true rfl) hlo⟩) (z_preV hF hG 97 (by decide) z_md rfl) rfl rfl hl.1 rfl (lv_room (Nat.le_of_ble_eq_true rfl)) dX12_then_34 ⟨Nat.zero_le _, Nat.zero_le _⟩) hG (fun Z10 H locs hw hG => ?_)
    refine lv_aload_n hx hb dX12_then_37 rfl (lv_at hl 0 rfl) ?_
    refine lv_iload_n hx hb dX12_then_38 rfl (lv_at hl 2 rfl) ?_
    refine z_cv (va_runV (rest := []) hF.1 (kX12_goesOn l E Z10 a2  hw _) (cwV 1 hts gX12_then_X12_goesOn rfl rfl rfl ⟨rfl, hS_yX12_goesOn⟩ ⟨Nat.le_trans (Nat.le_of_ble_eq_true rfl) hfr, Nat.le_trans (Nat.le_of_ble_eq_true rfl) hlo⟩) (z_preV hF hG 97 (by decide) z_md rfl) rfl rfl hl.1 rfl (lv_room (Nat.le_of_ble_eq_true rfl)) dX12_then_39 ⟨Nat.zero_le _, Nat.zero_le _⟩) hG (fun Z11 H locs hw hG => ?_)
    refine lv_aload_n hx hb dX12_then_42 rfl (lv_at hl 0 rfl) ?_
    refine lv_iload_n hx hb dX12_then_43 rfl (lv_at hl 1 rfl) ?_
    refine lv_iload_n hx hb dX12_then_44 rfl (lv_at hl 3 rfl) ?_
    refine z_ci (va_runV (rest := []) hF.1 (kX12_told l E Z11 a1 a3  hw _) (cwV 2 hts gX12_then_X12_told rfl rfl rfl ⟨rfl, hS_yX12_told⟩ ⟨Nat.le_trans (Nat.le_of_ble_eq_true rfl) hfr, Nat.le_trans (Nat.le_of_ble_eq_true rfl) hlo⟩) (z_preV hF hG 97 (by decide) z_md rfl) rfl rfl hl.1 rfl (lv_room (Nat.le_of_ble_eq_true rfl)) dX12_then_45 ⟨Nat.zero_le _, Nat.zero_le _⟩) hG (fun r13 Z12 H locs hw hG => ?_)
    refine lv_istore (lv' := [(4, .int r13), (0, .ref (E.2.1 97)), (1, .int a1), (2, .int a2), (3, .int a3)]) hx hb dX12_then_48 hl (by decide) rfl (fun ls hl => ?_)
    refine lv_aload_n hx hb dX12_then_50 rfl (lv_at hl 1 rfl) ?_
    refine lv_aload_n hx hb dX12_then_51 rfl (lv_at hl 1 rfl) ?_
    refine z_get hF hG 97 (by decide) z_md rfl in12 10 (by decide) (List.mem_of_getElem? (i := 1) rfl) rfl rfl dX12_then_52 ?_
    refine z_cv (va_runV (rest := []) hF.1 (kX12_again l E Z12 102 122 (by decide) (fun _ => z_m102) hw _) (cwV 1 hts gX12_then_X12_again rfl rfl rfl ⟨rfl, hS_yX12_again⟩ ⟨Nat.le_trans (Nat.le_of_ble_eq_true rfl) hfr, Nat.le_trans (Nat.le_of_ble_eq_true rfl) hlo⟩) (z_preV hF hG 97 (by decide) z_md rfl) rfl rfl hl.1 rfl (lv_room (Nat.le_of_ble_eq_true rfl)) dX12_then_55 ⟨Nat.zero_le _, Nat.zero_le _⟩) hG (fun Z14 H locs hw hG => ?_)
    refine lv_iload hx hb dX12_then_58 (lv_at hl 0 rfl) ?_
    exact z_iret hF hG hr hlk hw dX12_then_60
  replace hw := hw.2 (fun h => h c9)
  refine lv_iconst (v := (-1)) hx hb dX12_then_27 (by decide) ?_
  exact z_iret hF hG hr hlk hw dX12_then_28
set_option maxHeartbeats 4000000 in
set_option maxRecDepth 100000 in
theorem kX12_runs (l : Launch) (E : zE) (Z : zS) (a1 : Int32) (a2 : Int32) {K : Int32 → zS → Prop} (hw : wX12_runs a1 a2 Z K) : zCi l yX12_runs wsX12_runs ({ frames := 7, cells := 0, slots := 0, locals := 150 } : Room) E Z [.ref (E.2.1 97), .int a1, .int a2] K := by
  refine z_bodyi (cc := cX12_runs) (nL := 4) (ret := .int) (by decide) rfl (Nat.le_of_ble_eq_true rfl) ?_
  intro p e R s m args below meth c ls hfr hlo hF hr hlk hG hl
  have hx := hF.1.1
  have hb := hF.1.2.1
  have hown := hF.1.2.2.2.1
  have hts := hF.1.2.2.2.2
  have in12 : ∀ w ∈ u_ws RX12 TX12 22, w ∈ wsX12_runs := fun _ h => List.mem_cons_of_mem _ (List.mem_append_right _ h)
  have hl : lv_has ls 4 [(0, .ref (E.2.1 97)), (1, .int a1), (2, .int a2)] := hl
  have J49 : ∀ (s0 : Int32) (Z : zS) (H : Heap) (locs : List Loc) (ls : Array Slot), zG E Z s H locs → lv_has ls 4 [(0, .ref (E.2.1 97))] → wX12_runs_49 a1 a2 s0 Z K → W p l e R s m args below meth c H locs 0 0 (zQi E K below args s) (F0 m 49 ls [.int s0]) := by
    intro s0 Z H locs ls hG hl hw
    unfold wX12_runs_49 at hw
    refine lv_istore_n (lv' := [(3, .int s0), (0, .ref (E.2.1 97))]) hx hb dX12_runs_49 rfl hl (by decide) rfl (fun ls hl => ?_)
    refine lv_aload_n hx hb dX12_runs_50 rfl (lv_at hl 1 rfl) ?_
    refine lv_aload_n hx hb dX12_runs_51 rfl (lv_at hl 1 rfl) ?_
    refine z_get hF hG 97 (by decide) z_md rfl in12 10 (by decide) (List.mem_of_getElem? (i := 1) rfl) rfl rfl dX12_runs_52 ?_
    refine z_cv (va_runV (rest := []) hF.1 (kX12_again l E Z 102 122 (by decide) (fun _ => z_m102) hw _) (cwV 1 hts gX12_runs_X12_again rfl rfl rfl ⟨rfl, hS_yX12_again⟩ ⟨Nat.le_trans (Nat.le_of_ble_eq_true rfl) hfr, Nat.le_trans (Nat.le_of_ble_eq_true rfl) hlo⟩) (z_preV hF hG 97 (by decide) z_md rfl) rfl rfl hl.1 rfl (lv_room (Nat.le_of_ble_eq_true rfl)) dX12_runs_55 ⟨Nat.zero_le _, Nat.zero_le _⟩) hG (fun Z10 H locs hw hG => ?_)
    refine lv_iload_n hx hb dX12_runs_58 rfl (lv_at hl 0 rfl) ?_
    exact z_iret hF hG hr hlk hw dX12_runs_59
  unfold wX12_runs at hw
  refine lv_iload_n hx hb dX12_runs_0 rfl (lv_at hl 1 rfl) ?_
  refine lv_iconst (v := 1) hx hb dX12_runs_1 (by decide) ?_
  refine lv_bipush (v := 99) hx hb dX12_runs_2 (by decide) ?_
  refine z_ci (va_runS (rest := []) hF.1 (kX12_within l E Z a1 1 99  hw _) (va_cwS 3 hts gX12_runs_X12_within rfl rfl rfl hS_yX12_within ⟨Nat.le_trans (Nat.le_of_ble_eq_true rfl) hfr, Nat.le_trans (Nat.le_of_ble_eq_true rfl) hlo⟩) (z_preS hF hG) rfl rfl hl.1 rfl (lv_room (Nat.le_of_ble_eq_true rfl)) dX12_runs_4 ⟨Nat.zero_le _, Nat.zero_le _⟩) hG (fun r2 Z1 H locs hw hG => ?_)
  refine lv_if_eq (tgt := 19) hx hb dX12_runs_7 (by decide) (fun c3 => ?_) (fun c3 => ?_)
  · replace hw := hw.1 c3
    refine lv_iconst (v := (-1)) hx hb dX12_runs_19 (by decide) ?_
    exact z_iret hF hG hr hlk hw dX12_runs_20
  replace hw := hw.2 c3
  refine lv_iload_n hx hb dX12_runs_10 rfl (lv_at hl 2 rfl) ?_
  refine lv_iconst (v := 0) hx hb dX12_runs_11 (by decide) ?_
  refine lv_iconst (v := 1) hx hb dX12_runs_12 (by decide) ?_
  refine z_ci (va_runS (rest := []) hF.1 (kX12_within l E Z1 a2 0 1  hw _) (va_cwS 3 hts gX12_runs_X12_within rfl rfl rfl hS_yX12_within ⟨Nat.le_trans (Nat.le_of_ble_eq_true rfl) hfr, Nat.le_trans (Nat.le_of_ble_eq_true rfl) hlo⟩) (z_preS hF hG) rfl rfl hl.1 rfl (lv_room (Nat.le_of_ble_eq_true rfl)) dX12_runs_13 ⟨Nat.zero_le _, Nat.zero_le _⟩) hG (fun r5 Z4 H locs hw hG => ?_)
  refine lv_if_ne (tgt := 21) hx hb dX12_runs_16 (by decide) (fun c6 => ?_) (fun c6 => ?_)
  · replace hw := hw.1 c6
    refine lv_aload_n hx hb dX12_runs_21 rfl (lv_at hl 0 rfl) ?_
    refine lv_aload_n hx hb dX12_runs_22 rfl (lv_at hl 0 rfl) ?_
    refine z_get hF hG 97 (by decide) z_md rfl in12 10 (by decide) (List.mem_of_getElem? (i := 1) rfl) rfl rfl dX12_runs_23 ?_
    refine z_cv (va_runV (rest := []) hF.1 (kX12_keep l E Z4 102 122 (by decide) (fun _ => z_m102) hw _) (cwV 1 hts gX12_runs_X12_keep rfl rfl rfl ⟨rfl, hS_yX12_keep⟩ ⟨Nat.le_trans (Nat.le_of_ble_eq_true rfl) hfr, Nat.le_trans (Nat.le_of_ble_eq_true rfl) hlo⟩) (z_preV hF hG 97 (by decide) z_md rfl) rfl rfl hl.1 rfl (lv_room (Nat.le_of_ble_eq_true rfl)) dX12_runs_26 ⟨Nat.zero_le _, Nat.zero_le _⟩) hG (fun Z7 H locs hw hG => ?_)
    refine lv_aload_n hx hb dX12_runs_29 rfl (lv_at hl 0 rfl) ?_
    refine lv_iload_n hx hb dX12_runs_30 rfl (lv_at hl 1 rfl) ?_
    refine z_cv (va_runV (rest := []) hF.1 (kX12_goesOn l E Z7 a1  hw _) (cwV 1 hts gX12_runs_X12_goesOn rfl rfl rfl ⟨rfl, hS_yX12_goesOn⟩ ⟨Nat.le_trans (Nat.le_of_ble_eq_true rfl) hfr, Nat.le_trans (Nat.le_of_ble_eq_true rfl) hlo⟩) (z_preV hF hG 97 (by decide) z_md rfl) rfl rfl hl.1 rfl (lv_room (Nat.le_of_ble_eq_true rfl)) dX12_runs_31 ⟨Nat.zero_le _, Nat.zero_le _⟩) hG (fun Z8 H locs hw hG => ?_)
    refine lv_iload_n hx hb dX12_runs_34 rfl (lv_at hl 2 rfl) ?_
    refine lv_if_ne (tgt := 45) hx hb dX12_runs_35 (by decide) (fun c9 => ?_) (fun c9 => ?_)
    · replace hw := hw.1 c9
      refine lv_aload_n hx hb dX12_runs_45 rfl (lv_at hl 0 rfl) ?_
      refine z_get hF hG 97 (by decide) z_md rfl in12 6 (by decide) (List.mem_of_getElem? (i := 3) rfl) rfl rfl dX12_runs_46 ?_
      exact J49 ((Z8 97 6)) Z8 _ _ _ hG (lv_sub hl [0] rfl) hw
    replace hw := hw.2 (fun h => h c9)
    refine lv_aload_n hx hb dX12_runs_38 rfl (lv_at hl 0 rfl) ?_
    refine z_get hF hG 97 (by decide) z_md rfl in12 5 (by decide) (List.mem_of_getElem? (i := 2) rfl) rfl rfl dX12_runs_39 ?_
    refine lv_goto (tgt := 49) hx hb dX12_runs_42 (by decide) ?_
    exact J49 ((Z8 97 5)) Z8 _ _ _ hG (lv_sub hl [0] rfl) hw
  replace hw := hw.2 (fun h => h c6)
  refine lv_iconst (v := (-1)) hx hb dX12_runs_19 (by decide) ?_
  exact z_iret hF hG hr hlk hw dX12_runs_20
set_option maxHeartbeats 4000000 in
set_option maxRecDepth 100000 in
theorem kX12_isQuiet (l : Launch) (E : zE) (Z : zS) (a1 : Int32) {K : Int32 → zS → Prop} (hw : wX12_isQuiet a1 Z K) : zCi l yX12_isQuiet wsX12_isQuiet ({ frames := 0, cells := 0, slots := 0, locals := 0 } : Room) E Z [.ref (E.2.1 97), .int a1] K := by
  refine z_bodyi (cc := cX12_isQuiet) (nL := 3) (ret := .boolean) (by decide) rfl (Nat.le_of_ble_eq_true rfl) ?_
  intro p e R s m args below meth c ls hfr hlo hF hr hlk hG hl
  have hx := hF.1.1
  have hb := hF.1.2.1
  have hown := hF.1.2.2.2.1
  have hts := hF.1.2.2.2.2
  have in12 : ∀ w ∈ u_ws RX12 TX12 22, w ∈ wsX12_isQuiet := fun _ h => List.mem_cons_of_mem _ (List.mem_append_right _ h)
  have hl : lv_has ls 3 [(0, .ref (E.2.1 97)), (1, .int a1)] := hl
  have S2 : ∀ (L2 : Int32 → zS → Prop), (∀ (x2 : Int32) (Z : zS) (H : Heap) (locs : List Loc) (ls : Array Slot), zG E Z s H locs → lv_has ls 3 [(0, .ref (E.2.1 97)), (1, .int a1), (2, .int x2)] → L2 x2 Z → W p l e R s m args below meth c H locs 0 0 (zQi E K below args s) (F0 m 2 ls [])) → ∀ (x2 : Int32) (Z : zS) (H : Heap) (locs : List Loc) (ls : Array Slot), zG E Z s H locs → lv_has ls 3 [(0, .ref (E.2.1 97)), (1, .int a1), (2, .int x2)] → wX12_isQuiet_2b L2 a1 x2 Z K → W p l e R s m args below meth c H locs 0 0 (zQi E K below args s) (F0 m 2 ls []) := by
    intro L2 ih2
    have J43 : ∀ (x2 : Int32) (Z : zS) (H : Heap) (locs : List Loc) (ls : Array Slot), zG E Z s H locs → lv_has ls 3 [(0, .ref (E.2.1 97)), (1, .int a1), (2, .int x2)] → wX12_isQuiet_43 L2 a1 x2 Z K → W p l e R s m args below meth c H locs 0 0 (zQi E K below args s) (F0 m 43 ls []) := by
      intro x2 Z H locs ls hG hl hw
      unfold wX12_isQuiet_43 at hw
      obtain ⟨y8, ey8⟩ : ∃ y : Int32, y = x2 + 1 := ⟨_, rfl⟩
      replace hw := hw y8 ey8
      refine lv_iinc (v := y8) (lv' := [(2, .int y8), (0, .ref (E.2.1 97)), (1, .int a1)]) hx hb dX12_isQuiet_43 hl (k := 2) rfl (by rw [ey8]; rfl) (by decide) rfl (fun ls hl => ?_)
      refine lv_goto (tgt := 2) hx hb dX12_isQuiet_46 (by decide) ?_
      exact ih2 y8 Z _ _ _ hG (lv_sub hl [1, 2, 0] rfl) hw
    intro x2 Z H locs ls hG hl hw
    unfold wX12_isQuiet_2b at hw
    refine lv_iload_n hx hb dX12_isQuiet_2 rfl (lv_at hl 2 rfl) ?_
    refine lv_aload_n hx hb dX12_isQuiet_3 rfl (lv_at hl 0 rfl) ?_
    refine z_get hF hG 97 (by decide) z_md rfl in12 1 (by decide) (List.mem_of_getElem? (i := 1) rfl) rfl rfl dX12_isQuiet_4 ?_
    refine lv_icmp_ge (tgt := 49) hx hb dX12_isQuiet_7 (by decide) (fun c2 => ?_) (fun c2 => ?_)
    · replace hw := hw.1 c2
      refine lv_iconst (v := 1) hx hb dX12_isQuiet_49 (by decide) ?_
      exact z_zret hF hG hr hlk (by decide) hw dX12_isQuiet_50
    replace hw := hw.2 c2
    refine lv_iload_n hx hb dX12_isQuiet_10 rfl (lv_at hl 1 rfl) ?_
    refine lv_if_ne (tgt := 29) hx hb dX12_isQuiet_11 (by decide) (fun c3 => ?_) (fun c3 => ?_)
    · replace hw := hw.1 c3
      refine lv_aload_n hx hb dX12_isQuiet_29 rfl (lv_at hl 0 rfl) ?_
      refine z_get hF hG 97 (by decide) z_md rfl in12 2 (by decide) (List.mem_of_getElem? (i := 2) rfl) rfl rfl dX12_isQuiet_30 ?_
      refine lv_bipush (v := 36) hx hb dX12_isQuiet_33 (by decide) ?_
      refine lv_iload_n hx hb dX12_isQuiet_35 rfl (lv_at hl 2 rfl) ?_
      refine lv_iadd hx hb dX12_isQuiet_36 ?_
      obtain ⟨q4, hw⟩ := hw
      refine z_iald hF hG 98 (by decide) z_m98 q4 dX12_isQuiet_37 ?_
      refine lv_if_eq (tgt := 43) hx hb dX12_isQuiet_38 (by decide) (fun c5 => ?_) (fun c5 => ?_)
      · replace hw := hw.1 c5
        exact J43 x2 Z _ _ _ hG (lv_sub hl [0, 1, 2] rfl) hw
      replace hw := hw.2 c5
      refine lv_iconst (v := 0) hx hb dX12_isQuiet_41 (by decide) ?_
      exact z_zret hF hG hr hlk (by decide) hw dX12_isQuiet_42
    replace hw := hw.2 (fun h => h c3)
    refine lv_aload_n hx hb dX12_isQuiet_14 rfl (lv_at hl 0 rfl) ?_
    refine z_get hF hG 97 (by decide) z_md rfl in12 2 (by decide) (List.mem_of_getElem? (i := 2) rfl) rfl rfl dX12_isQuiet_15 ?_
    refine lv_bipush (v := 42) hx hb dX12_isQuiet_18 (by decide) ?_
    refine lv_iload_n hx hb dX12_isQuiet_20 rfl (lv_at hl 2 rfl) ?_
    refine lv_iadd hx hb dX12_isQuiet_21 ?_
    obtain ⟨q6, hw⟩ := hw
    refine z_iald hF hG 98 (by decide) z_m98 q6 dX12_isQuiet_22 ?_
    refine lv_if_le (tgt := 43) hx hb dX12_isQuiet_23 (by decide) (fun c7 => ?_) (fun c7 => ?_)
    · replace hw := hw.1 c7
      exact J43 x2 Z _ _ _ hG (lv_sub hl [0, 1, 2] rfl) hw
    replace hw := hw.2 c7
    refine lv_goto (tgt := 41) hx hb dX12_isQuiet_26 (by decide) ?_
    refine lv_iconst (v := 0) hx hb dX12_isQuiet_41 (by decide) ?_
    exact z_zret hF hG hr hlk (by decide) hw dX12_isQuiet_42
  have J2 : ∀ n : Nat, ∀ (x2 : Int32) (Z : zS) (H : Heap) (locs : List Loc) (ls : Array Slot), zG E Z s H locs → lv_has ls 3 [(0, .ref (E.2.1 97)), (1, .int a1), (2, .int x2)] → wX12_isQuiet_2 a1 K n x2 Z → W p l e R s m args below meth c H locs 0 0 (zQi E K below args s) (F0 m 2 ls []) := by
    intro n
    induction n with
    | zero => intro x2 Z H locs ls hG hl hw; exact hw.elim
    | succ n ih => intro x2 Z H locs ls hG hl hw; exact S2 _ ih x2 Z H locs ls hG hl hw
  unfold wX12_isQuiet at hw
  refine lv_iconst (v := 0) hx hb dX12_isQuiet_0 (by decide) ?_
  refine lv_topi (fun y1 ey1 => ?_)
  replace hw := hw y1 ey1
  refine lv_istore_n (lv' := [(2, .int y1), (0, .ref (E.2.1 97)), (1, .int a1)]) hx hb dX12_isQuiet_1 rfl hl (by decide) rfl (fun ls hl => ?_)
  obtain ⟨n2, hw⟩ := hw
  exact J2 n2 y1 Z _ _ _ hG (lv_sub hl [1, 2, 0] rfl) hw
theorem hS_yX12_isQuiet : yX12_isQuiet.cls ≠ "java/lang/invoke/MethodHandle" ∧ yX12_isQuiet.cls ≠ "java/lang/invoke/VarHandle" ∧ (parseMethodDescriptor yX12_isQuiet.desc).map (fun d => d.parameters.length) = some 1 := by decide +kernel
set_option maxHeartbeats 4000000 in
set_option maxRecDepth 100000 in
theorem kX12_quiet (l : Launch) (E : zE) (Z : zS) (a1 : Int32) {K : Int32 → zS → Prop} (hw : wX12_quiet a1 Z K) : zCi l yX12_quiet wsX12_quiet ({ frames := 6, cells := 0, slots := 0, locals := 128 } : Room) E Z [.ref (E.2.1 97), .int a1] K := by
  refine z_bodyi (cc := cX12_quiet) (nL := 4) (ret := .int) (by decide) rfl (Nat.le_of_ble_eq_true rfl) ?_
  intro p e R s m args below meth c ls hfr hlo hF hr hlk hG hl
  have hx := hF.1.1
  have hb := hF.1.2.1
  have hown := hF.1.2.2.2.1
  have hts := hF.1.2.2.2.2
  have in12 : ∀ w ∈ u_ws RX12 TX12 22, w ∈ wsX12_quiet := fun _ h => List.mem_cons_of_mem _ (List.mem_append_right _ h)
  have hl : lv_has ls 4 [(0, .ref (E.2.1 97)), (1, .int a1)] := hl
  have J56 : ∀ (x2 : Int32) (Z : zS) (H : Heap) (locs : List Loc) (ls : Array Slot), zG E Z s H locs → lv_has ls 4 [(0, .ref (E.2.1 97)), (2, .int x2)] → wX12_quiet_56 a1 x2 Z K → W p l e R s m args below meth c H locs 0 0 (zQi E K below args s) (F0 m 56 ls []) := by
    intro x2 Z H locs ls hG hl hw
    unfold wX12_quiet_56 at hw
    refine lv_aload_n hx hb dX12_quiet_56 rfl (lv_at hl 0 rfl) ?_
    refine lv_aload_n hx hb dX12_quiet_57 rfl (lv_at hl 0 rfl) ?_
    refine z_get hF hG 97 (by decide) z_md rfl in12 10 (by decide) (List.mem_of_getElem? (i := 1) rfl) rfl rfl dX12_quiet_58 ?_
    refine z_cv (va_runV (rest := []) hF.1 (kX12_again l E Z 102 122 (by decide) (fun _ => z_m102) hw _) (cwV 1 hts gX12_quiet_X12_again rfl rfl rfl ⟨rfl, hS_yX12_again⟩ ⟨Nat.le_trans (Nat.le_of_ble_eq_true rfl) hfr, Nat.le_trans (Nat.le_of_ble_eq_true rfl) hlo⟩) (z_preV hF hG 97 (by decide) z_md rfl) rfl rfl hl.1 rfl (lv_room (Nat.le_of_ble_eq_true rfl)) dX12_quiet_61 ⟨Nat.zero_le _, Nat.zero_le _⟩) hG (fun Z14 H locs hw hG => ?_)
    refine lv_iload_n hx hb dX12_quiet_64 rfl (lv_at hl 1 rfl) ?_
    exact z_iret hF hG hr hlk hw dX12_quiet_65
  have S24 : ∀ (L24 : Int32 → Int32 → zS → Prop), (∀ (x2 : Int32) (x3 : Int32) (Z : zS) (H : Heap) (locs : List Loc) (ls : Array Slot), zG E Z s H locs → lv_has ls 4 [(0, .ref (E.2.1 97)), (1, .int a1), (2, .int x2), (3, .int x3)] → L24 x2 x3 Z → W p l e R s m args below meth c H locs 0 0 (zQi E K below args s) (F0 m 24 ls [])) → ∀ (x2 : Int32) (x3 : Int32) (Z : zS) (H : Heap) (locs : List Loc) (ls : Array Slot), zG E Z s H locs → lv_has ls 4 [(0, .ref (E.2.1 97)), (1, .int a1), (2, .int x2), (3, .int x3)] → wX12_quiet_24b L24 a1 x2 x3 Z K → W p l e R s m args below meth c H locs 0 0 (zQi E K below args s) (F0 m 24 ls []) := by
    intro L24 ih24
    have J46 : ∀ (x2 : Int32) (x3 : Int32) (Z : zS) (H : Heap) (locs : List Loc) (ls : Array Slot), zG E Z s H locs → lv_has ls 4 [(0, .ref (E.2.1 97)), (1, .int a1), (2, .int x2), (3, .int x3)] → wX12_quiet_46 L24 a1 x2 x3 Z K → W p l e R s m args below meth c H locs 0 0 (zQi E K below args s) (F0 m 46 ls []) := by
      intro x2 x3 Z H locs ls hG hl hw
      unfold wX12_quiet_46 at hw
      refine lv_aload_n hx hb dX12_quiet_46 rfl (lv_at hl 0 rfl) ?_
      refine z_cv (va_runV (rest := []) hF.1 (kX12_goes l E Z   hw _) (cwV 0 hts gX12_quiet_X12_goes rfl rfl rfl ⟨rfl, hS_yX12_goes⟩ ⟨Nat.le_trans (Nat.le_of_ble_eq_true rfl) hfr, Nat.le_trans (Nat.le_of_ble_eq_true rfl) hlo⟩) (z_preV hF hG 97 (by decide) z_md rfl) rfl rfl hl.1 rfl (lv_room (Nat.le_of_ble_eq_true rfl)) dX12_quiet_47 ⟨Nat.zero_le _, Nat.zero_le _⟩) hG (fun Z12 H locs hw hG => ?_)
      obtain ⟨y13, ey13⟩ : ∃ y : Int32, y = x3 + 1 := ⟨_, rfl⟩
      replace hw := hw y13 ey13
      refine lv_iinc (v := y13) (lv' := [(3, .int y13), (0, .ref (E.2.1 97)), (1, .int a1), (2, .int x2)]) hx hb dX12_quiet_50 hl (k := 3) rfl (by rw [ey13]; rfl) (by decide) rfl (fun ls hl => ?_)
      refine lv_goto (tgt := 24) hx hb dX12_quiet_53 (by decide) ?_
      exact ih24 x2 y13 Z12 _ _ _ hG (lv_sub hl [1, 2, 3, 0] rfl) hw
    intro x2 x3 Z H locs ls hG hl hw
    unfold wX12_quiet_24b at hw
    refine lv_iload_n hx hb dX12_quiet_24 rfl (lv_at hl 3 rfl) ?_
    refine lv_bipush (v := 100) hx hb dX12_quiet_25 (by decide) ?_
    refine lv_icmp_ge (tgt := 56) hx hb dX12_quiet_27 (by decide) (fun c7 => ?_) (fun c7 => ?_)
    · replace hw := hw.1 c7
      exact J56 x2 Z _ _ _ hG (lv_sub hl [0, 2] rfl) hw
    replace hw := hw.2 c7
    refine lv_iload_n hx hb dX12_quiet_30 rfl (lv_at hl 2 rfl) ?_
    refine lv_bipush (v := (-4)) hx hb dX12_quiet_31 (by decide) ?_
    refine lv_icmp_ne (tgt := 56) hx hb dX12_quiet_33 (by decide) (fun c8 => ?_) (fun c8 => ?_)
    · replace hw := hw.1 c8
      exact J56 x2 Z _ _ _ hG (lv_sub hl [0, 2] rfl) hw
    replace hw := hw.2 (fun h => h c8)
    refine lv_aload_n hx hb dX12_quiet_36 rfl (lv_at hl 0 rfl) ?_
    refine lv_iload_n hx hb dX12_quiet_37 rfl (lv_at hl 1 rfl) ?_
    refine z_ci (va_runV (rest := []) hF.1 (kX12_isQuiet l E Z a1  hw _) (cwV 1 hts gX12_quiet_X12_isQuiet rfl rfl rfl ⟨rfl, hS_yX12_isQuiet⟩ ⟨Nat.le_trans (Nat.le_of_ble_eq_true rfl) hfr, Nat.le_trans (Nat.le_of_ble_eq_true rfl) hlo⟩) (z_preV hF hG 97 (by decide) z_md rfl) rfl rfl hl.1 rfl (lv_room (Nat.le_of_ble_eq_true rfl)) dX12_quiet_38 ⟨Nat.zero_le _, Nat.zero_le _⟩) hG (fun r10 Z9 H locs hw hG => ?_)
    refine lv_if_eq (tgt := 46) hx hb dX12_quiet_41 (by decide) (fun c11 => ?_) (fun c11 => ?_)
    · replace hw := hw.1 c11
      exact J46 x2 x3 Z9 _ _ _ hG (lv_sub hl [0, 1, 2, 3] rfl) hw
    replace hw := hw.2 c11
    refine lv_iload_n hx hb dX12_quiet_44 rfl (lv_at hl 3 rfl) ?_
    refine lv_istore_n (lv' := [(2, .int x3), (0, .ref (E.2.1 97)), (1, .int a1), (3, .int x3)]) hx hb dX12_quiet_45 rfl hl (by decide) rfl (fun ls hl => ?_)
    exact J46 x3 x3 Z9 _ _ _ hG (lv_sub hl [1, 2, 0, 3] rfl) hw
  have J24 : ∀ n : Nat, ∀ (x2 : Int32) (x3 : Int32) (Z : zS) (H : Heap) (locs : List Loc) (ls : Array Slot), zG E Z s H locs → lv_has ls 4 [(0, .ref (E.2.1 97)), (1, .int a1), (2, .int x2), (3, .int x3)] → wX12_quiet_24 a1 K n x2 x3 Z → W p l e R s m args below meth c H locs 0 0 (zQi E K below args s) (F0 m 24 ls []) := by
    intro n
    induction n with
    | zero => intro x2 x3 Z H locs ls hG hl hw; exact hw.elim
    | succ n ih => intro x2 x3 Z H locs ls hG hl hw; exact S24 _ ih x2 x3 Z H locs ls hG hl hw
  unfold wX12_quiet at hw
  refine lv_iload_n hx hb dX12_quiet_0 rfl (lv_at hl 1 rfl) ?_
  refine lv_iconst (v := 0) hx hb dX12_quiet_1 (by decide) ?_
  refine lv_iconst (v := 1) hx hb dX12_quiet_2 (by decide) ?_
  refine z_ci (va_runS (rest := []) hF.1 (kX12_within l E Z a1 0 1  hw _) (va_cwS 3 hts gX12_quiet_X12_within rfl rfl rfl hS_yX12_within ⟨Nat.le_trans (Nat.le_of_ble_eq_true rfl) hfr, Nat.le_trans (Nat.le_of_ble_eq_true rfl) hlo⟩) (z_preS hF hG) rfl rfl hl.1 rfl (lv_room (Nat.le_of_ble_eq_true rfl)) dX12_quiet_3 ⟨Nat.zero_le _, Nat.zero_le _⟩) hG (fun r2 Z1 H locs hw hG => ?_)
  refine lv_if_ne (tgt := 11) hx hb dX12_quiet_6 (by decide) (fun c3 => ?_) (fun c3 => ?_)
  · replace hw := hw.1 c3
    refine lv_aload_n hx hb dX12_quiet_11 rfl (lv_at hl 0 rfl) ?_
    refine lv_aload_n hx hb dX12_quiet_12 rfl (lv_at hl 0 rfl) ?_
    refine z_get hF hG 97 (by decide) z_md rfl in12 10 (by decide) (List.mem_of_getElem? (i := 1) rfl) rfl rfl dX12_quiet_13 ?_
    refine z_cv (va_runV (rest := []) hF.1 (kX12_keep l E Z1 102 122 (by decide) (fun _ => z_m102) hw _) (cwV 1 hts gX12_quiet_X12_keep rfl rfl rfl ⟨rfl, hS_yX12_keep⟩ ⟨Nat.le_trans (Nat.le_of_ble_eq_true rfl) hfr, Nat.le_trans (Nat.le_of_ble_eq_true rfl) hlo⟩) (z_preV hF hG 97 (by decide) z_md rfl) rfl rfl hl.1 rfl (lv_room (Nat.le_of_ble_eq_true rfl)) dX12_quiet_16 ⟨Nat.zero_le _, Nat.zero_le _⟩) hG (fun Z4 H locs hw hG => ?_)
    refine lv_bipush (v := (-4)) hx hb dX12_quiet_19 (by decide) ?_
    refine lv_topi (fun y5 ey5 => ?_)
    replace hw := hw y5 ey5
    refine lv_istore_n (lv' := [(2, .int y5), (0, .ref (E.2.1 97)), (1, .int a1)]) hx hb dX12_quiet_21 rfl hl (by decide) rfl (fun ls hl => ?_)
    refine lv_iconst (v := 0) hx hb dX12_quiet_22 (by decide) ?_
    refine lv_topi (fun y6 ey6 => ?_)
    replace hw := hw y6 ey6
    refine lv_istore_n (lv' := [(3, .int y6), (2, .int y5), (0, .ref (E.2.1 97)), (1, .int a1)]) hx hb dX12_quiet_23 rfl hl (by decide) rfl (fun ls hl => ?_)
    obtain ⟨n24, hw⟩ := hw
    exact J24 n24 y5 y6 Z4 _ _ _ hG (lv_sub hl [2, 3, 1, 0] rfl) hw
  replace hw := hw.2 (fun h => h c3)
  refine lv_iconst (v := (-1)) hx hb dX12_quiet_9 (by decide) ?_
  exact z_iret hF hG hr hlk hw dX12_quiet_10
set_option maxHeartbeats 4000000 in
set_option maxRecDepth 100000 in
theorem kX12_later (l : Launch) (E : zE) (Z : zS) (a1 : Int32) {K : Int32 → zS → Prop} (hw : wX12_later a1 Z K) : zCi l yX12_later wsX12_later ({ frames := 0, cells := 0, slots := 0, locals := 0 } : Room) E Z [.ref (E.2.1 97), .int a1] K := by
  refine z_bodyi (cc := cX12_later) (nL := 3) (ret := .int) (by decide) rfl (Nat.le_of_ble_eq_true rfl) ?_
  intro p e R s m args below meth c ls hfr hlo hF hr hlk hG hl
  have hx := hF.1.1
  have hb := hF.1.2.1
  have hown := hF.1.2.2.2.1
  have hts := hF.1.2.2.2.2
  have in12 : ∀ w ∈ u_ws RX12 TX12 22, w ∈ wsX12_later := fun _ h => List.mem_cons_of_mem _ (List.mem_append_right _ h)
  have hl : lv_has ls 3 [(0, .ref (E.2.1 97)), (1, .int a1)] := hl
  have S2 : ∀ (L2 : Int32 → zS → Prop), (∀ (x2 : Int32) (Z : zS) (H : Heap) (locs : List Loc) (ls : Array Slot), zG E Z s H locs → lv_has ls 3 [(0, .ref (E.2.1 97)), (1, .int a1), (2, .int x2)] → L2 x2 Z → W p l e R s m args below meth c H locs 0 0 (zQi E K below args s) (F0 m 2 ls [])) → ∀ (x2 : Int32) (Z : zS) (H : Heap) (locs : List Loc) (ls : Array Slot), zG E Z s H locs → lv_has ls 3 [(0, .ref (E.2.1 97)), (1, .int a1), (2, .int x2)] → wX12_later_2b L2 a1 x2 Z K → W p l e R s m args below meth c H locs 0 0 (zQi E K below args s) (F0 m 2 ls []) := by
    intro L2 ih2
    have J43 : ∀ (x2 : Int32) (Z : zS) (H : Heap) (locs : List Loc) (ls : Array Slot), zG E Z s H locs → lv_has ls 3 [(0, .ref (E.2.1 97)), (1, .int a1), (2, .int x2)] → wX12_later_43 L2 a1 x2 Z K → W p l e R s m args below meth c H locs 0 0 (zQi E K below args s) (F0 m 43 ls []) := by
      intro x2 Z H locs ls hG hl hw
      unfold wX12_later_43 at hw
      obtain ⟨y5, ey5⟩ : ∃ y : Int32, y = x2 + 1 := ⟨_, rfl⟩
      replace hw := hw y5 ey5
      refine lv_iinc (v := y5) (lv' := [(2, .int y5), (0, .ref (E.2.1 97)), (1, .int a1)]) hx hb dX12_later_43 hl (k := 2) rfl (by rw [ey5]; rfl) (by decide) rfl (fun ls hl => ?_)
      refine lv_goto (tgt := 2) hx hb dX12_later_46 (by decide) ?_
      exact ih2 y5 Z _ _ _ hG (lv_sub hl [1, 2, 0] rfl) hw
    have J20 : ∀ (x2 : Int32) (Z : zS) (H : Heap) (locs : List Loc) (ls : Array Slot), zG E Z s H locs → lv_has ls 3 [(0, .ref (E.2.1 97)), (1, .int a1), (2, .int x2)] → wX12_later_20 L2 a1 x2 Z K → W p l e R s m args below meth c H locs 0 0 (zQi E K below args s) (F0 m 20 ls []) := by
      intro x2 Z H locs ls hG hl hw
      unfold wX12_later_20 at hw
      refine lv_aload_n hx hb dX12_later_20 rfl (lv_at hl 0 rfl) ?_
      refine z_get hF hG 97 (by decide) z_md rfl in12 2 (by decide) (List.mem_of_getElem? (i := 2) rfl) rfl rfl dX12_later_21 ?_
      refine lv_bipush (v := 48) hx hb dX12_later_24 (by decide) ?_
      refine lv_iload_n hx hb dX12_later_26 rfl (lv_at hl 2 rfl) ?_
      refine lv_iadd hx hb dX12_later_27 ?_
      obtain ⟨q6, hw⟩ := hw
      refine z_iald hF hG 98 (by decide) z_m98 q6 dX12_later_28 ?_
      refine lv_aload_n hx hb dX12_later_29 rfl (lv_at hl 0 rfl) ?_
      refine z_get hF hG 97 (by decide) z_md rfl in12 10 (by decide) (List.mem_of_getElem? (i := 3) rfl) rfl rfl dX12_later_30 ?_
      refine lv_bipush (v := 48) hx hb dX12_later_33 (by decide) ?_
      refine lv_iload_n hx hb dX12_later_35 rfl (lv_at hl 2 rfl) ?_
      refine lv_iadd hx hb dX12_later_36 ?_
      obtain ⟨q7, hw⟩ := hw
      refine z_iald hF hG 102 (by decide) z_m102 q7 dX12_later_37 ?_
      refine lv_icmp_le (tgt := 43) hx hb dX12_later_38 (by decide) (fun c8 => ?_) (fun c8 => ?_)
      · replace hw := hw.1 c8
        exact J43 x2 Z _ _ _ hG (lv_sub hl [0, 1, 2] rfl) hw
      replace hw := hw.2 c8
      refine lv_iload_n hx hb dX12_later_41 rfl (lv_at hl 2 rfl) ?_
      exact z_iret hF hG hr hlk hw dX12_later_42
    intro x2 Z H locs ls hG hl hw
    unfold wX12_later_2b at hw
    refine lv_iload_n hx hb dX12_later_2 rfl (lv_at hl 2 rfl) ?_
    refine lv_aload_n hx hb dX12_later_3 rfl (lv_at hl 0 rfl) ?_
    refine z_get hF hG 97 (by decide) z_md rfl in12 1 (by decide) (List.mem_of_getElem? (i := 1) rfl) rfl rfl dX12_later_4 ?_
    refine lv_icmp_ge (tgt := 49) hx hb dX12_later_7 (by decide) (fun c2 => ?_) (fun c2 => ?_)
    · replace hw := hw.1 c2
      refine lv_bipush (v := (-4)) hx hb dX12_later_49 (by decide) ?_
      exact z_iret hF hG hr hlk hw dX12_later_51
    replace hw := hw.2 c2
    refine lv_iload_n hx hb dX12_later_10 rfl (lv_at hl 1 rfl) ?_
    refine lv_iconst (v := (-1)) hx hb dX12_later_11 (by decide) ?_
    refine lv_icmp_eq (tgt := 20) hx hb dX12_later_12 (by decide) (fun c3 => ?_) (fun c3 => ?_)
    · replace hw := hw.1 c3
      exact J20 x2 Z _ _ _ hG (lv_sub hl [0, 1, 2] rfl) hw
    replace hw := hw.2 c3
    refine lv_iload_n hx hb dX12_later_15 rfl (lv_at hl 2 rfl) ?_
    refine lv_iload_n hx hb dX12_later_16 rfl (lv_at hl 1 rfl) ?_
    refine lv_icmp_ne (tgt := 43) hx hb dX12_later_17 (by decide) (fun c4 => ?_) (fun c4 => ?_)
    · replace hw := hw.1 c4
      exact J43 x2 Z _ _ _ hG (lv_sub hl [0, 1, 2] rfl) hw
    replace hw := hw.2 (fun h => h c4)
    exact J20 x2 Z _ _ _ hG (lv_sub hl [0, 1, 2] rfl) hw
  have J2 : ∀ n : Nat, ∀ (x2 : Int32) (Z : zS) (H : Heap) (locs : List Loc) (ls : Array Slot), zG E Z s H locs → lv_has ls 3 [(0, .ref (E.2.1 97)), (1, .int a1), (2, .int x2)] → wX12_later_2 a1 K n x2 Z → W p l e R s m args below meth c H locs 0 0 (zQi E K below args s) (F0 m 2 ls []) := by
    intro n
    induction n with
    | zero => intro x2 Z H locs ls hG hl hw; exact hw.elim
    | succ n ih => intro x2 Z H locs ls hG hl hw; exact S2 _ ih x2 Z H locs ls hG hl hw
  unfold wX12_later at hw
  refine lv_iconst (v := 0) hx hb dX12_later_0 (by decide) ?_
  refine lv_topi (fun y1 ey1 => ?_)
  replace hw := hw y1 ey1
  refine lv_istore_n (lv' := [(2, .int y1), (0, .ref (E.2.1 97)), (1, .int a1)]) hx hb dX12_later_1 rfl hl (by decide) rfl (fun ls hl => ?_)
  obtain ⟨n2, hw⟩ := hw
  exact J2 n2 y1 Z _ _ _ hG (lv_sub hl [1, 2, 0] rfl) hw
