set_option maxHeartbeats 4000000 in
set_option maxRecDepth 100000 in
theorem kX8_digitsBehind (l : Launch) (E : zE) (Z : zS) (a1 : Int32) {K : Int32 → zS → Prop} (hw : wX8_digitsBehind a1 Z K) : zCi l yX8_digitsBehind wsX8_digitsBehind ({ frames := 0, cells := 0, slots := 0, locals := 0 } : Room) E Z [.int a1] K := by
  refine z_bodyi (cc := cX8_digitsBehind) (nL := 1) (ret := .int) (by decide) rfl (Nat.le_of_ble_eq_true rfl) ?_
  intro p e R s m args below meth c ls hfr hlo hF hr hlk hG hl
  have hx := hF.1.1
  have hb := hF.1.2.1
  have hown := hF.1.2.2.2.1
  have hts := hF.1.2.2.2.2
  have hl : lv_has ls 1 [(0, .int a1)] := hl
  unfold wX8_digitsBehind at hw
  refine lv_iload_n hx hb dX8_digitsBehind_0 rfl (lv_at hl 0 rfl) ?_
  refine lv_topi (fun y1 ey1 => ?_)
  replace hw := hw y1 ey1
  by_cases c2 : y1 = 106
  · replace hw := hw.1 c2
    refine lv_lookup (tgt := 39) (off := 38) hx hb dX8_digitsBehind_1 (by decide) (by rw [c2]; rfl) (by decide) ?_
    refine lv_iconst (v := 3) hx hb dX8_digitsBehind_39 (by decide) ?_
    exact z_iret hF hG hr hlk hw dX8_digitsBehind_40
  replace hw := hw.2 c2
  by_cases c3 : y1 = 115
  · replace hw := hw.1 c3
    refine lv_lookup (tgt := 36) (off := 35) hx hb dX8_digitsBehind_1 (by decide) (by rw [c3]; rfl) (by decide) ?_
    refine lv_bipush (v := 6) hx hb dX8_digitsBehind_36 (by decide) ?_
    exact z_iret hF hG hr hlk hw dX8_digitsBehind_38
  replace hw := hw.2 c3
  by_cases c4 : y1 = 116
  · replace hw := hw.1 c4
    refine lv_lookup (tgt := 41) (off := 40) hx hb dX8_digitsBehind_1 (by decide) (by rw [c4]; rfl) (by decide) ?_
    refine lv_iconst (v := 2) hx hb dX8_digitsBehind_41 (by decide) ?_
    exact z_iret hF hG hr hlk hw dX8_digitsBehind_42
  replace hw := hw.2 c4
  refine lv_lookup (tgt := 43) (off := 42) hx hb dX8_digitsBehind_1 (by decide) ((lv_osw c2 (by decide)).trans ( (lv_osw c3 (by decide)).trans ( (lv_osw c4 (by decide)).trans (rfl)))) (by decide) ?_
  refine lv_iconst (v := (-1)) hx hb dX8_digitsBehind_43 (by decide) ?_
  exact z_iret hF hG hr hlk hw dX8_digitsBehind_44
theorem hS_yX8_digitsBehind : yX8_digitsBehind.cls ≠ "java/lang/invoke/MethodHandle" ∧ yX8_digitsBehind.cls ≠ "java/lang/invoke/VarHandle" ∧ (parseMethodDescriptor yX8_digitsBehind.desc).map (fun d => d.parameters.length) = some 1 := by decide +kernel
set_option maxHeartbeats 4000000 in
set_option maxRecDepth 100000 in
theorem kX8_lengthFrom (l : Launch) (E : zE) (Z : zS) (a1 : Int32) {K : Int32 → zS → Prop} (hw : wX8_lengthFrom a1 Z K) : zCi l yX8_lengthFrom wsX8_lengthFrom ({ frames := 1, cells := 0, slots := 0, locals := 20 } : Room) E Z [.int a1] K := by
  refine z_bodyi (cc := cX8_lengthFrom) (nL := 1) (ret := .int) (by decide) rfl (Nat.le_of_ble_eq_true rfl) ?_
  intro p e R s m args below meth c ls hfr hlo hF hr hlk hG hl
  have hx := hF.1.1
  have hb := hF.1.2.1
  have hown := hF.1.2.2.2.1
  have hts := hF.1.2.2.2.2
  have hl : lv_has ls 1 [(0, .int a1)] := hl
  unfold wX8_lengthFrom at hw
  refine lv_iload_n hx hb dX8_lengthFrom_0 rfl (lv_at hl 0 rfl) ?_
  refine z_ci (va_runS (rest := []) hF.1 (kX8_digitsBehind l E Z a1  hw _) (va_cwS 1 hts gX8_lengthFrom_X8_digitsBehind rfl rfl rfl hS_yX8_digitsBehind ⟨Nat.le_trans (Nat.le_of_ble_eq_true rfl) hfr, Nat.le_trans (Nat.le_of_ble_eq_true rfl) hlo⟩) (z_preS hF hG) rfl rfl hl.1 rfl (lv_room (Nat.le_of_ble_eq_true rfl)) dX8_lengthFrom_1 ⟨Nat.zero_le _, Nat.zero_le _⟩) hG (fun r2 Z1 H locs hw hG => ?_)
  refine lv_iconst (v := 2) hx hb dX8_lengthFrom_4 (by decide) ?_
  refine lv_iadd hx hb dX8_lengthFrom_5 ?_
  exact z_iret hF hG hr hlk hw dX8_lengthFrom_6
set_option maxHeartbeats 4000000 in
set_option maxRecDepth 100000 in
theorem kX8_firstBadByte (l : Launch) (E : zE) (Z : zS) (u1 : Nat) (hu1 : u1 < 8) {K : Int32 → zS → Prop} (hw : wX8_firstBadByte u1 Z K) : zCi l yX8_firstBadByte wsX8_firstBadByte ({ frames := 2, cells := 0, slots := 0, locals := 43 } : Room) E Z [.ref (E.2.1 (60 + u1))] K := by
  refine z_bodyi (cc := cX8_firstBadByte) (nL := 4) (ret := .int) (by decide) rfl (Nat.le_of_ble_eq_true rfl) ?_
  intro p e R s m args below meth c ls hfr hlo hF hr hlk hG hl
  have hx := hF.1.1
  have hb := hF.1.2.1
  have hown := hF.1.2.2.2.1
  have hts := hF.1.2.2.2.2
  have in6 : ∀ w ∈ u_ws RX6 TX6 6, w ∈ wsX8_firstBadByte := fun _ h => List.mem_cons_of_mem _ (List.mem_append_right _ h)
  have hl : lv_has ls 4 [(0, .ref (E.2.1 (60 + u1)))] := hl
  have J89 : ∀ (Z : zS) (H : Heap) (locs : List Loc) (ls : Array Slot), zG E Z s H locs → lv_has ls 4 [(0, .ref (E.2.1 (60 + u1)))] → wX8_firstBadByte_89 u1 Z K → W p l e R s m args below meth c H locs 0 0 (zQi E K below args s) (F0 m 89 ls []) := by
    intro Z H locs ls hG hl hw
    unfold wX8_firstBadByte_89 at hw
    refine lv_aload_n hx hb dX8_firstBadByte_89 rfl (lv_at hl 0 rfl) ?_
    refine z_get hF hG (60 + u1) (zc_sh hu1) (z_sh hu1) rfl in6 4 (by decide) (List.mem_of_getElem? (i := 1) rfl) rfl rfl dX8_firstBadByte_90 ?_
    refine lv_goto (tgt := 98) hx hb dX8_firstBadByte_93 (by decide) ?_
    exact z_iret hF hG hr hlk hw dX8_firstBadByte_98
  have S4 : ∀ (L4 : Int32 → Int32 → zS → Prop), (∀ (x1 : Int32) (x2 : Int32) (Z : zS) (H : Heap) (locs : List Loc) (ls : Array Slot), zG E Z s H locs → lv_has ls 4 [(0, .ref (E.2.1 (60 + u1))), (1, .int x1), (2, .int x2)] → L4 x1 x2 Z → W p l e R s m args below meth c H locs 0 0 (zQi E K below args s) (F0 m 4 ls [])) → ∀ (x1 : Int32) (x2 : Int32) (Z : zS) (H : Heap) (locs : List Loc) (ls : Array Slot), zG E Z s H locs → lv_has ls 4 [(0, .ref (E.2.1 (60 + u1))), (1, .int x1), (2, .int x2)] → wX8_firstBadByte_4b L4 u1 x1 x2 Z K → W p l e R s m args below meth c H locs 0 0 (zQi E K below args s) (F0 m 4 ls []) := by
    intro L4 ih4
    have J71 : ∀ (x1 : Int32) (x2 : Int32) (Z : zS) (H : Heap) (locs : List Loc) (ls : Array Slot), zG E Z s H locs → lv_has ls 4 [(0, .ref (E.2.1 (60 + u1))), (1, .int x1), (2, .int x2)] → wX8_firstBadByte_71 L4 u1 x1 x2 Z K → W p l e R s m args below meth c H locs 0 0 (zQi E K below args s) (F0 m 71 ls []) := by
      intro x1 x2 Z H locs ls hG hl hw
      unfold wX8_firstBadByte_71 at hw
      obtain ⟨y19, ey19⟩ : ∃ y : Int32, y = x2 + 1 := ⟨_, rfl⟩
      replace hw := hw y19 ey19
      refine lv_iinc (v := y19) (lv' := [(2, .int y19), (0, .ref (E.2.1 (60 + u1))), (1, .int x1)]) hx hb dX8_firstBadByte_71 hl (k := 2) rfl (by rw [ey19]; rfl) (by decide) rfl (fun ls hl => ?_)
      refine lv_goto (tgt := 4) hx hb dX8_firstBadByte_74 (by decide) ?_
      exact ih4 x1 y19 Z _ _ _ hG (lv_sub hl [1, 2, 0] rfl) hw
    intro x1 x2 Z H locs ls hG hl hw
    unfold wX8_firstBadByte_4b at hw
    refine lv_iload_n hx hb dX8_firstBadByte_4 rfl (lv_at hl 2 rfl) ?_
    refine lv_aload_n hx hb dX8_firstBadByte_5 rfl (lv_at hl 0 rfl) ?_
    refine z_get hF hG (60 + u1) (zc_sh hu1) (z_sh hu1) rfl in6 4 (by decide) (List.mem_of_getElem? (i := 1) rfl) rfl rfl dX8_firstBadByte_6 ?_
    refine lv_icmp_ge (tgt := 77) hx hb dX8_firstBadByte_9 (by decide) (fun c3 => ?_) (fun c3 => ?_)
    · replace hw := hw.1 c3
      refine lv_aload_n hx hb dX8_firstBadByte_77 rfl (lv_at hl 0 rfl) ?_
      refine z_get hF hG (60 + u1) (zc_sh hu1) (z_sh hu1) rfl in6 4 (by decide) (List.mem_of_getElem? (i := 1) rfl) rfl rfl dX8_firstBadByte_78 ?_
      refine lv_if_eq (tgt := 89) hx hb dX8_firstBadByte_81 (by decide) (fun c4 => ?_) (fun c4 => ?_)
      · replace hw := hw.1 c4
        exact J89  Z _ _ _ hG (lv_sub hl [0] rfl) hw
      replace hw := hw.2 c4
      refine lv_iload_n hx hb dX8_firstBadByte_84 rfl (lv_at hl 1 rfl) ?_
      refine lv_iconst (v := (-1)) hx hb dX8_firstBadByte_85 (by decide) ?_
      refine lv_icmp_eq (tgt := 96) hx hb dX8_firstBadByte_86 (by decide) (fun c5 => ?_) (fun c5 => ?_)
      · replace hw := hw.1 c5
        refine lv_bipush (v := (-4)) hx hb dX8_firstBadByte_96 (by decide) ?_
        exact z_iret hF hG hr hlk hw dX8_firstBadByte_98
      replace hw := hw.2 c5
      exact J89  Z _ _ _ hG (lv_sub hl [0] rfl) hw
    replace hw := hw.2 c3
    refine lv_aload_n hx hb dX8_firstBadByte_12 rfl (lv_at hl 0 rfl) ?_
    refine lv_iload_n hx hb dX8_firstBadByte_13 rfl (lv_at hl 2 rfl) ?_
    refine z_ci (va_runV (rest := []) hF.1 (kX6_at l E Z u1 x2 hu1 hw _) (cwV 1 hts gX8_firstBadByte_X6_at rfl rfl rfl ⟨rfl, hS_yX6_at⟩ ⟨Nat.le_trans (Nat.le_of_ble_eq_true rfl) hfr, Nat.le_trans (Nat.le_of_ble_eq_true rfl) hlo⟩) (z_preV hF hG (60 + u1) (zc_sh hu1) (z_sh hu1) rfl) rfl rfl hl.1 rfl (lv_room (Nat.le_of_ble_eq_true rfl)) dX8_firstBadByte_14 ⟨Nat.zero_le _, Nat.zero_le _⟩) hG (fun r7 Z6 H locs hw hG => ?_)
    refine lv_istore_n (lv' := [(3, .int r7), (0, .ref (E.2.1 (60 + u1))), (1, .int x1), (2, .int x2)]) hx hb dX8_firstBadByte_17 rfl hl (by decide) rfl (fun ls hl => ?_)
    refine lv_iload_n hx hb dX8_firstBadByte_18 rfl (lv_at hl 2 rfl) ?_
    refine lv_iconst (v := (-1)) hx hb dX8_firstBadByte_19 (by decide) ?_
    refine lv_icmp_ne (tgt := 35) hx hb dX8_firstBadByte_20 (by decide) (fun c8 => ?_) (fun c8 => ?_)
    · replace hw := hw.1 c8
      refine lv_iload_n hx hb dX8_firstBadByte_35 rfl (lv_at hl 2 rfl) ?_
      refine lv_if_le (tgt := 58) hx hb dX8_firstBadByte_36 (by decide) (fun c9 => ?_) (fun c9 => ?_)
      · replace hw := hw.1 c9
        refine lv_iload_n hx hb dX8_firstBadByte_58 rfl (lv_at hl 0 rfl) ?_
        refine lv_bipush (v := 59) hx hb dX8_firstBadByte_59 (by decide) ?_
        refine lv_icmp_ne (tgt := 69) hx hb dX8_firstBadByte_61 (by decide) (fun c10 => ?_) (fun c10 => ?_)
        · replace hw := hw.1 c10
          refine lv_iload_n hx hb dX8_firstBadByte_69 rfl (lv_at hl 3 rfl) ?_
          exact z_iret hF hG hr hlk hw dX8_firstBadByte_70
        replace hw := hw.2 (fun h => h c10)
        refine lv_iconst (v := (-1)) hx hb dX8_firstBadByte_64 (by decide) ?_
        refine lv_topi (fun y11 ey11 => ?_)
        replace hw := hw y11 ey11
        refine lv_istore_n (lv' := [(1, .int y11), (3, .int r7), (0, .ref (E.2.1 (60 + u1))), (2, .int x2)]) hx hb dX8_firstBadByte_65 rfl hl (by decide) rfl (fun ls hl => ?_)
        refine lv_goto (tgt := 71) hx hb dX8_firstBadByte_66 (by decide) ?_
        exact J71 y11 x2 Z6 _ _ _ hG (lv_sub hl [2, 0, 3] rfl) hw
      replace hw := hw.2 c9
      refine lv_iload_n hx hb dX8_firstBadByte_39 rfl (lv_at hl 0 rfl) ?_
      refine lv_bipush (v := 48) hx hb dX8_firstBadByte_40 (by decide) ?_
      refine lv_bipush (v := 57) hx hb dX8_firstBadByte_42 (by decide) ?_
      refine z_ci (va_runSN (rest := []) hF.1 (kX11_within l E Z6 r7 48 57  hw _) ⟨va_cnB 3 hts gX8_firstBadByte_X11_within_n24 rfl rfl rfl hF.2.2.1.2.2.2.1 (hts (.initialized RX11) (List.mem_of_getElem? (i := 9) rfl)) hS_yX11_within ⟨Nat.le_trans (Nat.le_of_ble_eq_true rfl) hfr, Nat.le_trans (Nat.le_of_ble_eq_true rfl) hlo⟩, hts (.static yX11_within) (List.mem_of_getElem? (i := 8) rfl), trivial⟩ (z_preS hF hG) rfl rfl hl.1 rfl (lv_room (Nat.le_of_ble_eq_true rfl)) dX8_firstBadByte_44 ⟨Nat.zero_le _, Nat.zero_le _⟩) hG (fun r13 Z12 H locs hw hG => ?_)
      refine lv_if_ne (tgt := 52) hx hb dX8_firstBadByte_47 (by decide) (fun c14 => ?_) (fun c14 => ?_)
      · replace hw := hw.1 c14
        obtain ⟨y15, ey15⟩ : ∃ y : Int32, y = x1 + (-1) := ⟨_, rfl⟩
        replace hw := hw y15 ey15
        refine lv_iinc (v := y15) (lv' := [(1, .int y15), (3, .int r7), (0, .ref (E.2.1 (60 + u1))), (2, .int x2)]) hx hb dX8_firstBadByte_52 hl (k := 2) rfl (by rw [ey15]; rfl) (by decide) rfl (fun ls hl => ?_)
        refine lv_goto (tgt := 71) hx hb dX8_firstBadByte_55 (by decide) ?_
        exact J71 y15 x2 Z12 _ _ _ hG (lv_sub hl [2, 0, 3] rfl) hw
      replace hw := hw.2 (fun h => h c14)
      refine lv_iload_n hx hb dX8_firstBadByte_50 rfl (lv_at hl 3 rfl) ?_
      exact z_iret hF hG hr hlk hw dX8_firstBadByte_51
    replace hw := hw.2 (fun h => h c8)
    refine lv_iload_n hx hb dX8_firstBadByte_23 rfl (lv_at hl 0 rfl) ?_
    refine z_ci (va_runS (rest := []) hF.1 (kX8_digitsBehind l E Z6 r7  hw _) (va_cwS 1 hts gX8_firstBadByte_X8_digitsBehind rfl rfl rfl hS_yX8_digitsBehind ⟨Nat.le_trans (Nat.le_of_ble_eq_true rfl) hfr, Nat.le_trans (Nat.le_of_ble_eq_true rfl) hlo⟩) (z_preS hF hG) rfl rfl hl.1 rfl (lv_room (Nat.le_of_ble_eq_true rfl)) dX8_firstBadByte_24 ⟨Nat.zero_le _, Nat.zero_le _⟩) hG (fun r17 Z16 H locs hw hG => ?_)
    refine lv_istore_n (lv' := [(1, .int r17), (3, .int r7), (0, .ref (E.2.1 (60 + u1))), (2, .int x2)]) hx hb dX8_firstBadByte_27 rfl hl (by decide) rfl (fun ls hl => ?_)
    refine lv_iload_n hx hb dX8_firstBadByte_28 rfl (lv_at hl 0 rfl) ?_
    refine lv_iconst (v := (-1)) hx hb dX8_firstBadByte_29 (by decide) ?_
    refine lv_icmp_ne (tgt := 71) hx hb dX8_firstBadByte_30 (by decide) (fun c18 => ?_) (fun c18 => ?_)
    · replace hw := hw.1 c18
      exact J71 r17 x2 Z16 _ _ _ hG (lv_sub hl [2, 0, 3] rfl) hw
    replace hw := hw.2 (fun h => h c18)
    refine lv_iload_n hx hb dX8_firstBadByte_33 rfl (lv_at hl 3 rfl) ?_
    exact z_iret hF hG hr hlk hw dX8_firstBadByte_34
  have J4 : ∀ n : Nat, ∀ (x1 : Int32) (x2 : Int32) (Z : zS) (H : Heap) (locs : List Loc) (ls : Array Slot), zG E Z s H locs → lv_has ls 4 [(0, .ref (E.2.1 (60 + u1))), (1, .int x1), (2, .int x2)] → wX8_firstBadByte_4 u1 K n x1 x2 Z → W p l e R s m args below meth c H locs 0 0 (zQi E K below args s) (F0 m 4 ls []) := by
    intro n
    induction n with
    | zero => intro x1 x2 Z H locs ls hG hl hw; exact hw.elim
    | succ n ih => intro x1 x2 Z H locs ls hG hl hw; exact S4 _ ih x1 x2 Z H locs ls hG hl hw
  unfold wX8_firstBadByte at hw
  refine lv_iconst (v := (-1)) hx hb dX8_firstBadByte_0 (by decide) ?_
  refine lv_topi (fun y1 ey1 => ?_)
  replace hw := hw y1 ey1
  refine lv_istore_n (lv' := [(1, .int y1), (0, .ref (E.2.1 (60 + u1)))]) hx hb dX8_firstBadByte_1 rfl hl (by decide) rfl (fun ls hl => ?_)
  refine lv_iconst (v := 0) hx hb dX8_firstBadByte_2 (by decide) ?_
  refine lv_topi (fun y2 ey2 => ?_)
  replace hw := hw y2 ey2
  refine lv_istore_n (lv' := [(2, .int y2), (1, .int y1), (0, .ref (E.2.1 (60 + u1)))]) hx hb dX8_firstBadByte_3 rfl hl (by decide) rfl (fun ls hl => ?_)
  obtain ⟨n4, hw⟩ := hw
  exact J4 n4 y1 y2 Z _ _ _ hG (lv_sub hl [2, 1, 0] rfl) hw
set_option maxHeartbeats 4000000 in
set_option maxRecDepth 100000 in
theorem kX8_digit (l : Launch) (E : zE) (Z : zS) (u1 : Nat) (a2 : Int32) (hu1 : u1 < 8) {K : Int32 → zS → Prop} (hw : wX8_digit u1 a2 Z K) : zCi l yX8_digit wsX8_digit ({ frames := 2, cells := 0, slots := 0, locals := 43 } : Room) E Z [.ref (E.2.1 (60 + u1)), .int a2] K := by
  refine z_bodyi (cc := cX8_digit) (nL := 2) (ret := .int) (by decide) rfl (Nat.le_of_ble_eq_true rfl) ?_
  intro p e R s m args below meth c ls hfr hlo hF hr hlk hG hl
  have hx := hF.1.1
  have hb := hF.1.2.1
  have hown := hF.1.2.2.2.1
  have hts := hF.1.2.2.2.2
  have hl : lv_has ls 2 [(0, .ref (E.2.1 (60 + u1))), (1, .int a2)] := hl
  unfold wX8_digit at hw
  refine lv_aload_n hx hb dX8_digit_0 rfl (lv_at hl 0 rfl) ?_
  refine lv_iload_n hx hb dX8_digit_1 rfl (lv_at hl 1 rfl) ?_
  refine z_ci (va_runV (rest := []) hF.1 (kX6_at l E Z u1 a2 hu1 hw _) (cwV 1 hts gX8_digit_X6_at rfl rfl rfl ⟨rfl, hS_yX6_at⟩ ⟨Nat.le_trans (Nat.le_of_ble_eq_true rfl) hfr, Nat.le_trans (Nat.le_of_ble_eq_true rfl) hlo⟩) (z_preV hF hG (60 + u1) (zc_sh hu1) (z_sh hu1) rfl) rfl rfl hl.1 rfl (lv_room (Nat.le_of_ble_eq_true rfl)) dX8_digit_2 ⟨Nat.zero_le _, Nat.zero_le _⟩) hG (fun r2 Z1 H locs hw hG => ?_)
  refine lv_bipush (v := 48) hx hb dX8_digit_5 (by decide) ?_
  refine lv_isub hx hb dX8_digit_7 ?_
  exact z_iret hF hG hr hlk hw dX8_digit_8
theorem hS_yX8_digit : yX8_digit.cls ≠ "java/lang/invoke/MethodHandle" ∧ yX8_digit.cls ≠ "java/lang/invoke/VarHandle" ∧ (parseMethodDescriptor yX8_digit.desc).map (fun d => d.parameters.length) = some 2 := by decide +kernel
set_option maxHeartbeats 4000000 in
set_option maxRecDepth 100000 in
theorem kX8_twoDigits (l : Launch) (E : zE) (Z : zS) (u1 : Nat) (a2 : Int32) (hu1 : u1 < 8) {K : Int32 → zS → Prop} (hw : wX8_twoDigits u1 a2 Z K) : zCi l yX8_twoDigits wsX8_twoDigits ({ frames := 3, cells := 0, slots := 0, locals := 64 } : Room) E Z [.ref (E.2.1 (60 + u1)), .int a2] K := by
  refine z_bodyi (cc := cX8_twoDigits) (nL := 2) (ret := .int) (by decide) rfl (Nat.le_of_ble_eq_true rfl) ?_
  intro p e R s m args below meth c ls hfr hlo hF hr hlk hG hl
  have hx := hF.1.1
  have hb := hF.1.2.1
  have hown := hF.1.2.2.2.1
  have hts := hF.1.2.2.2.2
  have hl : lv_has ls 2 [(0, .ref (E.2.1 (60 + u1))), (1, .int a2)] := hl
  unfold wX8_twoDigits at hw
  refine lv_bipush (v := 10) hx hb dX8_twoDigits_0 (by decide) ?_
  refine lv_aload_n hx hb dX8_twoDigits_2 rfl (lv_at hl 0 rfl) ?_
  refine lv_iload_n hx hb dX8_twoDigits_3 rfl (lv_at hl 1 rfl) ?_
  refine z_ci (va_runS (rest := [.int 10]) hF.1 (kX8_digit l E Z u1 a2 hu1 hw _) (va_cwS 2 hts gX8_twoDigits_X8_digit rfl rfl rfl hS_yX8_digit ⟨Nat.le_trans (Nat.le_of_ble_eq_true rfl) hfr, Nat.le_trans (Nat.le_of_ble_eq_true rfl) hlo⟩) (z_preS hF hG) rfl rfl hl.1 rfl (lv_room (Nat.le_of_ble_eq_true rfl)) dX8_twoDigits_4 ⟨Nat.zero_le _, Nat.zero_le _⟩) hG (fun r2 Z1 H locs hw hG => ?_)
  refine lv_imul hx hb dX8_twoDigits_7 ?_
  refine lv_aload_n hx hb dX8_twoDigits_8 rfl (lv_at hl 0 rfl) ?_
  refine lv_iload_n hx hb dX8_twoDigits_9 rfl (lv_at hl 1 rfl) ?_
  refine lv_iconst (v := 1) hx hb dX8_twoDigits_10 (by decide) ?_
  refine lv_iadd hx hb dX8_twoDigits_11 ?_
  refine z_ci (va_runS (rest := [.int ((10 * r2))]) hF.1 (kX8_digit l E Z1 u1 ((a2 + 1)) hu1 hw _) (va_cwS 2 hts gX8_twoDigits_X8_digit rfl rfl rfl hS_yX8_digit ⟨Nat.le_trans (Nat.le_of_ble_eq_true rfl) hfr, Nat.le_trans (Nat.le_of_ble_eq_true rfl) hlo⟩) (z_preS hF hG) rfl rfl hl.1 rfl (lv_room (Nat.le_of_ble_eq_true rfl)) dX8_twoDigits_12 ⟨Nat.zero_le _, Nat.zero_le _⟩) hG (fun r4 Z3 H locs hw hG => ?_)
  refine lv_iadd hx hb dX8_twoDigits_15 ?_
  exact z_iret hF hG hr hlk hw dX8_twoDigits_16
theorem hS_yX3_sendingRefusal : yX3_sendingRefusal.cls ≠ "java/lang/invoke/MethodHandle" ∧ yX3_sendingRefusal.cls ≠ "java/lang/invoke/VarHandle" ∧ (parseMethodDescriptor yX3_sendingRefusal.desc).map (fun d => d.parameters.length) = some 3 := by decide +kernel
theorem hS_yX5_takeJob : yX5_takeJob.cls ≠ "java/lang/invoke/MethodHandle" ∧ yX5_takeJob.cls ≠ "java/lang/invoke/VarHandle" ∧ (parseMethodDescriptor yX5_takeJob.desc).map (fun d => d.parameters.length) = some 3 := by decide +kernel
set_option maxHeartbeats 4000000 in
set_option maxRecDepth 100000 in
theorem kX8_isJobSent (l : Launch) (E : zE) (Z : zS) (u1 : Nat) (a2 : Int32) (u3 : Nat) (hu1 : u1 < 8) (hu3 : u3 < 3) {K : Int32 → zS → Prop} (hw : wX8_isJobSent u1 a2 u3 Z K) : zCi l yX8_isJobSent wsX8_isJobSent ({ frames := 3, cells := 0, slots := 0, locals := 66 } : Room) E Z [.ref (E.2.1 (60 + u1)), .int a2, .ref (E.2.1 (54 + u3))] K := by
  refine z_bodyi (cc := cX8_isJobSent) (nL := 6) (ret := .boolean) (by decide) rfl (Nat.le_of_ble_eq_true rfl) ?_
  intro p e R s m args below meth c ls hfr hlo hF hr hlk hG hl
  have hx := hF.1.1
  have hb := hF.1.2.1
  have hown := hF.1.2.2.2.1
  have hts := hF.1.2.2.2.2
  have in3 : ∀ w ∈ u_ws RX3 TX3 5, w ∈ wsX8_isJobSent := fun _ h => List.mem_cons_of_mem _ (List.mem_append_left _ (List.mem_append_left _ (List.mem_append_right _ h)))
  have hl : lv_has ls 6 [(0, .ref (E.2.1 (60 + u1))), (1, .int a2), (2, .ref (E.2.1 (54 + u3)))] := hl
  unfold wX8_isJobSent at hw
  refine lv_aload_n hx hb dX8_isJobSent_0 rfl (lv_at hl 0 rfl) ?_
  refine lv_iload_n hx hb dX8_isJobSent_1 rfl (lv_at hl 1 rfl) ?_
  refine lv_iconst (v := 1) hx hb dX8_isJobSent_2 (by decide) ?_
  refine lv_iadd hx hb dX8_isJobSent_3 ?_
  refine z_ci (va_runS (rest := []) hF.1 (kX8_digit l E Z u1 ((a2 + 1)) hu1 hw _) (va_cwS 2 hts gX8_isJobSent_X8_digit rfl rfl rfl hS_yX8_digit ⟨Nat.le_trans (Nat.le_of_ble_eq_true rfl) hfr, Nat.le_trans (Nat.le_of_ble_eq_true rfl) hlo⟩) (z_preS hF hG) rfl rfl hl.1 rfl (lv_room (Nat.le_of_ble_eq_true rfl)) dX8_isJobSent_4 ⟨Nat.zero_le _, Nat.zero_le _⟩) hG (fun r2 Z1 H locs hw hG => ?_)
  refine lv_istore_n (lv' := [(3, .int r2), (0, .ref (E.2.1 (60 + u1))), (1, .int a2), (2, .ref (E.2.1 (54 + u3)))]) hx hb dX8_isJobSent_7 rfl hl (by decide) rfl (fun ls hl => ?_)
  refine lv_aload_n hx hb dX8_isJobSent_8 rfl (lv_at hl 1 rfl) ?_
  refine lv_iload_n hx hb dX8_isJobSent_9 rfl (lv_at hl 2 rfl) ?_
  refine lv_iconst (v := 2) hx hb dX8_isJobSent_10 (by decide) ?_
  refine lv_iadd hx hb dX8_isJobSent_11 ?_
  refine z_ci (va_runS (rest := []) hF.1 (kX8_digit l E Z1 u1 ((a2 + 2)) hu1 hw _) (va_cwS 2 hts gX8_isJobSent_X8_digit rfl rfl rfl hS_yX8_digit ⟨Nat.le_trans (Nat.le_of_ble_eq_true rfl) hfr, Nat.le_trans (Nat.le_of_ble_eq_true rfl) hlo⟩) (z_preS hF hG) rfl rfl hl.1 rfl (lv_room (Nat.le_of_ble_eq_true rfl)) dX8_isJobSent_12 ⟨Nat.zero_le _, Nat.zero_le _⟩) hG (fun r4 Z3 H locs hw hG => ?_)
  refine lv_istore (lv' := [(4, .int r4), (3, .int r2), (0, .ref (E.2.1 (60 + u1))), (1, .int a2), (2, .ref (E.2.1 (54 + u3)))]) hx hb dX8_isJobSent_15 hl (by decide) rfl (fun ls hl => ?_)
  refine lv_aload_n hx hb dX8_isJobSent_17 rfl (lv_at hl 2 rfl) ?_
  refine lv_iload_n hx hb dX8_isJobSent_18 rfl (lv_at hl 3 rfl) ?_
  refine lv_iconst (v := 3) hx hb dX8_isJobSent_19 (by decide) ?_
  refine lv_iadd hx hb dX8_isJobSent_20 ?_
  refine z_ci (va_runS (rest := []) hF.1 (kX8_digit l E Z3 u1 ((a2 + 3)) hu1 hw _) (va_cwS 2 hts gX8_isJobSent_X8_digit rfl rfl rfl hS_yX8_digit ⟨Nat.le_trans (Nat.le_of_ble_eq_true rfl) hfr, Nat.le_trans (Nat.le_of_ble_eq_true rfl) hlo⟩) (z_preS hF hG) rfl rfl hl.1 rfl (lv_room (Nat.le_of_ble_eq_true rfl)) dX8_isJobSent_21 ⟨Nat.zero_le _, Nat.zero_le _⟩) hG (fun r6 Z5 H locs hw hG => ?_)
  refine lv_istore (lv' := [(5, .int r6), (4, .int r4), (3, .int r2), (0, .ref (E.2.1 (60 + u1))), (1, .int a2), (2, .ref (E.2.1 (54 + u3)))]) hx hb dX8_isJobSent_24 hl (by decide) rfl (fun ls hl => ?_)
  refine lv_aload_n hx hb dX8_isJobSent_26 rfl (lv_at hl 5 rfl) ?_
  refine lv_iload_n hx hb dX8_isJobSent_27 rfl (lv_at hl 2 rfl) ?_
  refine lv_iload hx hb dX8_isJobSent_28 (lv_at hl 1 rfl) ?_
  refine lv_iload hx hb dX8_isJobSent_30 (lv_at hl 0 rfl) ?_
  refine z_ci (va_runV (rest := []) hF.1 (kX3_sendingRefusal l E Z5 u3 r2 r4 r6 hu3 hw _) (cwV 3 hts gX8_isJobSent_X3_sendingRefusal rfl rfl rfl ⟨rfl, hS_yX3_sendingRefusal⟩ ⟨Nat.le_trans (Nat.le_of_ble_eq_true rfl) hfr, Nat.le_trans (Nat.le_of_ble_eq_true rfl) hlo⟩) (z_preV hF hG (54 + u3) (zc_pl hu3) (z_pl hu3) rfl) rfl rfl hl.1 rfl (lv_room (Nat.le_of_ble_eq_true rfl)) dX8_isJobSent_32 ⟨Nat.zero_le _, Nat.zero_le _⟩) hG (fun r8 Z7 H locs hw hG => ?_)
  refine lv_if_eq (tgt := 40) hx hb dX8_isJobSent_35 (by decide) (fun c9 => ?_) (fun c9 => ?_)
  · replace hw := hw.1 c9
    refine lv_aload_n hx hb dX8_isJobSent_40 rfl (lv_at hl 5 rfl) ?_
    refine z_get hF hG (54 + u3) (zc_pl hu3) (z_pl hu3) rfl in3 0 (by decide) (List.mem_of_getElem? (i := 1) rfl) rfl rfl dX8_isJobSent_41 ?_
    refine lv_iload_n hx hb dX8_isJobSent_44 rfl (lv_at hl 2 rfl) ?_
    obtain ⟨q10, hw⟩ := hw
    refine z_aald hF hG (57 + u3) 1 (zc_pr hu3) (z_pr hu3) rfl q10 rfl dX8_isJobSent_45 ?_
    refine lv_iload hx hb dX8_isJobSent_46 (lv_at hl 1 rfl) ?_
    refine lv_iload hx hb dX8_isJobSent_48 (lv_at hl 0 rfl) ?_
    refine lv_aload_n hx hb dX8_isJobSent_50 rfl (lv_at hl 5 rfl) ?_
    refine z_get hF hG (54 + u3) (zc_pl hu3) (z_pl hu3) rfl in3 2 (by decide) (List.mem_of_getElem? (i := 2) rfl) rfl rfl dX8_isJobSent_51 ?_
    refine z_cv (va_runV (rest := []) hF.1 (kX5_takeJob l E Z7 ((6 * u3 + (r2 : Int32).toNatClampNeg)) r4 r6 ((Z7 (54 + u3) 2)) (z_vb hu3 q10) hw _) (cwV 3 hts gX8_isJobSent_X5_takeJob rfl rfl rfl ⟨rfl, hS_yX5_takeJob⟩ ⟨Nat.le_trans (Nat.le_of_ble_eq_true rfl) hfr, Nat.le_trans (Nat.le_of_ble_eq_true rfl) hlo⟩) (z_preV hF hG (6 * u3 + (r2 : Int32).toNatClampNeg) (zc_sv (z_vb hu3 q10)) (z_sv (z_vb hu3 q10)) rfl) rfl rfl hl.1 rfl (lv_room (Nat.le_of_ble_eq_true rfl)) dX8_isJobSent_54 ⟨Nat.zero_le _, Nat.zero_le _⟩) hG (fun Z11 H locs hw hG => ?_)
    refine lv_iconst (v := 1) hx hb dX8_isJobSent_57 (by decide) ?_
    exact z_zret hF hG hr hlk (by decide) hw dX8_isJobSent_58
  replace hw := hw.2 c9
  refine lv_iconst (v := 0) hx hb dX8_isJobSent_38 (by decide) ?_
  exact z_zret hF hG hr hlk (by decide) hw dX8_isJobSent_39
set_option maxHeartbeats 4000000 in
set_option maxRecDepth 100000 in
theorem kX11_isBudget (l : Launch) (E : zE) (Z : zS) (a1 : Int32) (a2 : Int32) {K : Int32 → zS → Prop} (hw : wX11_isBudget a1 a2 Z K) : zCi l yX11_isBudget wsX11_isBudget ({ frames := 1, cells := 0, slots := 0, locals := 22 } : Room) E Z [.int a1, .int a2] K := by
  refine z_bodyi (cc := cX11_isBudget) (nL := 2) (ret := .boolean) (by decide) rfl (Nat.le_of_ble_eq_true rfl) ?_
  intro p e R s m args below meth c ls hfr hlo hF hr hlk hG hl
  have hx := hF.1.1
  have hb := hF.1.2.1
  have hown := hF.1.2.2.2.1
  have hts := hF.1.2.2.2.2
  have hl : lv_has ls 2 [(0, .int a1), (1, .int a2)] := hl
  unfold wX11_isBudget at hw
  refine lv_iload_n hx hb dX11_isBudget_0 rfl (lv_at hl 0 rfl) ?_
  refine lv_iconst (v := 1) hx hb dX11_isBudget_1 (by decide) ?_
  refine lv_bipush (v := 30) hx hb dX11_isBudget_2 (by decide) ?_
  refine z_ci (va_runS (rest := []) hF.1 (kX11_within l E Z a1 1 30  hw _) (va_cwS 3 hts gX11_isBudget_X11_within rfl rfl rfl hS_yX11_within ⟨Nat.le_trans (Nat.le_of_ble_eq_true rfl) hfr, Nat.le_trans (Nat.le_of_ble_eq_true rfl) hlo⟩) (z_preS hF hG) rfl rfl hl.1 rfl (lv_room (Nat.le_of_ble_eq_true rfl)) dX11_isBudget_4 ⟨Nat.zero_le _, Nat.zero_le _⟩) hG (fun r2 Z1 H locs hw hG => ?_)
  refine lv_if_eq (tgt := 31) hx hb dX11_isBudget_7 (by decide) (fun c3 => ?_) (fun c3 => ?_)
  · replace hw := hw.1 c3
    refine lv_iconst (v := 0) hx hb dX11_isBudget_31 (by decide) ?_
    exact z_zret hF hG hr hlk (by decide) hw dX11_isBudget_32
  replace hw := hw.2 c3
  refine lv_iload_n hx hb dX11_isBudget_10 rfl (lv_at hl 1 rfl) ?_
  refine lv_iload_n hx hb dX11_isBudget_11 rfl (lv_at hl 0 rfl) ?_
  refine lv_bipush (v := 60) hx hb dX11_isBudget_12 (by decide) ?_
  refine z_ci (va_runS (rest := []) hF.1 (kX11_within l E Z1 a2 a1 60  hw _) (va_cwS 3 hts gX11_isBudget_X11_within rfl rfl rfl hS_yX11_within ⟨Nat.le_trans (Nat.le_of_ble_eq_true rfl) hfr, Nat.le_trans (Nat.le_of_ble_eq_true rfl) hlo⟩) (z_preS hF hG) rfl rfl hl.1 rfl (lv_room (Nat.le_of_ble_eq_true rfl)) dX11_isBudget_14 ⟨Nat.zero_le _, Nat.zero_le _⟩) hG (fun r5 Z4 H locs hw hG => ?_)
  refine lv_if_eq (tgt := 31) hx hb dX11_isBudget_17 (by decide) (fun c6 => ?_) (fun c6 => ?_)
  · replace hw := hw.1 c6
    refine lv_iconst (v := 0) hx hb dX11_isBudget_31 (by decide) ?_
    exact z_zret hF hG hr hlk (by decide) hw dX11_isBudget_32
  replace hw := hw.2 c6
  refine lv_bipush (v := 60) hx hb dX11_isBudget_20 (by decide) ?_
  refine lv_iload_n hx hb dX11_isBudget_22 rfl (lv_at hl 1 rfl) ?_
  refine lv_irem hx hb dX11_isBudget_23 hw.1 ?_
  replace hw := hw.2
  refine lv_if_ne (tgt := 31) hx hb dX11_isBudget_24 (by decide) (fun c7 => ?_) (fun c7 => ?_)
  · replace hw := hw.1 c7
    refine lv_iconst (v := 0) hx hb dX11_isBudget_31 (by decide) ?_
    exact z_zret hF hG hr hlk (by decide) hw dX11_isBudget_32
  replace hw := hw.2 (fun h => h c7)
  refine lv_iconst (v := 1) hx hb dX11_isBudget_27 (by decide) ?_
  refine lv_goto (tgt := 32) hx hb dX11_isBudget_28 (by decide) ?_
  exact z_zret hF hG hr hlk (by decide) hw dX11_isBudget_32
theorem hS_yX8_twoDigits : yX8_twoDigits.cls ≠ "java/lang/invoke/MethodHandle" ∧ yX8_twoDigits.cls ≠ "java/lang/invoke/VarHandle" ∧ (parseMethodDescriptor yX8_twoDigits.desc).map (fun d => d.parameters.length) = some 2 := by decide +kernel
theorem hS_yX11_isBudget : yX11_isBudget.cls ≠ "java/lang/invoke/MethodHandle" ∧ yX11_isBudget.cls ≠ "java/lang/invoke/VarHandle" ∧ (parseMethodDescriptor yX11_isBudget.desc).map (fun d => d.parameters.length) = some 2 := by decide +kernel
theorem hS_yX3_addServer : yX3_addServer.cls ≠ "java/lang/invoke/MethodHandle" ∧ yX3_addServer.cls ≠ "java/lang/invoke/VarHandle" ∧ (parseMethodDescriptor yX3_addServer.desc).map (fun d => d.parameters.length) = some 4 := by decide +kernel
set_option maxHeartbeats 4000000 in
set_option maxRecDepth 100000 in
theorem kX8_isServerAdded (l : Launch) (E : zE) (Z : zS) (u1 : Nat) (a2 : Int32) (u3 : Nat) (hu1 : u1 < 8) (hu3 : u3 < 3) {K : Int32 → zS → Prop} (hw : wX8_isServerAdded u1 a2 u3 Z K) : zCi l yX8_isServerAdded wsX8_isServerAdded ({ frames := 4, cells := 0, slots := 0, locals := 85 } : Room) E Z [.ref (E.2.1 (60 + u1)), .int a2, .ref (E.2.1 (54 + u3)), .ref (E.2.1 90)] K := by
  refine z_bodyi (cc := cX8_isServerAdded) (nL := 8) (ret := .boolean) (by decide) rfl (Nat.le_of_ble_eq_true rfl) ?_
  intro p e R s m args below meth c ls hfr hlo hF hr hlk hG hl
  have hx := hF.1.1
  have hb := hF.1.2.1
  have hown := hF.1.2.2.2.1
  have hts := hF.1.2.2.2.2
  have in3 : ∀ w ∈ u_ws RX3 TX3 5, w ∈ wsX8_isServerAdded := fun _ h => List.mem_cons_of_mem _ (List.mem_append_left _ (List.mem_append_left _ (List.mem_append_right _ h)))
  have hl : lv_has ls 8 [(0, .ref (E.2.1 (60 + u1))), (1, .int a2), (2, .ref (E.2.1 (54 + u3))), (3, .ref (E.2.1 90))] := hl
  unfold wX8_isServerAdded at hw
  refine lv_aload_n hx hb dX8_isServerAdded_0 rfl (lv_at hl 0 rfl) ?_
  refine lv_iload_n hx hb dX8_isServerAdded_1 rfl (lv_at hl 1 rfl) ?_
  refine lv_iconst (v := 1) hx hb dX8_isServerAdded_2 (by decide) ?_
  refine lv_iadd hx hb dX8_isServerAdded_3 ?_
  refine z_ci (va_runS (rest := []) hF.1 (kX8_digit l E Z u1 ((a2 + 1)) hu1 hw _) (va_cwS 2 hts gX8_isServerAdded_X8_digit rfl rfl rfl hS_yX8_digit ⟨Nat.le_trans (Nat.le_of_ble_eq_true rfl) hfr, Nat.le_trans (Nat.le_of_ble_eq_true rfl) hlo⟩) (z_preS hF hG) rfl rfl hl.1 rfl (lv_room (Nat.le_of_ble_eq_true rfl)) dX8_isServerAdded_4 ⟨Nat.zero_le _, Nat.zero_le _⟩) hG (fun r2 Z1 H locs hw hG => ?_)
  refine lv_istore (lv' := [(4, .int r2), (0, .ref (E.2.1 (60 + u1))), (1, .int a2), (2, .ref (E.2.1 (54 + u3))), (3, .ref (E.2.1 90))]) hx hb dX8_isServerAdded_7 hl (by decide) rfl (fun ls hl => ?_)
  refine lv_aload_n hx hb dX8_isServerAdded_9 rfl (lv_at hl 1 rfl) ?_
  refine lv_iload_n hx hb dX8_isServerAdded_10 rfl (lv_at hl 2 rfl) ?_
  refine lv_iconst (v := 2) hx hb dX8_isServerAdded_11 (by decide) ?_
  refine lv_iadd hx hb dX8_isServerAdded_12 ?_
  refine z_ci (va_runS (rest := []) hF.1 (kX8_digit l E Z1 u1 ((a2 + 2)) hu1 hw _) (va_cwS 2 hts gX8_isServerAdded_X8_digit rfl rfl rfl hS_yX8_digit ⟨Nat.le_trans (Nat.le_of_ble_eq_true rfl) hfr, Nat.le_trans (Nat.le_of_ble_eq_true rfl) hlo⟩) (z_preS hF hG) rfl rfl hl.1 rfl (lv_room (Nat.le_of_ble_eq_true rfl)) dX8_isServerAdded_13 ⟨Nat.zero_le _, Nat.zero_le _⟩) hG (fun r4 Z3 H locs hw hG => ?_)
  refine lv_istore (lv' := [(5, .int r4), (4, .int r2), (0, .ref (E.2.1 (60 + u1))), (1, .int a2), (2, .ref (E.2.1 (54 + u3))), (3, .ref (E.2.1 90))]) hx hb dX8_isServerAdded_16 hl (by decide) rfl (fun ls hl => ?_)
  refine lv_aload_n hx hb dX8_isServerAdded_18 rfl (lv_at hl 2 rfl) ?_
  refine lv_iload_n hx hb dX8_isServerAdded_19 rfl (lv_at hl 3 rfl) ?_
  refine lv_iconst (v := 3) hx hb dX8_isServerAdded_20 (by decide) ?_
  refine lv_iadd hx hb dX8_isServerAdded_21 ?_
  refine z_ci (va_runS (rest := []) hF.1 (kX8_twoDigits l E Z3 u1 ((a2 + 3)) hu1 hw _) (va_cwS 2 hts gX8_isServerAdded_X8_twoDigits rfl rfl rfl hS_yX8_twoDigits ⟨Nat.le_trans (Nat.le_of_ble_eq_true rfl) hfr, Nat.le_trans (Nat.le_of_ble_eq_true rfl) hlo⟩) (z_preS hF hG) rfl rfl hl.1 rfl (lv_room (Nat.le_of_ble_eq_true rfl)) dX8_isServerAdded_22 ⟨Nat.zero_le _, Nat.zero_le _⟩) hG (fun r6 Z5 H locs hw hG => ?_)
  refine lv_istore (lv' := [(6, .int r6), (5, .int r4), (4, .int r2), (0, .ref (E.2.1 (60 + u1))), (1, .int a2), (2, .ref (E.2.1 (54 + u3))), (3, .ref (E.2.1 90))]) hx hb dX8_isServerAdded_25 hl (by decide) rfl (fun ls hl => ?_)
  refine lv_aload_n hx hb dX8_isServerAdded_27 rfl (lv_at hl 3 rfl) ?_
  refine lv_iload_n hx hb dX8_isServerAdded_28 rfl (lv_at hl 4 rfl) ?_
  refine lv_iconst (v := 5) hx hb dX8_isServerAdded_29 (by decide) ?_
  refine lv_iadd hx hb dX8_isServerAdded_30 ?_
  refine z_ci (va_runS (rest := []) hF.1 (kX8_twoDigits l E Z5 u1 ((a2 + 5)) hu1 hw _) (va_cwS 2 hts gX8_isServerAdded_X8_twoDigits rfl rfl rfl hS_yX8_twoDigits ⟨Nat.le_trans (Nat.le_of_ble_eq_true rfl) hfr, Nat.le_trans (Nat.le_of_ble_eq_true rfl) hlo⟩) (z_preS hF hG) rfl rfl hl.1 rfl (lv_room (Nat.le_of_ble_eq_true rfl)) dX8_isServerAdded_31 ⟨Nat.zero_le _, Nat.zero_le _⟩) hG (fun r8 Z7 H locs hw hG => ?_)
  refine lv_istore (lv' := [(7, .int r8), (6, .int r6), (5, .int r4), (4, .int r2), (0, .ref (E.2.1 (60 + u1))), (1, .int a2), (2, .ref (E.2.1 (54 + u3))), (3, .ref (E.2.1 90))]) hx hb dX8_isServerAdded_34 hl (by decide) rfl (fun ls hl => ?_)
  refine lv_iload hx hb dX8_isServerAdded_36 (lv_at hl 3 rfl) ?_
  refine lv_iconst (v := 0) hx hb dX8_isServerAdded_38 (by decide) ?_
  refine lv_aload_n hx hb dX8_isServerAdded_39 rfl (lv_at hl 7 rfl) ?_
  refine z_alen (v := 6) hF hG 90 4 (by decide) z_kinds rfl rfl dX8_isServerAdded_40 ?_
  refine lv_iconst (v := 1) hx hb dX8_isServerAdded_41 (by decide) ?_
  refine lv_isub hx hb dX8_isServerAdded_42 ?_
  refine z_ci (va_runSN (rest := []) hF.1 (kX11_within l E Z7 r2 0 ((6 - 1))  hw _) ⟨va_cnB 3 hts gX8_isServerAdded_X11_within_n24 rfl rfl rfl hF.2.2.1.2.2.2.1 (hts (.initialized RX11) (List.mem_of_getElem? (i := 13) rfl)) hS_yX11_within ⟨Nat.le_trans (Nat.le_of_ble_eq_true rfl) hfr, Nat.le_trans (Nat.le_of_ble_eq_true rfl) hlo⟩, hts (.static yX11_within) (List.mem_of_getElem? (i := 12) rfl), trivial⟩ (z_preS hF hG) rfl rfl hl.1 rfl (lv_room (Nat.le_of_ble_eq_true rfl)) dX8_isServerAdded_43 ⟨Nat.zero_le _, Nat.zero_le _⟩) hG (fun r10 Z9 H locs hw hG => ?_)
  refine lv_if_eq (tgt := 68) hx hb dX8_isServerAdded_46 (by decide) (fun c11 => ?_) (fun c11 => ?_)
  · replace hw := hw.1 c11
    refine lv_iconst (v := 0) hx hb dX8_isServerAdded_68 (by decide) ?_
    exact z_zret hF hG hr hlk (by decide) hw dX8_isServerAdded_69
  replace hw := hw.2 c11
  refine lv_iload hx hb dX8_isServerAdded_49 (lv_at hl 1 rfl) ?_
  refine lv_iload hx hb dX8_isServerAdded_51 (lv_at hl 0 rfl) ?_
  refine z_ci (va_runSN (rest := []) hF.1 (kX11_isBudget l E Z9 r6 r8  hw _) ⟨va_cnB 2 hts gX8_isServerAdded_X11_isBudget_n52 rfl rfl rfl hF.2.2.1.2.2.2.2.1 (hts (.initialized RX11) (List.mem_of_getElem? (i := 13) rfl)) hS_yX11_isBudget ⟨Nat.le_trans (Nat.le_of_ble_eq_true rfl) hfr, Nat.le_trans (Nat.le_of_ble_eq_true rfl) hlo⟩, hts (.static yX11_isBudget) (List.mem_of_getElem? (i := 18) rfl), trivial⟩ (z_preS hF hG) rfl rfl hl.1 rfl (lv_room (Nat.le_of_ble_eq_true rfl)) dX8_isServerAdded_53 ⟨Nat.zero_le _, Nat.zero_le _⟩) hG (fun r13 Z12 H locs hw hG => ?_)
  refine lv_if_eq (tgt := 68) hx hb dX8_isServerAdded_56 (by decide) (fun c14 => ?_) (fun c14 => ?_)
  · replace hw := hw.1 c14
    refine lv_iconst (v := 0) hx hb dX8_isServerAdded_68 (by decide) ?_
    exact z_zret hF hG hr hlk (by decide) hw dX8_isServerAdded_69
  replace hw := hw.2 c14
  refine lv_aload_n hx hb dX8_isServerAdded_59 rfl (lv_at hl 6 rfl) ?_
  refine z_get hF hG (54 + u3) (zc_pl hu3) (z_pl hu3) rfl in3 1 (by decide) (List.mem_of_getElem? (i := 1) rfl) rfl rfl dX8_isServerAdded_60 ?_
  refine lv_bipush (v := 6) hx hb dX8_isServerAdded_63 (by decide) ?_
  refine lv_icmp_lt (tgt := 70) hx hb dX8_isServerAdded_65 (by decide) (fun c15 => ?_) (fun c15 => ?_)
  · replace hw := hw.1 c15
    refine lv_aload_n hx hb dX8_isServerAdded_70 rfl (lv_at hl 6 rfl) ?_
    refine lv_aload_n hx hb dX8_isServerAdded_71 rfl (lv_at hl 7 rfl) ?_
    refine lv_iload hx hb dX8_isServerAdded_72 (lv_at hl 3 rfl) ?_
    obtain ⟨q16, hw⟩ := hw
    refine z_aald hF hG 90 4 (by decide) z_kinds rfl q16 rfl dX8_isServerAdded_74 ?_
    refine lv_iload hx hb dX8_isServerAdded_75 (lv_at hl 2 rfl) ?_
    refine lv_iload hx hb dX8_isServerAdded_77 (lv_at hl 1 rfl) ?_
    refine lv_iload hx hb dX8_isServerAdded_79 (lv_at hl 0 rfl) ?_
    refine z_cv (va_runV (rest := []) hF.1 (kX3_addServer l E Z12 u3 r2 r4 r6 r8 hu3 hw _) (cwV 4 hts gX8_isServerAdded_X3_addServer rfl rfl rfl ⟨rfl, hS_yX3_addServer⟩ ⟨Nat.le_trans (Nat.le_of_ble_eq_true rfl) hfr, Nat.le_trans (Nat.le_of_ble_eq_true rfl) hlo⟩) (z_preV hF hG (54 + u3) (zc_pl hu3) (z_pl hu3) rfl) rfl rfl hl.1 rfl (lv_room (Nat.le_of_ble_eq_true rfl)) dX8_isServerAdded_81 ⟨Nat.zero_le _, Nat.zero_le _⟩) hG (fun Z17 H locs hw hG => ?_)
    refine lv_iconst (v := 1) hx hb dX8_isServerAdded_84 (by decide) ?_
    exact z_zret hF hG hr hlk (by decide) hw dX8_isServerAdded_85
  replace hw := hw.2 c15
  refine lv_iconst (v := 0) hx hb dX8_isServerAdded_68 (by decide) ?_
  exact z_zret hF hG hr hlk (by decide) hw dX8_isServerAdded_69
theorem hS_yX8_isJobSent : yX8_isJobSent.cls ≠ "java/lang/invoke/MethodHandle" ∧ yX8_isJobSent.cls ≠ "java/lang/invoke/VarHandle" ∧ (parseMethodDescriptor yX8_isJobSent.desc).map (fun d => d.parameters.length) = some 3 := by decide +kernel
theorem hS_yX8_isServerAdded : yX8_isServerAdded.cls ≠ "java/lang/invoke/MethodHandle" ∧ yX8_isServerAdded.cls ≠ "java/lang/invoke/VarHandle" ∧ (parseMethodDescriptor yX8_isServerAdded.desc).map (fun d => d.parameters.length) = some 4 := by decide +kernel
theorem hS_yX3_tickingRefusal : yX3_tickingRefusal.cls ≠ "java/lang/invoke/MethodHandle" ∧ yX3_tickingRefusal.cls ≠ "java/lang/invoke/VarHandle" ∧ (parseMethodDescriptor yX3_tickingRefusal.desc).map (fun d => d.parameters.length) = some 1 := by decide +kernel
theorem hS_yX3_goOnFor : yX3_goOnFor.cls ≠ "java/lang/invoke/MethodHandle" ∧ yX3_goOnFor.cls ≠ "java/lang/invoke/VarHandle" ∧ (parseMethodDescriptor yX3_goOnFor.desc).map (fun d => d.parameters.length) = some 1 := by decide +kernel
set_option maxHeartbeats 4000000 in
set_option maxRecDepth 100000 in
theorem kX8_isDone (l : Launch) (E : zE) (Z : zS) (u1 : Nat) (a2 : Int32) (u3 : Nat) (hu1 : u1 < 8) (hu3 : u3 < 3) {K : Int32 → zS → Prop} (hw : wX8_isDone u1 a2 u3 Z K) : zCi l yX8_isDone wsX8_isDone ({ frames := 6, cells := 0, slots := 0, locals := 122 } : Room) E Z [.ref (E.2.1 (60 + u1)), .int a2, .ref (E.2.1 (54 + u3)), .ref (E.2.1 90)] K := by
  refine z_bodyi (cc := cX8_isDone) (nL := 5) (ret := .boolean) (by decide) rfl (Nat.le_of_ble_eq_true rfl) ?_
  intro p e R s m args below meth c ls hfr hlo hF hr hlk hG hl
  have hx := hF.1.1
  have hb := hF.1.2.1
  have hown := hF.1.2.2.2.1
  have hts := hF.1.2.2.2.2
  have hl : lv_has ls 5 [(0, .ref (E.2.1 (60 + u1))), (1, .int a2), (2, .ref (E.2.1 (54 + u3))), (3, .ref (E.2.1 90))] := hl
  unfold wX8_isDone at hw
  refine lv_aload_n hx hb dX8_isDone_0 rfl (lv_at hl 0 rfl) ?_
  refine lv_iload_n hx hb dX8_isDone_1 rfl (lv_at hl 1 rfl) ?_
  refine z_ci (va_runV (rest := []) hF.1 (kX6_at l E Z u1 a2 hu1 hw _) (cwV 1 hts gX8_isDone_X6_at rfl rfl rfl ⟨rfl, hS_yX6_at⟩ ⟨Nat.le_trans (Nat.le_of_ble_eq_true rfl) hfr, Nat.le_trans (Nat.le_of_ble_eq_true rfl) hlo⟩) (z_preV hF hG (60 + u1) (zc_sh hu1) (z_sh hu1) rfl) rfl rfl hl.1 rfl (lv_room (Nat.le_of_ble_eq_true rfl)) dX8_isDone_2 ⟨Nat.zero_le _, Nat.zero_le _⟩) hG (fun r2 Z1 H locs hw hG => ?_)
  refine lv_topi (fun y3 ey3 => ?_)
  replace hw := hw y3 ey3
  by_cases c4 : y3 = 106
  · replace hw := hw.1 c4
    refine lv_lookup (tgt := 40) (off := 35) hx hb dX8_isDone_5 (by decide) (by rw [c4]; rfl) (by decide) ?_
    refine lv_aload_n hx hb dX8_isDone_40 rfl (lv_at hl 0 rfl) ?_
    refine lv_iload_n hx hb dX8_isDone_41 rfl (lv_at hl 1 rfl) ?_
    refine lv_aload_n hx hb dX8_isDone_42 rfl (lv_at hl 2 rfl) ?_
    refine z_ci (va_runS (rest := []) hF.1 (kX8_isJobSent l E Z1 u1 a2 u3 hu1 hu3 hw _) (va_cwS 3 hts gX8_isDone_X8_isJobSent rfl rfl rfl hS_yX8_isJobSent ⟨Nat.le_trans (Nat.le_of_ble_eq_true rfl) hfr, Nat.le_trans (Nat.le_of_ble_eq_true rfl) hlo⟩) (z_preS hF hG) rfl rfl hl.1 rfl (lv_room (Nat.le_of_ble_eq_true rfl)) dX8_isDone_43 ⟨Nat.zero_le _, Nat.zero_le _⟩) hG (fun r6 Z5 H locs hw hG => ?_)
    exact z_zret hF hG hr hlk (zBo.n hw.1) hw.2 dX8_isDone_46
  replace hw := hw.2 c4
  by_cases c7 : y3 = 115
  · replace hw := hw.1 c7
    refine lv_lookup (tgt := 32) (off := 27) hx hb dX8_isDone_5 (by decide) (by rw [c7]; rfl) (by decide) ?_
    refine lv_aload_n hx hb dX8_isDone_32 rfl (lv_at hl 0 rfl) ?_
    refine lv_iload_n hx hb dX8_isDone_33 rfl (lv_at hl 1 rfl) ?_
    refine lv_aload_n hx hb dX8_isDone_34 rfl (lv_at hl 2 rfl) ?_
    refine lv_aload_n hx hb dX8_isDone_35 rfl (lv_at hl 3 rfl) ?_
    refine z_ci (va_runS (rest := []) hF.1 (kX8_isServerAdded l E Z1 u1 a2 u3 hu1 hu3 hw _) (va_cwS 4 hts gX8_isDone_X8_isServerAdded rfl rfl rfl hS_yX8_isServerAdded ⟨Nat.le_trans (Nat.le_of_ble_eq_true rfl) hfr, Nat.le_trans (Nat.le_of_ble_eq_true rfl) hlo⟩) (z_preS hF hG) rfl rfl hl.1 rfl (lv_room (Nat.le_of_ble_eq_true rfl)) dX8_isDone_36 ⟨Nat.zero_le _, Nat.zero_le _⟩) hG (fun r9 Z8 H locs hw hG => ?_)
    exact z_zret hF hG hr hlk (zBo.n hw.1) hw.2 dX8_isDone_39
  replace hw := hw.2 c7
  refine lv_lookup (tgt := 47) (off := 42) hx hb dX8_isDone_5 (by decide) ((lv_osw c4 (by decide)).trans ( (lv_osw c7 (by decide)).trans (rfl))) (by decide) ?_
  refine lv_aload_n hx hb dX8_isDone_47 rfl (lv_at hl 0 rfl) ?_
  refine lv_iload_n hx hb dX8_isDone_48 rfl (lv_at hl 1 rfl) ?_
  refine lv_iconst (v := 1) hx hb dX8_isDone_49 (by decide) ?_
  refine lv_iadd hx hb dX8_isDone_50 ?_
  refine z_ci (va_runS (rest := []) hF.1 (kX8_twoDigits l E Z1 u1 ((a2 + 1)) hu1 hw _) (va_cwS 2 hts gX8_isDone_X8_twoDigits rfl rfl rfl hS_yX8_twoDigits ⟨Nat.le_trans (Nat.le_of_ble_eq_true rfl) hfr, Nat.le_trans (Nat.le_of_ble_eq_true rfl) hlo⟩) (z_preS hF hG) rfl rfl hl.1 rfl (lv_room (Nat.le_of_ble_eq_true rfl)) dX8_isDone_51 ⟨Nat.zero_le _, Nat.zero_le _⟩) hG (fun r11 Z10 H locs hw hG => ?_)
  refine lv_istore (lv' := [(4, .int r11), (0, .ref (E.2.1 (60 + u1))), (1, .int a2), (2, .ref (E.2.1 (54 + u3))), (3, .ref (E.2.1 90))]) hx hb dX8_isDone_54 hl (by decide) rfl (fun ls hl => ?_)
  refine lv_aload_n hx hb dX8_isDone_56 rfl (lv_at hl 3 rfl) ?_
  refine lv_iload hx hb dX8_isDone_57 (lv_at hl 0 rfl) ?_
  refine z_ci (va_runV (rest := []) hF.1 (kX3_tickingRefusal l E Z10 u3 r11 hu3 hw _) (cwV 1 hts gX8_isDone_X3_tickingRefusal rfl rfl rfl ⟨rfl, hS_yX3_tickingRefusal⟩ ⟨Nat.le_trans (Nat.le_of_ble_eq_true rfl) hfr, Nat.le_trans (Nat.le_of_ble_eq_true rfl) hlo⟩) (z_preV hF hG (54 + u3) (zc_pl hu3) (z_pl hu3) rfl) rfl rfl hl.1 rfl (lv_room (Nat.le_of_ble_eq_true rfl)) dX8_isDone_59 ⟨Nat.zero_le _, Nat.zero_le _⟩) hG (fun r13 Z12 H locs hw hG => ?_)
  refine lv_if_eq (tgt := 67) hx hb dX8_isDone_62 (by decide) (fun c14 => ?_) (fun c14 => ?_)
  · replace hw := hw.1 c14
    refine lv_aload_n hx hb dX8_isDone_67 rfl (lv_at hl 3 rfl) ?_
    refine lv_iload hx hb dX8_isDone_68 (lv_at hl 0 rfl) ?_
    refine z_cv (va_runV (rest := []) hF.1 (kX3_goOnFor l E Z12 u3 r11 hu3 hw _) (cwV 1 hts gX8_isDone_X3_goOnFor rfl rfl rfl ⟨rfl, hS_yX3_goOnFor⟩ ⟨Nat.le_trans (Nat.le_of_ble_eq_true rfl) hfr, Nat.le_trans (Nat.le_of_ble_eq_true rfl) hlo⟩) (z_preV hF hG (54 + u3) (zc_pl hu3) (z_pl hu3) rfl) rfl rfl hl.1 rfl (lv_room (Nat.le_of_ble_eq_true rfl)) dX8_isDone_70 ⟨Nat.zero_le _, Nat.zero_le _⟩) hG (fun Z15 H locs hw hG => ?_)
    refine lv_iconst (v := 1) hx hb dX8_isDone_73 (by decide) ?_
    exact z_zret hF hG hr hlk (by decide) hw dX8_isDone_74
  replace hw := hw.2 c14
  refine lv_iconst (v := 0) hx hb dX8_isDone_65 (by decide) ?_
  exact z_zret hF hG hr hlk (by decide) hw dX8_isDone_66
theorem hS_yX4_worth : yX4_worth.cls ≠ "java/lang/invoke/MethodHandle" ∧ yX4_worth.cls ≠ "java/lang/invoke/VarHandle" ∧ (parseMethodDescriptor yX4_worth.desc).map (fun d => d.parameters.length) = some 1 := by decide +kernel
set_option maxHeartbeats 4000000 in
set_option maxRecDepth 100000 in
theorem kX9_worth (l : Launch) (E : zE) (Z : zS) (v : Int32) (a1 : Int32) {K : Int32 → zS → Prop} (hw : wX9_worth v a1 Z K) : zCi l yX9_worth wsX9_worth ({ frames := 1, cells := 0, slots := 0, locals := 21 } : Room) E Z [.ref (E.2.1 (84 + (v : Int32).toNatClampNeg)), .int a1] K := by
  refine z_bodyi (cc := cX9_worth) (nL := 2) (ret := .int) (by decide) rfl (Nat.le_of_ble_eq_true rfl) ?_
  intro p e R s m args below meth c ls hfr hlo hF hr hlk hG hl
  have hx := hF.1.1
  have hb := hF.1.2.1
  have hown := hF.1.2.2.2.1
  have hts := hF.1.2.2.2.2
  have hl : lv_has ls 2 [(0, .ref (E.2.1 (84 + (v : Int32).toNatClampNeg))), (1, .int a1)] := hl
  unfold wX9_worth at hw
  refine lv_aload_n hx hb dX9_worth_0 rfl (lv_at hl 0 rfl) ?_
  refine lv_iload_n hx hb dX9_worth_1 rfl (lv_at hl 1 rfl) ?_
  obtain ⟨hki, hw⟩ := hw
  obtain ⟨C0, cC0, hcat, hpv⟩ := z_preK hF hG (As := [.int a1]) hki
  refine z_ci (va_runSU (rest := []) hcat hF.1 (kX4_worth l E Z v a1  hw _) (va_cwSU 1 hts gX9_worth_X4_worth_s23 rfl rfl rfl ⟨by decide, hS_yX4_worth.2.2⟩ ⟨Nat.le_trans (Nat.le_of_ble_eq_true rfl) hfr, Nat.le_trans (Nat.le_of_ble_eq_true rfl) hlo⟩) hpv rfl rfl hl.1 rfl (lv_room (Nat.le_of_ble_eq_true rfl)) dX9_worth_2 ⟨Nat.zero_le _, Nat.zero_le _⟩) hG (fun r2 Z1 H locs hw hG => ?_)
  refine lv_iconst (v := 1) hx hb dX9_worth_5 (by decide) ?_
  refine lv_iadd hx hb dX9_worth_6 ?_
  exact z_iret hF hG hr hlk hw dX9_worth_7
set_option maxHeartbeats 4000000 in
set_option maxRecDepth 100000 in
theorem kX10_becomeEmpty (l : Launch) (E : zE) (Z : zS) (v : Nat) (u1 : Int32) (a2 : Int32) (hv : v < 4) {K : zS → Prop} (hw : wX10_becomeEmpty v u1 a2 Z K) : zCv l yX10_becomeEmpty wsX10_becomeEmpty ({ frames := 1, cells := 0, slots := 0, locals := 23 } : Room) E Z [.ref (E.2.1 (76 + v)), .ref (E.2.1 (84 + (u1 : Int32).toNatClampNeg)), .int a2] K := by
  refine z_bodyv (cc := cX10_becomeEmpty) (nL := 3) (by decide) rfl (Nat.le_of_ble_eq_true rfl) ?_
  intro p e R s m args below meth c ls hfr hlo hF hr hlk hG hl
  have hx := hF.1.1
  have hb := hF.1.2.1
  have hown := hF.1.2.2.2.1
  have hts := hF.1.2.2.2.2
  have in10 : ∀ w ∈ u_ws RX10 TX10 4, w ∈ wsX10_becomeEmpty := fun _ h => List.mem_cons_of_mem _ (List.mem_append_right _ h)
  have hl : lv_has ls 3 [(0, .ref (E.2.1 (76 + v))), (1, .ref (E.2.1 (84 + (u1 : Int32).toNatClampNeg))), (2, .int a2)] := hl
  unfold wX10_becomeEmpty at hw
  refine lv_aload_n hx hb dX10_becomeEmpty_0 rfl (lv_at hl 0 rfl) ?_
  refine lv_iconst (v := 1) hx hb dX10_becomeEmpty_1 (by decide) ?_
  refine z_put hF hG (76 + v) (zc_tr hv) (z_tr hv) rfl in10 tyX10_ok nmX10 0 (by decide) (List.mem_of_getElem? (i := 1) rfl) rfl rfl (tyX10_ok 0 (by decide)) (by decide) (by decide) (Nat.le_of_ble_eq_true rfl) 1 (z_tr hv) dX10_becomeEmpty_2 (fun Z1 H locs eZ1 hG => ?_)
  replace hw := hw Z1 eZ1
  refine lv_aload_n hx hb dX10_becomeEmpty_5 rfl (lv_at hl 0 rfl) ?_
  refine lv_aload_n hx hb dX10_becomeEmpty_6 rfl (lv_at hl 1 rfl) ?_
  refine z_put hF hG (76 + v) (zc_tr hv) (z_tr hv) rfl in10 tyX10_ok nmX10 1 (by decide) (List.mem_of_getElem? (i := 2) rfl) rfl rfl (tyX10_ok 1 (by decide)) rfl rfl (Nat.le_of_ble_eq_true rfl) u1 (z_tr hv) dX10_becomeEmpty_7 (fun Z2 H locs eZ2 hG => ?_)
  replace hw := hw Z2 eZ2
  refine lv_aload_n hx hb dX10_becomeEmpty_10 rfl (lv_at hl 0 rfl) ?_
  refine lv_iload_n hx hb dX10_becomeEmpty_11 rfl (lv_at hl 2 rfl) ?_
  refine z_put hF hG (76 + v) (zc_tr hv) (z_tr hv) rfl in10 tyX10_ok nmX10 2 (by decide) (List.mem_of_getElem? (i := 3) rfl) rfl rfl (tyX10_ok 2 (by decide)) rfl rfl (Nat.le_of_ble_eq_true rfl) a2 (z_tr hv) dX10_becomeEmpty_12 (fun Z3 H locs eZ3 hG => ?_)
  replace hw := hw Z3 eZ3
  refine lv_aload_n hx hb dX10_becomeEmpty_15 rfl (lv_at hl 0 rfl) ?_
  refine z_get hF hG (76 + v) (zc_tr hv) (z_tr hv) rfl in10 3 (by decide) (List.mem_of_getElem? (i := 4) rfl) rfl rfl dX10_becomeEmpty_16 ?_
  refine lv_bipush (v := (-4)) hx hb dX10_becomeEmpty_19 (by decide) ?_
  refine z_cv (va_runS (rest := []) hF.1 (kJ7_fill_53178 l E Z3 (80 + v) 20 ((-4)) (zc_ps hv) (fun _ => (z_ps hv)) hw _) (va_cwS 2 hts gX10_becomeEmpty_J7_fill_53178 rfl rfl rfl hS_yJ7_fill_53178 ⟨Nat.le_trans (Nat.le_of_ble_eq_true rfl) hfr, Nat.le_trans (Nat.le_of_ble_eq_true rfl) hlo⟩) (z_preS hF hG) rfl rfl hl.1 rfl (lv_room (Nat.le_of_ble_eq_true rfl)) dX10_becomeEmpty_21 ⟨Nat.zero_le _, Nat.zero_le _⟩) hG (fun Z4 H locs hw hG => ?_)
  exact z_vret hF hG hr hlk hw dX10_becomeEmpty_24
set_option maxHeartbeats 4000000 in
set_option maxRecDepth 100000 in
theorem kX10_becomeLike (l : Launch) (E : zE) (Z : zS) (v : Nat) (u1 : Nat) (hv : v < 4) (hu1 : u1 < 4) {K : zS → Prop} (hw : wX10_becomeLike v u1 Z K) : zCv l yX10_becomeLike wsX10_becomeLike ({ frames := 1, cells := 0, slots := 0, locals := 40 } : Room) E Z [.ref (E.2.1 (76 + v)), .ref (E.2.1 (76 + u1))] K := by
  refine z_bodyv (cc := cX10_becomeLike) (nL := 2) (by decide) rfl (Nat.le_of_ble_eq_true rfl) ?_
  intro p e R s m args below meth c ls hfr hlo hF hr hlk hG hl
  have hx := hF.1.1
  have hb := hF.1.2.1
  have hown := hF.1.2.2.2.1
  have hts := hF.1.2.2.2.2
  have in10 : ∀ w ∈ u_ws RX10 TX10 4, w ∈ wsX10_becomeLike := fun _ h => List.mem_cons_of_mem _ (List.mem_append_right _ h)
  have hl : lv_has ls 2 [(0, .ref (E.2.1 (76 + v))), (1, .ref (E.2.1 (76 + u1)))] := hl
  unfold wX10_becomeLike at hw
  refine lv_aload_n hx hb dX10_becomeLike_0 rfl (lv_at hl 0 rfl) ?_
  refine lv_aload_n hx hb dX10_becomeLike_1 rfl (lv_at hl 1 rfl) ?_
  refine z_get hF hG (76 + u1) (zc_tr hu1) (z_tr hu1) rfl in10 0 (by decide) (List.mem_of_getElem? (i := 1) rfl) rfl rfl dX10_becomeLike_2 ?_
  have hbo := hw.1
  replace hw := hw.2
  refine z_put hF hG (76 + v) (zc_tr hv) (z_tr hv) rfl in10 tyX10_ok nmX10 0 (by decide) (List.mem_of_getElem? (i := 1) rfl) rfl rfl (tyX10_ok 0 (by decide)) (zBo.n hbo) (zBo.t hbo) (Nat.le_of_ble_eq_true rfl) ((Z (76 + u1) 0)) (z_tr hv) dX10_becomeLike_5 (fun Z1 H locs eZ1 hG => ?_)
  replace hw := hw Z1 eZ1
  refine lv_aload_n hx hb dX10_becomeLike_8 rfl (lv_at hl 0 rfl) ?_
  refine lv_aload_n hx hb dX10_becomeLike_9 rfl (lv_at hl 1 rfl) ?_
  refine z_get (v := .ref (E.2.1 (84 + ((Z1 (76 + u1) 1) : Int32).toNatClampNeg))) hF hG (76 + u1) (zc_tr hu1) (z_tr hu1) rfl in10 1 (by decide) (List.mem_of_getElem? (i := 2) rfl) rfl rfl dX10_becomeLike_10 ?_
  refine z_put hF hG (76 + v) (zc_tr hv) (z_tr hv) rfl in10 tyX10_ok nmX10 1 (by decide) (List.mem_of_getElem? (i := 2) rfl) rfl rfl (tyX10_ok 1 (by decide)) rfl rfl (Nat.le_of_ble_eq_true rfl) ((Z1 (76 + u1) 1)) (z_tr hv) dX10_becomeLike_13 (fun Z2 H locs eZ2 hG => ?_)
  replace hw := hw Z2 eZ2
  refine lv_aload_n hx hb dX10_becomeLike_16 rfl (lv_at hl 0 rfl) ?_
  refine lv_aload_n hx hb dX10_becomeLike_17 rfl (lv_at hl 1 rfl) ?_
  refine z_get hF hG (76 + u1) (zc_tr hu1) (z_tr hu1) rfl in10 2 (by decide) (List.mem_of_getElem? (i := 3) rfl) rfl rfl dX10_becomeLike_18 ?_
  refine z_put hF hG (76 + v) (zc_tr hv) (z_tr hv) rfl in10 tyX10_ok nmX10 2 (by decide) (List.mem_of_getElem? (i := 3) rfl) rfl rfl (tyX10_ok 2 (by decide)) rfl rfl (Nat.le_of_ble_eq_true rfl) ((Z2 (76 + u1) 2)) (z_tr hv) dX10_becomeLike_21 (fun Z3 H locs eZ3 hG => ?_)
  replace hw := hw Z3 eZ3
  refine lv_aload_n hx hb dX10_becomeLike_24 rfl (lv_at hl 1 rfl) ?_
  refine z_get hF hG (76 + u1) (zc_tr hu1) (z_tr hu1) rfl in10 3 (by decide) (List.mem_of_getElem? (i := 4) rfl) rfl rfl dX10_becomeLike_25 ?_
  refine lv_iconst (v := 0) hx hb dX10_becomeLike_28 (by decide) ?_
  refine lv_aload_n hx hb dX10_becomeLike_29 rfl (lv_at hl 0 rfl) ?_
  refine z_get hF hG (76 + v) (zc_tr hv) (z_tr hv) rfl in10 3 (by decide) (List.mem_of_getElem? (i := 4) rfl) rfl rfl dX10_becomeLike_30 ?_
  refine lv_iconst (v := 0) hx hb dX10_becomeLike_33 (by decide) ?_
  refine lv_bipush (v := 20) hx hb dX10_becomeLike_34 (by decide) ?_
  obtain ⟨hq, hw⟩ := hw
  refine z_copy hF hG hl.1 (80 + u1) (80 + v) (zc_ps hu1) (zc_ps hv) (z_ps hu1) (fun _ => (z_ps hv)) hq (hts (.methodLink RX10 33 arraycopyName) (List.mem_of_getElem? (i := 5) rfl)) (hts (.native arraycopyName) (List.mem_of_getElem? (i := 6) rfl)) (hts (.static arraycopyName) (List.mem_of_getElem? (i := 7) rfl)) (hts (.initialized "java/lang/System") (List.mem_of_getElem? (i := 8) rfl)) (Nat.le_trans (Nat.le_of_ble_eq_true rfl) hfr) (Nat.le_trans (by decide) hlo) dX10_becomeLike_36 (fun Z4 H locs eZ4 hG => ?_)
  replace hw := hw Z4 eZ4
  exact z_vret hF hG hr hlk hw dX10_becomeLike_39
set_option maxHeartbeats 4000000 in
set_option maxRecDepth 100000 in
theorem kX10_hasPlace (l : Launch) (E : zE) (Z : zS) (v : Nat) (a1 : Int32) (hv : v < 4) {K : Int32 → zS → Prop} (hw : wX10_hasPlace v a1 Z K) : zCi l yX10_hasPlace wsX10_hasPlace ({ frames := 1, cells := 0, slots := 0, locals := 22 } : Room) E Z [.ref (E.2.1 (76 + v)), .int a1] K := by
  refine z_bodyi (cc := cX10_hasPlace) (nL := 2) (ret := .boolean) (by decide) rfl (Nat.le_of_ble_eq_true rfl) ?_
  intro p e R s m args below meth c ls hfr hlo hF hr hlk hG hl
  have hx := hF.1.1
  have hb := hF.1.2.1
  have hown := hF.1.2.2.2.1
  have hts := hF.1.2.2.2.2
  have in10 : ∀ w ∈ u_ws RX10 TX10 4, w ∈ wsX10_hasPlace := fun _ h => List.mem_cons_of_mem _ (List.mem_append_right _ h)
  have hl : lv_has ls 2 [(0, .ref (E.2.1 (76 + v))), (1, .int a1)] := hl
  unfold wX10_hasPlace at hw
  refine lv_iload_n hx hb dX10_hasPlace_0 rfl (lv_at hl 1 rfl) ?_
  refine lv_iconst (v := 0) hx hb dX10_hasPlace_1 (by decide) ?_
  refine lv_aload_n hx hb dX10_hasPlace_2 rfl (lv_at hl 0 rfl) ?_
  refine z_get hF hG (76 + v) (zc_tr hv) (z_tr hv) rfl in10 2 (by decide) (List.mem_of_getElem? (i := 1) rfl) rfl rfl dX10_hasPlace_3 ?_
  refine lv_iconst (v := 1) hx hb dX10_hasPlace_6 (by decide) ?_
  refine lv_isub hx hb dX10_hasPlace_7 ?_
  refine z_ci (va_runSN (rest := []) hF.1 (kX11_within l E Z a1 0 (((Z (76 + v) 2) - 1))  hw _) ⟨va_cnB 3 hts gX10_hasPlace_X11_within_n39 rfl rfl rfl hF.2.2.1.2.2.2.2.2.1 (hts (.initialized RX11) (List.mem_of_getElem? (i := 3) rfl)) hS_yX11_within ⟨Nat.le_trans (Nat.le_of_ble_eq_true rfl) hfr, Nat.le_trans (Nat.le_of_ble_eq_true rfl) hlo⟩, hts (.static yX11_within) (List.mem_of_getElem? (i := 2) rfl), trivial⟩ (z_preS hF hG) rfl rfl hl.1 rfl (lv_room (Nat.le_of_ble_eq_true rfl)) dX10_hasPlace_8 ⟨Nat.zero_le _, Nat.zero_le _⟩) hG (fun r2 Z1 H locs hw hG => ?_)
  exact z_zret hF hG hr hlk (zBo.n hw.1) hw.2 dX10_hasPlace_11
set_option maxHeartbeats 4000000 in
set_option maxRecDepth 100000 in
theorem kX11_isShelf (l : Launch) (E : zE) (Z : zS) (a1 : Int32) {K : Int32 → zS → Prop} (hw : wX11_isShelf a1 Z K) : zCi l yX11_isShelf wsX11_isShelf ({ frames := 1, cells := 0, slots := 0, locals := 22 } : Room) E Z [.int a1] K := by
  refine z_bodyi (cc := cX11_isShelf) (nL := 1) (ret := .boolean) (by decide) rfl (Nat.le_of_ble_eq_true rfl) ?_
  intro p e R s m args below meth c ls hfr hlo hF hr hlk hG hl
  have hx := hF.1.1
  have hb := hF.1.2.1
  have hown := hF.1.2.2.2.1
  have hts := hF.1.2.2.2.2
  have hl : lv_has ls 1 [(0, .int a1)] := hl
  unfold wX11_isShelf at hw
  refine lv_iload_n hx hb dX11_isShelf_0 rfl (lv_at hl 0 rfl) ?_
  refine lv_iconst (v := 0) hx hb dX11_isShelf_1 (by decide) ?_
  refine lv_bipush (v := 7) hx hb dX11_isShelf_2 (by decide) ?_
  refine z_ci (va_runS (rest := []) hF.1 (kX11_within l E Z a1 0 7  hw _) (va_cwS 3 hts gX11_isShelf_X11_within rfl rfl rfl hS_yX11_within ⟨Nat.le_trans (Nat.le_of_ble_eq_true rfl) hfr, Nat.le_trans (Nat.le_of_ble_eq_true rfl) hlo⟩) (z_preS hF hG) rfl rfl hl.1 rfl (lv_room (Nat.le_of_ble_eq_true rfl)) dX11_isShelf_4 ⟨Nat.zero_le _, Nat.zero_le _⟩) hG (fun r2 Z1 H locs hw hG => ?_)
  exact z_zret hF hG hr hlk (zBo.n hw.1) hw.2 dX11_isShelf_7
theorem hS_yX11_isShelf : yX11_isShelf.cls ≠ "java/lang/invoke/MethodHandle" ∧ yX11_isShelf.cls ≠ "java/lang/invoke/VarHandle" ∧ (parseMethodDescriptor yX11_isShelf.desc).map (fun d => d.parameters.length) = some 1 := by decide +kernel
set_option maxHeartbeats 4000000 in
set_option maxRecDepth 100000 in
theorem kX11_contentRefusal (l : Launch) (E : zE) (Z : zS) (a1 : Int32) (a2 : Int32) {K : Int32 → zS → Prop} (hw : wX11_contentRefusal a1 a2 Z K) : zCi l yX11_contentRefusal wsX11_contentRefusal ({ frames := 2, cells := 0, slots := 0, locals := 42 } : Room) E Z [.ref (E.2.1 96), .int a1, .int a2] K := by
  refine z_bodyi (cc := cX11_contentRefusal) (nL := 3) (ret := .int) (by decide) rfl (Nat.le_of_ble_eq_true rfl) ?_
  intro p e R s m args below meth c ls hfr hlo hF hr hlk hG hl
  have hx := hF.1.1
  have hb := hF.1.2.1
  have hown := hF.1.2.2.2.1
  have hts := hF.1.2.2.2.2
  have in6 : ∀ w ∈ u_ws RX6 TX6 6, w ∈ wsX11_contentRefusal := fun _ h => List.mem_cons_of_mem _ (List.mem_append_right _ h)
  have in11 : ∀ w ∈ u_ws RX11 TX11 11, w ∈ wsX11_contentRefusal := fun _ h => List.mem_cons_of_mem _ (List.mem_append_left _ (List.mem_append_right _ h))
  have hl : lv_has ls 3 [(0, .ref (E.2.1 96)), (1, .int a1), (2, .int a2)] := hl
  unfold wX11_contentRefusal at hw
  refine lv_iload_n hx hb dX11_contentRefusal_0 rfl (lv_at hl 1 rfl) ?_
  refine z_ci (va_runS (rest := []) hF.1 (kX11_isShelf l E Z a1  hw _) (va_cwS 1 hts gX11_contentRefusal_X11_isShelf rfl rfl rfl hS_yX11_isShelf ⟨Nat.le_trans (Nat.le_of_ble_eq_true rfl) hfr, Nat.le_trans (Nat.le_of_ble_eq_true rfl) hlo⟩) (z_preS hF hG) rfl rfl hl.1 rfl (lv_room (Nat.le_of_ble_eq_true rfl)) dX11_contentRefusal_1 ⟨Nat.zero_le _, Nat.zero_le _⟩) hG (fun r2 Z1 H locs hw hG => ?_)
  refine lv_if_ne (tgt := 9) hx hb dX11_contentRefusal_4 (by decide) (fun c3 => ?_) (fun c3 => ?_)
  · replace hw := hw.1 c3
    refine lv_aload_n hx hb dX11_contentRefusal_9 rfl (lv_at hl 0 rfl) ?_
    refine z_get hF hG 96 (by decide) z_gs rfl in11 5 (by decide) (List.mem_of_getElem? (i := 1) rfl) rfl rfl dX11_contentRefusal_10 ?_
    refine lv_iload_n hx hb dX11_contentRefusal_13 rfl (lv_at hl 1 rfl) ?_
    obtain ⟨q4, hw⟩ := hw
    refine z_aald hF hG 91 2 (by decide) z_shelves rfl q4 rfl dX11_contentRefusal_14 ?_
    refine z_get hF hG (60 + (a1 : Int32).toNatClampNeg) (zc_sh (z_ib q4)) (z_sh (z_ib q4)) rfl in6 0 (by decide) (List.mem_of_getElem? (i := 2) rfl) rfl rfl dX11_contentRefusal_15 ?_
    refine lv_if_ne (tgt := 24) hx hb dX11_contentRefusal_18 (by decide) (fun c5 => ?_) (fun c5 => ?_)
    · replace hw := hw.1 c5
      refine lv_aload_n hx hb dX11_contentRefusal_24 rfl (lv_at hl 0 rfl) ?_
      refine z_get hF hG 96 (by decide) z_gs rfl in11 5 (by decide) (List.mem_of_getElem? (i := 1) rfl) rfl rfl dX11_contentRefusal_25 ?_
      refine lv_iload_n hx hb dX11_contentRefusal_28 rfl (lv_at hl 1 rfl) ?_
      obtain ⟨q6, hw⟩ := hw
      refine z_aald hF hG 91 2 (by decide) z_shelves rfl q6 rfl dX11_contentRefusal_29 ?_
      refine z_get hF hG (60 + (a1 : Int32).toNatClampNeg) (zc_sh (z_ib q6)) (z_sh (z_ib q6)) rfl in6 0 (by decide) (List.mem_of_getElem? (i := 2) rfl) rfl rfl dX11_contentRefusal_30 ?_
      refine lv_iload_n hx hb dX11_contentRefusal_33 rfl (lv_at hl 2 rfl) ?_
      refine lv_icmp_ne (tgt := 41) hx hb dX11_contentRefusal_34 (by decide) (fun c7 => ?_) (fun c7 => ?_)
      · replace hw := hw.1 c7
        refine lv_bipush (v := (-12)) hx hb dX11_contentRefusal_41 (by decide) ?_
        exact z_iret hF hG hr hlk hw dX11_contentRefusal_43
      replace hw := hw.2 (fun h => h c7)
      refine lv_iconst (v := 0) hx hb dX11_contentRefusal_37 (by decide) ?_
      refine lv_goto (tgt := 43) hx hb dX11_contentRefusal_38 (by decide) ?_
      exact z_iret hF hG hr hlk hw dX11_contentRefusal_43
    replace hw := hw.2 (fun h => h c5)
    refine lv_bipush (v := (-11)) hx hb dX11_contentRefusal_21 (by decide) ?_
    exact z_iret hF hG hr hlk hw dX11_contentRefusal_23
  replace hw := hw.2 (fun h => h c3)
  refine lv_iconst (v := (-1)) hx hb dX11_contentRefusal_7 (by decide) ?_
  exact z_iret hF hG hr hlk hw dX11_contentRefusal_8
theorem hS_yX11_contentRefusal : yX11_contentRefusal.cls ≠ "java/lang/invoke/MethodHandle" ∧ yX11_contentRefusal.cls ≠ "java/lang/invoke/VarHandle" ∧ (parseMethodDescriptor yX11_contentRefusal.desc).map (fun d => d.parameters.length) = some 2 := by decide +kernel
set_option maxHeartbeats 4000000 in
set_option maxRecDepth 100000 in
theorem kX11_rowRefusal (l : Launch) (E : zE) (Z : zS) (a1 : Int32) {K : Int32 → zS → Prop} (hw : wX11_rowRefusal a1 Z K) : zCi l yX11_rowRefusal wsX11_rowRefusal ({ frames := 3, cells := 0, slots := 0, locals := 64 } : Room) E Z [.ref (E.2.1 96), .int a1] K := by
  refine z_bodyi (cc := cX11_rowRefusal) (nL := 2) (ret := .int) (by decide) rfl (Nat.le_of_ble_eq_true rfl) ?_
  intro p e R s m args below meth c ls hfr hlo hF hr hlk hG hl
  have hx := hF.1.1
  have hb := hF.1.2.1
  have hown := hF.1.2.2.2.1
  have hts := hF.1.2.2.2.2
  have hl : lv_has ls 2 [(0, .ref (E.2.1 96)), (1, .int a1)] := hl
  unfold wX11_rowRefusal at hw
  refine lv_aload_n hx hb dX11_rowRefusal_0 rfl (lv_at hl 0 rfl) ?_
  refine lv_iload_n hx hb dX11_rowRefusal_1 rfl (lv_at hl 1 rfl) ?_
  refine lv_iconst (v := 2) hx hb dX11_rowRefusal_2 (by decide) ?_
  refine z_ci (va_runV (rest := []) hF.1 (kX11_contentRefusal l E Z a1 2  hw _) (cwV 2 hts gX11_rowRefusal_X11_contentRefusal rfl rfl rfl ⟨rfl, hS_yX11_contentRefusal⟩ ⟨Nat.le_trans (Nat.le_of_ble_eq_true rfl) hfr, Nat.le_trans (Nat.le_of_ble_eq_true rfl) hlo⟩) (z_preV hF hG 96 (by decide) z_gs rfl) rfl rfl hl.1 rfl (lv_room (Nat.le_of_ble_eq_true rfl)) dX11_rowRefusal_3 ⟨Nat.zero_le _, Nat.zero_le _⟩) hG (fun r2 Z1 H locs hw hG => ?_)
  exact z_iret hF hG hr hlk hw dX11_rowRefusal_6
theorem hS_yX11_rowRefusal : yX11_rowRefusal.cls ≠ "java/lang/invoke/MethodHandle" ∧ yX11_rowRefusal.cls ≠ "java/lang/invoke/VarHandle" ∧ (parseMethodDescriptor yX11_rowRefusal.desc).map (fun d => d.parameters.length) = some 1 := by decide +kernel
theorem hS_yX8_firstBadByte : yX8_firstBadByte.cls ≠ "java/lang/invoke/MethodHandle" ∧ yX8_firstBadByte.cls ≠ "java/lang/invoke/VarHandle" ∧ (parseMethodDescriptor yX8_firstBadByte.desc).map (fun d => d.parameters.length) = some 1 := by decide +kernel
theorem hS_yX3_becomes : yX3_becomes.cls ≠ "java/lang/invoke/MethodHandle" ∧ yX3_becomes.cls ≠ "java/lang/invoke/VarHandle" ∧ (parseMethodDescriptor yX3_becomes.desc).map (fun d => d.parameters.length) = some 1 := by decide +kernel
theorem hS_yX8_isDone : yX8_isDone.cls ≠ "java/lang/invoke/MethodHandle" ∧ yX8_isDone.cls ≠ "java/lang/invoke/VarHandle" ∧ (parseMethodDescriptor yX8_isDone.desc).map (fun d => d.parameters.length) = some 4 := by decide +kernel
theorem hS_yX8_lengthFrom : yX8_lengthFrom.cls ≠ "java/lang/invoke/MethodHandle" ∧ yX8_lengthFrom.cls ≠ "java/lang/invoke/VarHandle" ∧ (parseMethodDescriptor yX8_lengthFrom.desc).map (fun d => d.parameters.length) = some 1 := by decide +kernel
set_option maxHeartbeats 4000000 in
set_option maxRecDepth 100000 in
theorem kX11_text (l : Launch) (E : zE) (Z : zS) (a1 : Int32) {K : Int32 → zS → Prop} (hw : wX11_text a1 Z K) : zCi l yX11_text wsX11_text ({ frames := 7, cells := 0, slots := 0, locals := 146 } : Room) E Z [.ref (E.2.1 96), .int a1] K := by
  refine z_bodyi (cc := cX11_text) (nL := 8) (ret := .int) (by decide) rfl (Nat.le_of_ble_eq_true rfl) ?_
  intro p e R s m args below meth c ls hfr hlo hF hr hlk hG hl
  have hx := hF.1.1
  have hb := hF.1.2.1
  have hown := hF.1.2.2.2.1
  have hts := hF.1.2.2.2.2
  have in6 : ∀ w ∈ u_ws RX6 TX6 6, w ∈ wsX11_text := fun _ h => List.mem_cons_of_mem _ (List.mem_append_left _ (List.mem_append_left _ (List.mem_append_right _ h)))
  have in11 : ∀ w ∈ u_ws RX11 TX11 11, w ∈ wsX11_text := fun _ h => List.mem_cons_of_mem _ (List.mem_append_left _ (List.mem_append_left _ (List.mem_append_left _ (List.mem_append_right _ h))))
  have hl : lv_has ls 8 [(0, .ref (E.2.1 96)), (1, .int a1)] := hl
  have J134 : ∀ (x5 : Int32) (Z : zS) (H : Heap) (locs : List Loc) (ls : Array Slot), zG E Z s H locs → lv_has ls 8 [(0, .ref (E.2.1 96)), (5, .int x5)] → wX11_text_134 a1 x5 Z K → W p l e R s m args below meth c H locs 0 0 (zQi E K below args s) (F0 m 134 ls []) := by
    intro x5 Z H locs ls hG hl hw
    unfold wX11_text_134 at hw
    refine lv_aload_n hx hb dX11_text_134 rfl (lv_at hl 0 rfl) ?_
    refine z_get hF hG 96 (by decide) z_gs rfl in11 1 (by decide) (List.mem_of_getElem? (i := 4) rfl) rfl rfl dX11_text_135 ?_
    refine lv_aload_n hx hb dX11_text_138 rfl (lv_at hl 0 rfl) ?_
    refine z_get hF hG 96 (by decide) z_gs rfl in11 2 (by decide) (List.mem_of_getElem? (i := 3) rfl) rfl rfl dX11_text_139 ?_
    refine z_cv (va_runV (rest := []) hF.1 (kX3_becomes l E Z 0 1 (by decide) (by decide) hw _) (cwV 1 hts gX11_text_X3_becomes rfl rfl rfl ⟨rfl, hS_yX3_becomes⟩ ⟨Nat.le_trans (Nat.le_of_ble_eq_true rfl) hfr, Nat.le_trans (Nat.le_of_ble_eq_true rfl) hlo⟩) (z_preV hF hG (54 + 0) (zc_pl (by decide)) (z_pl (by decide)) rfl) rfl rfl hl.1 rfl (lv_room (Nat.le_of_ble_eq_true rfl)) dX11_text_142 ⟨Nat.zero_le _, Nat.zero_le _⟩) hG (fun Z26 H locs hw hG => ?_)
    refine lv_iload hx hb dX11_text_145 (lv_at hl 1 rfl) ?_
    exact z_iret hF hG hr hlk hw dX11_text_147
  have S69 : ∀ (L69 : Nat → Int32 → Int32 → Int32 → zS → Prop), (∀ (v3 : Nat) (x5 : Int32) (x6 : Int32) (x7 : Int32) (Z : zS) (H : Heap) (locs : List Loc) (ls : Array Slot), v3 < 8 → zG E Z s H locs → lv_has ls 8 [(0, .ref (E.2.1 96)), (3, .ref (E.2.1 (60 + v3))), (5, .int x5), (6, .int x6), (7, .int x7)] → L69 v3 x5 x6 x7 Z → W p l e R s m args below meth c H locs 0 0 (zQi E K below args s) (F0 m 69 ls [])) → ∀ (v3 : Nat) (x5 : Int32) (x6 : Int32) (x7 : Int32) (Z : zS) (H : Heap) (locs : List Loc) (ls : Array Slot), v3 < 8 → zG E Z s H locs → lv_has ls 8 [(0, .ref (E.2.1 96)), (3, .ref (E.2.1 (60 + v3))), (5, .int x5), (6, .int x6), (7, .int x7)] → wX11_text_69b L69 a1 v3 x5 x6 x7 Z K → W p l e R s m args below meth c H locs 0 0 (zQi E K below args s) (F0 m 69 ls []) := by
    intro L69 ih69
    intro v3 x5 x6 x7 Z H locs ls hv3 hG hl hw
    unfold wX11_text_69b at hw
    refine lv_iload hx hb dX11_text_69 (lv_at hl 4 rfl) ?_
    refine lv_aload_n hx hb dX11_text_71 rfl (lv_at hl 1 rfl) ?_
    refine z_get hF hG (60 + v3) (zc_sh hv3) (z_sh hv3) rfl in6 4 (by decide) (List.mem_of_getElem? (i := 5) rfl) rfl rfl dX11_text_72 ?_
    refine lv_icmp_ge (tgt := 134) hx hb dX11_text_75 (by decide) (fun c14 => ?_) (fun c14 => ?_)
    · replace hw := hw.1 c14
      exact J134 x5 Z _ _ _ hG (lv_sub hl [0, 2] rfl) hw
    replace hw := hw.2 c14
    refine lv_iload hx hb dX11_text_78 (lv_at hl 3 rfl) ?_
    refine lv_aload_n hx hb dX11_text_80 rfl (lv_at hl 1 rfl) ?_
    refine z_get hF hG (60 + v3) (zc_sh hv3) (z_sh hv3) rfl in6 4 (by decide) (List.mem_of_getElem? (i := 5) rfl) rfl rfl dX11_text_81 ?_
    refine lv_icmp_ge (tgt := 134) hx hb dX11_text_84 (by decide) (fun c15 => ?_) (fun c15 => ?_)
    · replace hw := hw.1 c15
      exact J134 x5 Z _ _ _ hG (lv_sub hl [0, 2] rfl) hw
    replace hw := hw.2 c15
    refine lv_aload_n hx hb dX11_text_87 rfl (lv_at hl 1 rfl) ?_
    refine lv_iload hx hb dX11_text_88 (lv_at hl 3 rfl) ?_
    refine lv_aload_n hx hb dX11_text_90 rfl (lv_at hl 0 rfl) ?_
    refine z_get hF hG 96 (by decide) z_gs rfl in11 2 (by decide) (List.mem_of_getElem? (i := 3) rfl) rfl rfl dX11_text_91 ?_
    refine lv_aload_n hx hb dX11_text_94 rfl (lv_at hl 0 rfl) ?_
    refine z_get hF hG 96 (by decide) z_gs rfl in11 0 (by decide) (List.mem_of_getElem? (i := 6) rfl) rfl rfl dX11_text_95 ?_
    refine z_ci (va_runS (rest := []) hF.1 (kX8_isDone l E Z v3 x6 1 hv3 (by decide) hw _) (va_cwS 4 hts gX11_text_X8_isDone rfl rfl rfl hS_yX8_isDone ⟨Nat.le_trans (Nat.le_of_ble_eq_true rfl) hfr, Nat.le_trans (Nat.le_of_ble_eq_true rfl) hlo⟩) (z_preS hF hG) rfl rfl hl.1 rfl (lv_room (Nat.le_of_ble_eq_true rfl)) dX11_text_98 ⟨Nat.zero_le _, Nat.zero_le _⟩) hG (fun r17 Z16 H locs hw hG => ?_)
    refine lv_if_ne (tgt := 111) hx hb dX11_text_101 (by decide) (fun c18 => ?_) (fun c18 => ?_)
    · replace hw := hw.1 c18
      obtain ⟨y19, ey19⟩ : ∃ y : Int32, y = x5 + 1 := ⟨_, rfl⟩
      replace hw := hw y19 ey19
      refine lv_iinc (v := y19) (lv' := [(5, .int y19), (0, .ref (E.2.1 96)), (3, .ref (E.2.1 (60 + v3))), (6, .int x6), (7, .int x7)]) hx hb dX11_text_111 hl (k := 2) rfl (by rw [ey19]; rfl) (by decide) rfl (fun ls hl => ?_)
      refine lv_iload hx hb dX11_text_114 (lv_at hl 3 rfl) ?_
      refine lv_aload_n hx hb dX11_text_116 rfl (lv_at hl 2 rfl) ?_
      refine lv_iload hx hb dX11_text_117 (lv_at hl 3 rfl) ?_
      refine z_ci (va_runV (rest := [.int x6]) hF.1 (kX6_at l E Z16 v3 x6 hv3 hw _) (cwV 1 hts gX11_text_X6_at rfl rfl rfl ⟨rfl, hS_yX6_at⟩ ⟨Nat.le_trans (Nat.le_of_ble_eq_true rfl) hfr, Nat.le_trans (Nat.le_of_ble_eq_true rfl) hlo⟩) (z_preV hF hG (60 + v3) (zc_sh hv3) (z_sh hv3) rfl) rfl rfl hl.1 rfl (lv_room (Nat.le_of_ble_eq_true rfl)) dX11_text_119 ⟨Nat.zero_le _, Nat.zero_le _⟩) hG (fun r21 Z20 H locs hw hG => ?_)
      refine z_ci (va_runS (rest := [.int x6]) hF.1 (kX8_lengthFrom l E Z20 r21  hw _) (va_cwS 1 hts gX11_text_X8_lengthFrom rfl rfl rfl hS_yX8_lengthFrom ⟨Nat.le_trans (Nat.le_of_ble_eq_true rfl) hfr, Nat.le_trans (Nat.le_of_ble_eq_true rfl) hlo⟩) (z_preS hF hG) rfl rfl hl.1 rfl (lv_room (Nat.le_of_ble_eq_true rfl)) dX11_text_122 ⟨Nat.zero_le _, Nat.zero_le _⟩) hG (fun r23 Z22 H locs hw hG => ?_)
      refine lv_iadd hx hb dX11_text_125 ?_
      refine lv_topi (fun y24 ey24 => ?_)
      replace hw := hw y24 ey24
      refine lv_istore (lv' := [(6, .int y24), (5, .int y19), (0, .ref (E.2.1 96)), (3, .ref (E.2.1 (60 + v3))), (7, .int x7)]) hx hb dX11_text_126 hl (by decide) rfl (fun ls hl => ?_)
      obtain ⟨y25, ey25⟩ : ∃ y : Int32, y = x7 + 1 := ⟨_, rfl⟩
      replace hw := hw y25 ey25
      refine lv_iinc (v := y25) (lv' := [(7, .int y25), (6, .int y24), (5, .int y19), (0, .ref (E.2.1 96)), (3, .ref (E.2.1 (60 + v3)))]) hx hb dX11_text_128 hl (k := 4) rfl (by rw [ey25]; rfl) (by decide) rfl (fun ls hl => ?_)
      refine lv_goto (tgt := 69) hx hb dX11_text_131 (by decide) ?_
      exact ih69 v3 y19 y24 y25 Z22 _ _ _ hv3 hG (lv_sub hl [3, 4, 2, 1, 0] rfl) hw
    replace hw := hw.2 (fun h => h c18)
    refine lv_sipush (v := (-2000)) hx hb dX11_text_104 (by decide) ?_
    refine lv_iload hx hb dX11_text_107 (lv_at hl 3 rfl) ?_
    refine lv_isub hx hb dX11_text_109 ?_
    exact z_iret hF hG hr hlk hw dX11_text_110
  have J69 : ∀ n : Nat, ∀ (v3 : Nat) (x5 : Int32) (x6 : Int32) (x7 : Int32) (Z : zS) (H : Heap) (locs : List Loc) (ls : Array Slot), v3 < 8 → zG E Z s H locs → lv_has ls 8 [(0, .ref (E.2.1 96)), (3, .ref (E.2.1 (60 + v3))), (5, .int x5), (6, .int x6), (7, .int x7)] → wX11_text_69 a1 K n v3 x5 x6 x7 Z → W p l e R s m args below meth c H locs 0 0 (zQi E K below args s) (F0 m 69 ls []) := by
    intro n
    induction n with
    | zero => intro v3 x5 x6 x7 Z H locs ls hv3 hG hl hw; exact hw.elim
    | succ n ih => intro v3 x5 x6 x7 Z H locs ls hv3 hG hl hw; exact S69 _ ih v3 x5 x6 x7 Z H locs ls hv3 hG hl hw
  unfold wX11_text at hw
  refine lv_aload_n hx hb dX11_text_0 rfl (lv_at hl 0 rfl) ?_
  refine lv_iload_n hx hb dX11_text_1 rfl (lv_at hl 1 rfl) ?_
  refine z_ci (va_runV (rest := []) hF.1 (kX11_rowRefusal l E Z a1  hw _) (cwV 1 hts gX11_text_X11_rowRefusal rfl rfl rfl ⟨rfl, hS_yX11_rowRefusal⟩ ⟨Nat.le_trans (Nat.le_of_ble_eq_true rfl) hfr, Nat.le_trans (Nat.le_of_ble_eq_true rfl) hlo⟩) (z_preV hF hG 96 (by decide) z_gs rfl) rfl rfl hl.1 rfl (lv_room (Nat.le_of_ble_eq_true rfl)) dX11_text_2 ⟨Nat.zero_le _, Nat.zero_le _⟩) hG (fun r2 Z1 H locs hw hG => ?_)
  refine lv_istore_n (lv' := [(2, .int r2), (0, .ref (E.2.1 96)), (1, .int a1)]) hx hb dX11_text_5 rfl hl (by decide) rfl (fun ls hl => ?_)
  refine lv_iload_n hx hb dX11_text_6 rfl (lv_at hl 0 rfl) ?_
  refine lv_if_eq (tgt := 12) hx hb dX11_text_7 (by decide) (fun c3 => ?_) (fun c3 => ?_)
  · replace hw := hw.1 c3
    refine lv_aload_n hx hb dX11_text_12 rfl (lv_at hl 1 rfl) ?_
    refine z_get hF hG 96 (by decide) z_gs rfl in11 5 (by decide) (List.mem_of_getElem? (i := 1) rfl) rfl rfl dX11_text_13 ?_
    refine lv_iload_n hx hb dX11_text_16 rfl (lv_at hl 2 rfl) ?_
    obtain ⟨q4, hw⟩ := hw
    refine z_aald hF hG 91 2 (by decide) z_shelves rfl q4 rfl dX11_text_17 ?_
    refine z_topo (fun vv5 evv5 => ?_)
    replace hw := hw vv5 evv5
    have hvv5 : vv5 < 8 := by rw [evv5]; exact (z_ib q4)
    refine lv_astore_n (lv' := [(3, .ref (E.2.1 (60 + vv5))), (2, .int r2), (0, .ref (E.2.1 96)), (1, .int a1)]) hx hb dX11_text_18 rfl hl (by decide) rfl (fun ls hl => ?_)
    refine lv_aload_n hx hb dX11_text_19 rfl (lv_at hl 0 rfl) ?_
    refine z_get hF hG (60 + vv5) (zc_sh hvv5) (z_sh hvv5) rfl in6 3 (by decide) (List.mem_of_getElem? (i := 2) rfl) rfl rfl dX11_text_20 ?_
    refine lv_if_eq (tgt := 29) hx hb dX11_text_23 (by decide) (fun c6 => ?_) (fun c6 => ?_)
    · replace hw := hw.1 c6
      refine lv_aload_n hx hb dX11_text_29 rfl (lv_at hl 0 rfl) ?_
      refine z_ci (va_runS (rest := []) hF.1 (kX8_firstBadByte l E Z1 vv5 hvv5 hw _) (va_cwS 1 hts gX11_text_X8_firstBadByte rfl rfl rfl hS_yX8_firstBadByte ⟨Nat.le_trans (Nat.le_of_ble_eq_true rfl) hfr, Nat.le_trans (Nat.le_of_ble_eq_true rfl) hlo⟩) (z_preS hF hG) rfl rfl hl.1 rfl (lv_room (Nat.le_of_ble_eq_true rfl)) dX11_text_30 ⟨Nat.zero_le _, Nat.zero_le _⟩) hG (fun r8 Z7 H locs hw hG => ?_)
      refine lv_istore (lv' := [(4, .int r8), (3, .ref (E.2.1 (60 + vv5))), (2, .int r2), (0, .ref (E.2.1 96)), (1, .int a1)]) hx hb dX11_text_33 hl (by decide) rfl (fun ls hl => ?_)
      refine lv_iload hx hb dX11_text_35 (lv_at hl 0 rfl) ?_
      refine lv_bipush (v := (-4)) hx hb dX11_text_37 (by decide) ?_
      refine lv_icmp_eq (tgt := 49) hx hb dX11_text_39 (by decide) (fun c9 => ?_) (fun c9 => ?_)
      · replace hw := hw.1 c9
        refine lv_aload_n hx hb dX11_text_49 rfl (lv_at hl 3 rfl) ?_
        refine z_get hF hG 96 (by decide) z_gs rfl in11 2 (by decide) (List.mem_of_getElem? (i := 3) rfl) rfl rfl dX11_text_50 ?_
        refine lv_aload_n hx hb dX11_text_53 rfl (lv_at hl 3 rfl) ?_
        refine z_get hF hG 96 (by decide) z_gs rfl in11 1 (by decide) (List.mem_of_getElem? (i := 4) rfl) rfl rfl dX11_text_54 ?_
        refine z_cv (va_runV (rest := []) hF.1 (kX3_becomes l E Z7 1 0 (by decide) (by decide) hw _) (cwV 1 hts gX11_text_X3_becomes rfl rfl rfl ⟨rfl, hS_yX3_becomes⟩ ⟨Nat.le_trans (Nat.le_of_ble_eq_true rfl) hfr, Nat.le_trans (Nat.le_of_ble_eq_true rfl) hlo⟩) (z_preV hF hG (54 + 1) (zc_pl (by decide)) (z_pl (by decide)) rfl) rfl rfl hl.1 rfl (lv_room (Nat.le_of_ble_eq_true rfl)) dX11_text_57 ⟨Nat.zero_le _, Nat.zero_le _⟩) hG (fun Z10 H locs hw hG => ?_)
        refine lv_iconst (v := 0) hx hb dX11_text_60 (by decide) ?_
        refine lv_topi (fun y11 ey11 => ?_)
        replace hw := hw y11 ey11
        refine lv_istore (lv' := [(5, .int y11), (4, .int r8), (3, .ref (E.2.1 (60 + vv5))), (2, .int r2), (0, .ref (E.2.1 96)), (1, .int a1)]) hx hb dX11_text_61 hl (by decide) rfl (fun ls hl => ?_)
        refine lv_iconst (v := 0) hx hb dX11_text_63 (by decide) ?_
        refine lv_topi (fun y12 ey12 => ?_)
        replace hw := hw y12 ey12
        refine lv_istore (lv' := [(6, .int y12), (5, .int y11), (4, .int r8), (3, .ref (E.2.1 (60 + vv5))), (2, .int r2), (0, .ref (E.2.1 96)), (1, .int a1)]) hx hb dX11_text_64 hl (by decide) rfl (fun ls hl => ?_)
        refine lv_iconst (v := 0) hx hb dX11_text_66 (by decide) ?_
        refine lv_topi (fun y13 ey13 => ?_)
        replace hw := hw y13 ey13
        refine lv_istore (lv' := [(7, .int y13), (6, .int y12), (5, .int y11), (4, .int r8), (3, .ref (E.2.1 (60 + vv5))), (2, .int r2), (0, .ref (E.2.1 96)), (1, .int a1)]) hx hb dX11_text_67 hl (by decide) rfl (fun ls hl => ?_)
        obtain ⟨n69, hw⟩ := hw
        exact J69 n69 vv5 y11 y12 y13 Z10 _ _ _ hvv5 hG (lv_sub hl [6, 4, 2, 1, 0] rfl) hw
      replace hw := hw.2 c9
      refine lv_sipush (v := (-1000)) hx hb dX11_text_42 (by decide) ?_
      refine lv_iload hx hb dX11_text_45 (lv_at hl 0 rfl) ?_
      refine lv_isub hx hb dX11_text_47 ?_
      exact z_iret hF hG hr hlk hw dX11_text_48
    replace hw := hw.2 c6
    refine lv_bipush (v := (-12)) hx hb dX11_text_26 (by decide) ?_
    exact z_iret hF hG hr hlk hw dX11_text_28
  replace hw := hw.2 c3
  refine lv_iload_n hx hb dX11_text_10 rfl (lv_at hl 0 rfl) ?_
  exact z_iret hF hG hr hlk hw dX11_text_11
set_option maxHeartbeats 4000000 in
set_option maxRecDepth 100000 in
theorem kX11_server (l : Launch) (E : zE) (Z : zS) (a1 : Int32) (a2 : Int32) {K : Int32 → zS → Prop} (hw : wX11_server a1 a2 Z K) : zCi l yX11_server wsX11_server ({ frames := 3, cells := 0, slots := 0, locals := 57 } : Room) E Z [.ref (E.2.1 96), .int a1, .int a2] K := by
  refine z_bodyi (cc := cX11_server) (nL := 4) (ret := .int) (by decide) rfl (Nat.le_of_ble_eq_true rfl) ?_
  intro p e R s m args below meth c ls hfr hlo hF hr hlk hG hl
  have hx := hF.1.1
  have hb := hF.1.2.1
  have hown := hF.1.2.2.2.1
  have hts := hF.1.2.2.2.2
  have in0 : ∀ w ∈ u_ws RX0 TX0 2, w ∈ wsX11_server := fun _ h => List.mem_cons_of_mem _ (List.mem_append_left _ (List.mem_append_left _ (List.mem_append_left _ (List.mem_append_left _ (List.mem_append_left _ (List.mem_append_right _ h))))))
  have in1 : ∀ w ∈ u_ws RX1 TX1 2, w ∈ wsX11_server := fun _ h => List.mem_cons_of_mem _ (List.mem_append_left _ (List.mem_append_left _ (List.mem_append_left _ (List.mem_append_left _ (List.mem_append_right _ h)))))
  have in2 : ∀ w ∈ u_ws RX2 TX2 2, w ∈ wsX11_server := fun _ h => List.mem_cons_of_mem _ (List.mem_append_left _ (List.mem_append_left _ (List.mem_append_left _ (List.mem_append_right _ h))))
  have in3 : ∀ w ∈ u_ws RX3 TX3 5, w ∈ wsX11_server := fun _ h => List.mem_cons_of_mem _ (List.mem_append_left _ (List.mem_append_left _ (List.mem_append_left _ (List.mem_append_left _ (List.mem_append_left _ (List.mem_append_left _ (List.mem_append_left _ (List.mem_append_right _ h))))))))
  have in4 : ∀ w ∈ u_ws RX4 TX4 2, w ∈ wsX11_server := fun _ h => List.mem_cons_of_mem _ (List.mem_append_left _ (List.mem_append_left _ (List.mem_append_right _ h)))
  have in5 : ∀ w ∈ u_ws RX5 TX5 15, w ∈ wsX11_server := fun _ h => List.mem_cons_of_mem _ (List.mem_append_left _ (List.mem_append_left _ (List.mem_append_left _ (List.mem_append_left _ (List.mem_append_left _ (List.mem_append_left _ (List.mem_append_right _ h)))))))
  have in7 : ∀ w ∈ u_ws RX7 TX7 2, w ∈ wsX11_server := fun _ h => List.mem_cons_of_mem _ (List.mem_append_left _ (List.mem_append_right _ h))
  have in9 : ∀ w ∈ u_ws RX9 TX9 2, w ∈ wsX11_server := fun _ h => List.mem_cons_of_mem _ (List.mem_append_right _ h)
  have in11 : ∀ w ∈ u_ws RX11 TX11 11, w ∈ wsX11_server := fun _ h => List.mem_cons_of_mem _ (List.mem_append_left _ (List.mem_append_left _ (List.mem_append_left _ (List.mem_append_left _ (List.mem_append_left _ (List.mem_append_left _ (List.mem_append_left _ (List.mem_append_left _ (List.mem_append_right _ h)))))))))
  have hl : lv_has ls 4 [(0, .ref (E.2.1 96)), (1, .int a1), (2, .int a2)] := hl
  unfold wX11_server at hw
  refine lv_aload_n hx hb dX11_server_0 rfl (lv_at hl 0 rfl) ?_
  refine z_get hF hG 96 (by decide) z_gs rfl in11 1 (by decide) (List.mem_of_getElem? (i := 1) rfl) rfl rfl dX11_server_1 ?_
  refine lv_iload_n hx hb dX11_server_4 rfl (lv_at hl 1 rfl) ?_
  refine z_ci (va_runV (rest := []) hF.1 (kX3_has l E Z 0 a1 (by decide) hw _) (cwV 1 hts gX11_server_X3_has rfl rfl rfl ⟨rfl, hS_yX3_has⟩ ⟨Nat.le_trans (Nat.le_of_ble_eq_true rfl) hfr, Nat.le_trans (Nat.le_of_ble_eq_true rfl) hlo⟩) (z_preV hF hG (54 + 0) (zc_pl (by decide)) (z_pl (by decide)) rfl) rfl rfl hl.1 rfl (lv_room (Nat.le_of_ble_eq_true rfl)) dX11_server_5 ⟨Nat.zero_le _, Nat.zero_le _⟩) hG (fun r2 Z1 H locs hw hG => ?_)
  refine lv_if_ne (tgt := 13) hx hb dX11_server_8 (by decide) (fun c3 => ?_) (fun c3 => ?_)
  · replace hw := hw.1 c3
    refine lv_aload_n hx hb dX11_server_13 rfl (lv_at hl 0 rfl) ?_
    refine z_get hF hG 96 (by decide) z_gs rfl in11 1 (by decide) (List.mem_of_getElem? (i := 1) rfl) rfl rfl dX11_server_14 ?_
    refine z_get hF hG (54 + 0) (zc_pl (by decide)) (z_pl (by decide)) rfl in3 0 (by decide) (List.mem_of_getElem? (i := 2) rfl) rfl rfl dX11_server_17 ?_
    refine lv_iload_n hx hb dX11_server_20 rfl (lv_at hl 1 rfl) ?_
    obtain ⟨q4, hw⟩ := hw
    refine z_aald hF hG (57 + 0) 1 (zc_pr (by decide)) (z_pr (by decide)) rfl q4 rfl dX11_server_21 ?_
    refine z_topr (fun vv5 evv5 => ?_)
    replace hw := hw vv5 evv5
    have hvv5 : vv5 < 18 := by rw [evv5]; exact (z_vb (by decide) q4)
    refine lv_astore_n (lv' := [(3, .ref (E.2.1 vv5)), (0, .ref (E.2.1 96)), (1, .int a1), (2, .int a2)]) hx hb dX11_server_22 rfl hl (by decide) rfl (fun ls hl => ?_)
    refine lv_iload_n hx hb dX11_server_23 rfl (lv_at hl 3 rfl) ?_
    refine lv_topi (fun y6 ey6 => ?_)
    replace hw := hw y6 ey6
    by_cases c7 : y6 = 0
    · replace hw := hw.1 c7
      refine lv_tableIn (tgt := 88) (off := 64) hx hb dX11_server_24 (by rw [c7]; decide) (by rw [c7]; decide) (by rw [c7]; decide) (by decide) ?_
      refine lv_aload_n hx hb dX11_server_88 rfl (lv_at hl 0 rfl) ?_
      refine z_get (v := .ref (E.2.1 (84 + ((Z1 vv5 0) : Int32).toNatClampNeg))) hF hG vv5 (zc_sv hvv5) (z_sv hvv5) rfl in5 0 (by decide) (List.mem_of_getElem? (i := 3) rfl) rfl rfl dX11_server_89 ?_
      refine z_num hF hG hw.1 in0 in1 in2 in4 in7 in9 (List.mem_of_getElem? (i := 4) rfl) dX11_server_92 ?_
      replace hw := hw.2
      exact z_iret hF hG hr hlk hw dX11_server_95
    replace hw := hw.2 c7
    by_cases c8 : y6 = 1
    · replace hw := hw.1 c8
      refine lv_tableIn (tgt := 96) (off := 72) hx hb dX11_server_24 (by rw [c8]; decide) (by rw [c8]; decide) (by rw [c8]; decide) (by decide) ?_
      refine lv_aload_n hx hb dX11_server_96 rfl (lv_at hl 0 rfl) ?_
      refine z_get hF hG vv5 (zc_sv hvv5) (z_sv hvv5) rfl in5 1 (by decide) (List.mem_of_getElem? (i := 5) rfl) rfl rfl dX11_server_97 ?_
      exact z_iret hF hG hr hlk hw dX11_server_100
    replace hw := hw.2 c8
    by_cases c9 : y6 = 2
    · replace hw := hw.1 c9
      refine lv_tableIn (tgt := 101) (off := 77) hx hb dX11_server_24 (by rw [c9]; decide) (by rw [c9]; decide) (by rw [c9]; decide) (by decide) ?_
      refine lv_aload_n hx hb dX11_server_101 rfl (lv_at hl 0 rfl) ?_
      refine z_get hF hG vv5 (zc_sv hvv5) (z_sv hvv5) rfl in5 2 (by decide) (List.mem_of_getElem? (i := 6) rfl) rfl rfl dX11_server_102 ?_
      exact z_iret hF hG hr hlk hw dX11_server_105
    replace hw := hw.2 c9
    by_cases c10 : y6 = 3
    · replace hw := hw.1 c10
      refine lv_tableIn (tgt := 106) (off := 82) hx hb dX11_server_24 (by rw [c10]; decide) (by rw [c10]; decide) (by rw [c10]; decide) (by decide) ?_
      refine lv_aload_n hx hb dX11_server_106 rfl (lv_at hl 0 rfl) ?_
      refine z_get hF hG vv5 (zc_sv hvv5) (z_sv hvv5) rfl in5 3 (by decide) (List.mem_of_getElem? (i := 7) rfl) rfl rfl dX11_server_107 ?_
      exact z_iret hF hG hr hlk hw dX11_server_110
    replace hw := hw.2 c10
    by_cases c11 : y6 = 4
    · replace hw := hw.1 c11
      refine lv_tableIn (tgt := 111) (off := 87) hx hb dX11_server_24 (by rw [c11]; decide) (by rw [c11]; decide) (by rw [c11]; decide) (by decide) ?_
      refine lv_aload_n hx hb dX11_server_111 rfl (lv_at hl 0 rfl) ?_
      refine z_get hF hG vv5 (zc_sv hvv5) (z_sv hvv5) rfl in5 4 (by decide) (List.mem_of_getElem? (i := 8) rfl) rfl rfl dX11_server_112 ?_
      exact z_iret hF hG hr hlk hw dX11_server_115
    replace hw := hw.2 c11
    by_cases c12 : y6 = 5
    · replace hw := hw.1 c12
      refine lv_tableIn (tgt := 116) (off := 92) hx hb dX11_server_24 (by rw [c12]; decide) (by rw [c12]; decide) (by rw [c12]; decide) (by decide) ?_
      refine lv_aload_n hx hb dX11_server_116 rfl (lv_at hl 0 rfl) ?_
      refine z_get hF hG vv5 (zc_sv hvv5) (z_sv hvv5) rfl in5 5 (by decide) (List.mem_of_getElem? (i := 9) rfl) rfl rfl dX11_server_117 ?_
      refine lv_sipush (v := 10000) hx hb dX11_server_120 (by decide) ?_
      refine lv_iadd hx hb dX11_server_123 ?_
      exact z_iret hF hG hr hlk hw dX11_server_124
    replace hw := hw.2 c12
    by_cases c13 : y6 = 6
    · replace hw := hw.1 c13
      refine lv_tableIn (tgt := 125) (off := 101) hx hb dX11_server_24 (by rw [c13]; decide) (by rw [c13]; decide) (by rw [c13]; decide) (by decide) ?_
      refine lv_aload_n hx hb dX11_server_125 rfl (lv_at hl 0 rfl) ?_
      refine z_get hF hG vv5 (zc_sv hvv5) (z_sv hvv5) rfl in5 6 (by decide) (List.mem_of_getElem? (i := 10) rfl) rfl rfl dX11_server_126 ?_
      exact z_iret hF hG hr hlk hw dX11_server_129
    replace hw := hw.2 c13
    by_cases c14 : y6 = 7
    · replace hw := hw.1 c14
      refine lv_tableIn (tgt := 130) (off := 106) hx hb dX11_server_24 (by rw [c14]; decide) (by rw [c14]; decide) (by rw [c14]; decide) (by decide) ?_
      refine lv_aload_n hx hb dX11_server_130 rfl (lv_at hl 0 rfl) ?_
      refine z_get hF hG vv5 (zc_sv hvv5) (z_sv hvv5) rfl in5 7 (by decide) (List.mem_of_getElem? (i := 11) rfl) rfl rfl dX11_server_131 ?_
      exact z_iret hF hG hr hlk hw dX11_server_134
    replace hw := hw.2 c14
    by_cases c15 : y6 = 8
    · replace hw := hw.1 c15
      refine lv_tableIn (tgt := 135) (off := 111) hx hb dX11_server_24 (by rw [c15]; decide) (by rw [c15]; decide) (by rw [c15]; decide) (by decide) ?_
      refine lv_aload_n hx hb dX11_server_135 rfl (lv_at hl 0 rfl) ?_
      refine z_get hF hG vv5 (zc_sv hvv5) (z_sv hvv5) rfl in5 10 (by decide) (List.mem_of_getElem? (i := 12) rfl) rfl rfl dX11_server_136 ?_
      exact z_iret hF hG hr hlk hw dX11_server_139
    replace hw := hw.2 c15
    by_cases c16 : y6 = 9
    · replace hw := hw.1 c16
      refine lv_tableIn (tgt := 140) (off := 116) hx hb dX11_server_24 (by rw [c16]; decide) (by rw [c16]; decide) (by rw [c16]; decide) (by decide) ?_
      refine lv_aload_n hx hb dX11_server_140 rfl (lv_at hl 0 rfl) ?_
      refine z_get hF hG vv5 (zc_sv hvv5) (z_sv hvv5) rfl in5 8 (by decide) (List.mem_of_getElem? (i := 13) rfl) rfl rfl dX11_server_141 ?_
      exact z_iret hF hG hr hlk hw dX11_server_144
    replace hw := hw.2 c16
    by_cases c17 : y6 = 10
    · replace hw := hw.1 c17
      refine lv_tableIn (tgt := 145) (off := 121) hx hb dX11_server_24 (by rw [c17]; decide) (by rw [c17]; decide) (by rw [c17]; decide) (by decide) ?_
      refine lv_aload_n hx hb dX11_server_145 rfl (lv_at hl 0 rfl) ?_
      refine z_get hF hG vv5 (zc_sv hvv5) (z_sv hvv5) rfl in5 9 (by decide) (List.mem_of_getElem? (i := 14) rfl) rfl rfl dX11_server_146 ?_
      exact z_iret hF hG hr hlk hw dX11_server_149
    replace hw := hw.2 c17
    by_cases c18 : y6 = 11
    · replace hw := hw.1 c18
      refine lv_tableIn (tgt := 150) (off := 126) hx hb dX11_server_24 (by rw [c18]; decide) (by rw [c18]; decide) (by rw [c18]; decide) (by decide) ?_
      refine lv_aload_n hx hb dX11_server_150 rfl (lv_at hl 0 rfl) ?_
      refine z_get (v := .ref (E.2.1 (84 + ((Z1 vv5 0) : Int32).toNatClampNeg))) hF hG vv5 (zc_sv hvv5) (z_sv hvv5) rfl in5 0 (by decide) (List.mem_of_getElem? (i := 3) rfl) rfl rfl dX11_server_151 ?_
      refine lv_aload_n hx hb dX11_server_154 rfl (lv_at hl 0 rfl) ?_
      refine lv_aload_n hx hb dX11_server_155 rfl (lv_at hl 1 rfl) ?_
      refine z_get hF hG 96 (by decide) z_gs rfl in11 1 (by decide) (List.mem_of_getElem? (i := 1) rfl) rfl rfl dX11_server_156 ?_
      refine z_ci (va_runV (rest := [.ref (E.2.1 vv5), .ref (E.2.1 (84 + ((Z1 vv5 0) : Int32).toNatClampNeg))]) hF.1 (kX3_loadOfAll l E Z1 0 (by decide) hw _) (cwV 0 hts gX11_server_X3_loadOfAll rfl rfl rfl ⟨rfl, hS_yX3_loadOfAll⟩ ⟨Nat.le_trans (Nat.le_of_ble_eq_true rfl) hfr, Nat.le_trans (Nat.le_of_ble_eq_true rfl) hlo⟩) (z_preV hF hG (54 + 0) (zc_pl (by decide)) (z_pl (by decide)) rfl) rfl rfl hl.1 rfl (lv_room (Nat.le_of_ble_eq_true rfl)) dX11_server_159 ⟨Nat.zero_le _, Nat.zero_le _⟩) hG (fun r20 Z19 H locs hw hG => ?_)
      obtain ⟨K1, hK1, hw⟩ : ∃ K1, _ = K1 ∧ d_pays ((Z1 vv5 0)) vv5 r20 Z19 K1 := ⟨_, rfl, hw⟩
      have hrun : va_Run p l e R s m args below meth c H locs 0 0 0 0 (F0 m 162 ls [.int r20, .ref (E.2.1 vv5), .ref (E.2.1 (84 + ((Z1 vv5 0) : Int32).toNatClampNeg))]) [] (va_Qi K1 (zB E) (zA E H.size) ([.ref (E.2.1 (84 + ((Z1 vv5 0) : Int32).toNatClampNeg)), .ref (E.2.1 vv5), .int r20] : List Value).toArray) (zA E H.size) := by
        rcases hw.1 with h | h | h | h | h | h
        · exact va_runV hF.1 (kX1_pays l E Z19 ((Z1 vv5 0)) vv5 r20 hvv5 (hw.2.1 h) _) (cwV 2 hts gX11_server_X1_pays rfl rfl rfl ⟨rfl, hS_yX1_pays⟩ ⟨Nat.le_trans (Nat.le_of_ble_eq_true rfl) hfr, Nat.le_trans (Nat.le_of_ble_eq_true rfl) hlo⟩) (z_preV hF hG (84 + ((Z1 vv5 0) : Int32).toNatClampNeg) (zKi.lt hw.1) (z_k0 h) rfl) rfl rfl hl.1 rfl (lv_room (Nat.le_of_ble_eq_true rfl)) dX11_server_162 ⟨Nat.zero_le _, Nat.zero_le _⟩
        · exact va_runU hF.1 (kX0_pays l E Z19 ((Z1 vv5 0)) vv5 r20 hvv5 (hw.2.2.1 h) _) (va_cwO 2 hts gX11_server_X0_pays_u154X0 rfl rfl rfl (b0 := cX1_pays) (m0 := 3) (r0 := (some .int)) (List.mem_of_getElem? (i := 46) rfl) hS_yX1_pays ⟨Nat.le_trans (Nat.le_of_ble_eq_true rfl) hfr, Nat.le_trans (Nat.le_of_ble_eq_true rfl) hlo⟩) (z_preV hF hG (84 + ((Z1 vv5 0) : Int32).toNatClampNeg) (zKi.lt hw.1) (z_k1 h) rfl) rfl rfl hl.1 rfl (lv_room (Nat.le_of_ble_eq_true rfl)) dX11_server_162 ⟨Nat.zero_le _, Nat.zero_le _⟩
        · exact va_runU hF.1 (kX1_pays l E Z19 ((Z1 vv5 0)) vv5 r20 hvv5 (hw.2.2.2.1 h) _) (va_cwU 2 hts gX11_server_X1_pays_u154X4 rfl rfl rfl rfl hS_yX1_pays ⟨Nat.le_trans (Nat.le_of_ble_eq_true rfl) hfr, Nat.le_trans (Nat.le_of_ble_eq_true rfl) hlo⟩) (z_preV hF hG (84 + ((Z1 vv5 0) : Int32).toNatClampNeg) (zKi.lt hw.1) (z_k2 h) rfl) rfl rfl hl.1 rfl (lv_room (Nat.le_of_ble_eq_true rfl)) dX11_server_162 ⟨Nat.zero_le _, Nat.zero_le _⟩
        · exact va_runU hF.1 (kX7_pays l E Z19 ((Z1 vv5 0)) vv5 r20 hvv5 (hw.2.2.2.2.1 h) _) (va_cwO 2 hts gX11_server_X7_pays_u154X7 rfl rfl rfl (b0 := cX1_pays) (m0 := 3) (r0 := (some .int)) (List.mem_of_getElem? (i := 46) rfl) hS_yX1_pays ⟨Nat.le_trans (Nat.le_of_ble_eq_true rfl) hfr, Nat.le_trans (Nat.le_of_ble_eq_true rfl) hlo⟩) (z_preV hF hG (84 + ((Z1 vv5 0) : Int32).toNatClampNeg) (zKi.lt hw.1) (z_k3 h) rfl) rfl rfl hl.1 rfl (lv_room (Nat.le_of_ble_eq_true rfl)) dX11_server_162 ⟨Nat.zero_le _, Nat.zero_le _⟩
        · exact va_runU hF.1 (kX2_pays l E Z19 ((Z1 vv5 0)) vv5 r20 hvv5 (hw.2.2.2.2.2.1 h) _) (va_cwO 2 hts gX11_server_X2_pays_u154X2 rfl rfl rfl (b0 := cX1_pays) (m0 := 3) (r0 := (some .int)) (List.mem_of_getElem? (i := 46) rfl) hS_yX1_pays ⟨Nat.le_trans (Nat.le_of_ble_eq_true rfl) hfr, Nat.le_trans (Nat.le_of_ble_eq_true rfl) hlo⟩) (z_preV hF hG (84 + ((Z1 vv5 0) : Int32).toNatClampNeg) (zKi.lt hw.1) (z_k4 h) rfl) rfl rfl hl.1 rfl (lv_room (Nat.le_of_ble_eq_true rfl)) dX11_server_162 ⟨Nat.zero_le _, Nat.zero_le _⟩
        · exact va_runU hF.1 (kX1_pays l E Z19 ((Z1 vv5 0)) vv5 r20 hvv5 (hw.2.2.2.2.2.2 h) _) (va_cwU 2 hts gX11_server_X1_pays_u154X9 rfl rfl rfl rfl hS_yX1_pays ⟨Nat.le_trans (Nat.le_of_ble_eq_true rfl) hfr, Nat.le_trans (Nat.le_of_ble_eq_true rfl) hlo⟩) (z_preV hF hG (84 + ((Z1 vv5 0) : Int32).toNatClampNeg) (zKi.lt hw.1) (z_k5 h) rfl) rfl rfl hl.1 rfl (lv_room (Nat.le_of_ble_eq_true rfl)) dX11_server_162 ⟨Nat.zero_le _, Nat.zero_le _⟩
      subst hK1
      refine z_ci hrun hG (fun r22 Z21 H locs hw hG => ?_)
      exact z_iret hF hG hr hlk hw dX11_server_165
    replace hw := hw.2 c18
    refine lv_tableOut (tgt := 166) hx hb dX11_server_24 (by have t0 := lv_neT c7 (a := 0) (by decide); have t1 := lv_neT c8 (a := 1) (by decide); have t2 := lv_neT c9 (a := 2) (by decide); have t3 := lv_neT c10 (a := 3) (by decide); have t4 := lv_neT c11 (a := 4) (by decide); have t5 := lv_neT c12 (a := 5) (by decide); have t6 := lv_neT c13 (a := 6) (by decide); have t7 := lv_neT c14 (a := 7) (by decide); have t8 := lv_neT c15 (a := 8) (by decide); have t9 := lv_neT c16 (a := 9) (by decide); have t10 := lv_neT c17 (a := 10) (by decide); have t11 := lv_neT c18 (a := 11) (by decide); omega) (by decide) ?_
    refine lv_iconst (v := (-1)) hx hb dX11_server_166 (by decide) ?_
    exact z_iret hF hG hr hlk hw dX11_server_167
  replace hw := hw.2 (fun h => h c3)
  refine lv_iconst (v := (-1)) hx hb dX11_server_11 (by decide) ?_
  exact z_iret hF hG hr hlk hw dX11_server_12
set_option maxHeartbeats 4000000 in
set_option maxRecDepth 100000 in
theorem kX11_job (l : Launch) (E : zE) (Z : zS) (a1 : Int32) (a2 : Int32) (a3 : Int32) {K : Int32 → zS → Prop} (hw : wX11_job a1 a2 a3 Z K) : zCi l yX11_job wsX11_job ({ frames := 2, cells := 0, slots := 0, locals := 43 } : Room) E Z [.ref (E.2.1 96), .int a1, .int a2, .int a3] K := by
  refine z_bodyi (cc := cX11_job) (nL := 5) (ret := .int) (by decide) rfl (Nat.le_of_ble_eq_true rfl) ?_
  intro p e R s m args below meth c ls hfr hlo hF hr hlk hG hl
  have hx := hF.1.1
  have hb := hF.1.2.1
  have hown := hF.1.2.2.2.1
  have hts := hF.1.2.2.2.2
  have in3 : ∀ w ∈ u_ws RX3 TX3 5, w ∈ wsX11_job := fun _ h => List.mem_cons_of_mem _ (List.mem_append_left _ (List.mem_append_right _ h))
  have in5 : ∀ w ∈ u_ws RX5 TX5 15, w ∈ wsX11_job := fun _ h => List.mem_cons_of_mem _ (List.mem_append_right _ h)
  have in11 : ∀ w ∈ u_ws RX11 TX11 11, w ∈ wsX11_job := fun _ h => List.mem_cons_of_mem _ (List.mem_append_left _ (List.mem_append_left _ (List.mem_append_right _ h)))
  have hl : lv_has ls 5 [(0, .ref (E.2.1 96)), (1, .int a1), (2, .int a2), (3, .int a3)] := hl
  unfold wX11_job at hw
  refine lv_aload_n hx hb dX11_job_0 rfl (lv_at hl 0 rfl) ?_
  refine z_get hF hG 96 (by decide) z_gs rfl in11 1 (by decide) (List.mem_of_getElem? (i := 1) rfl) rfl rfl dX11_job_1 ?_
  refine lv_iload_n hx hb dX11_job_4 rfl (lv_at hl 1 rfl) ?_
  refine z_ci (va_runV (rest := []) hF.1 (kX3_has l E Z 0 a1 (by decide) hw _) (cwV 1 hts gX11_job_X3_has rfl rfl rfl ⟨rfl, hS_yX3_has⟩ ⟨Nat.le_trans (Nat.le_of_ble_eq_true rfl) hfr, Nat.le_trans (Nat.le_of_ble_eq_true rfl) hlo⟩) (z_preV hF hG (54 + 0) (zc_pl (by decide)) (z_pl (by decide)) rfl) rfl rfl hl.1 rfl (lv_room (Nat.le_of_ble_eq_true rfl)) dX11_job_5 ⟨Nat.zero_le _, Nat.zero_le _⟩) hG (fun r2 Z1 H locs hw hG => ?_)
  refine lv_if_eq (tgt := 33) hx hb dX11_job_8 (by decide) (fun c3 => ?_) (fun c3 => ?_)
  · replace hw := hw.1 c3
    refine lv_iconst (v := (-1)) hx hb dX11_job_33 (by decide) ?_
    exact z_iret hF hG hr hlk hw dX11_job_34
  replace hw := hw.2 c3
  refine lv_iload_n hx hb dX11_job_11 rfl (lv_at hl 2 rfl) ?_
  refine lv_iconst (v := 0) hx hb dX11_job_12 (by decide) ?_
  refine lv_aload_n hx hb dX11_job_13 rfl (lv_at hl 0 rfl) ?_
  refine z_get hF hG 96 (by decide) z_gs rfl in11 1 (by decide) (List.mem_of_getElem? (i := 1) rfl) rfl rfl dX11_job_14 ?_
  refine z_get hF hG (54 + 0) (zc_pl (by decide)) (z_pl (by decide)) rfl in3 0 (by decide) (List.mem_of_getElem? (i := 2) rfl) rfl rfl dX11_job_17 ?_
  refine lv_iload_n hx hb dX11_job_20 rfl (lv_at hl 1 rfl) ?_
  obtain ⟨q4, hw⟩ := hw
  refine z_aald hF hG (57 + 0) 1 (zc_pr (by decide)) (z_pr (by decide)) rfl q4 rfl dX11_job_21 ?_
  refine z_get hF hG (6 * 0 + (a1 : Int32).toNatClampNeg) (zc_sv (z_vb (by decide) q4)) (z_sv (z_vb (by decide) q4)) rfl in5 10 (by decide) (List.mem_of_getElem? (i := 3) rfl) rfl rfl dX11_job_22 ?_
  refine lv_iconst (v := 1) hx hb dX11_job_25 (by decide) ?_
  refine lv_isub hx hb dX11_job_26 ?_
  refine z_ci (va_runS (rest := []) hF.1 (kX11_within l E Z1 a2 0 (((Z1 (6 * 0 + (a1 : Int32).toNatClampNeg) 10) - 1))  hw _) (va_cwS 3 hts gX11_job_X11_within rfl rfl rfl hS_yX11_within ⟨Nat.le_trans (Nat.le_of_ble_eq_true rfl) hfr, Nat.le_trans (Nat.le_of_ble_eq_true rfl) hlo⟩) (z_preS hF hG) rfl rfl hl.1 rfl (lv_room (Nat.le_of_ble_eq_true rfl)) dX11_job_27 ⟨Nat.zero_le _, Nat.zero_le _⟩) hG (fun r6 Z5 H locs hw hG => ?_)
  refine lv_if_ne (tgt := 35) hx hb dX11_job_30 (by decide) (fun c7 => ?_) (fun c7 => ?_)
  · replace hw := hw.1 c7
    refine lv_aload_n hx hb dX11_job_35 rfl (lv_at hl 0 rfl) ?_
    refine z_get hF hG 96 (by decide) z_gs rfl in11 1 (by decide) (List.mem_of_getElem? (i := 1) rfl) rfl rfl dX11_job_36 ?_
    refine z_get hF hG (54 + 0) (zc_pl (by decide)) (z_pl (by decide)) rfl in3 0 (by decide) (List.mem_of_getElem? (i := 2) rfl) rfl rfl dX11_job_39 ?_
    refine lv_iload_n hx hb dX11_job_42 rfl (lv_at hl 1 rfl) ?_
    obtain ⟨q8, hw⟩ := hw
    refine z_aald hF hG (57 + 0) 1 (zc_pr (by decide)) (z_pr (by decide)) rfl q8 rfl dX11_job_43 ?_
    refine z_topr (fun vv9 evv9 => ?_)
    replace hw := hw vv9 evv9
    have hvv9 : vv9 < 18 := by rw [evv9]; exact (z_vb (by decide) q8)
    refine lv_astore (lv' := [(4, .ref (E.2.1 vv9)), (0, .ref (E.2.1 96)), (1, .int a1), (2, .int a2), (3, .int a3)]) hx hb dX11_job_44 hl (by decide) rfl (fun ls hl => ?_)
    refine lv_iload_n hx hb dX11_job_46 rfl (lv_at hl 4 rfl) ?_
    refine lv_topi (fun y10 ey10 => ?_)
    replace hw := hw y10 ey10
    by_cases c11 : y10 = 0
    · replace hw := hw.1 c11
      refine lv_tableIn (tgt := 76) (off := 29) hx hb dX11_job_47 (by rw [c11]; decide) (by rw [c11]; decide) (by rw [c11]; decide) (by decide) ?_
      refine lv_aload hx hb dX11_job_76 (lv_at hl 0 rfl) ?_
      refine z_get hF hG vv9 (zc_sv hvv9) (z_sv hvv9) rfl in5 11 (by decide) (List.mem_of_getElem? (i := 4) rfl) rfl rfl dX11_job_78 ?_
      refine lv_iload_n hx hb dX11_job_81 rfl (lv_at hl 3 rfl) ?_
      obtain ⟨q12, hw⟩ := hw
      refine z_iald hF hG (18 + vv9) (zc_wk hvv9) (z_wk hvv9) q12 dX11_job_82 ?_
      exact z_iret hF hG hr hlk hw dX11_job_83
    replace hw := hw.2 c11
    by_cases c13 : y10 = 1
    · replace hw := hw.1 c13
      refine lv_tableIn (tgt := 84) (off := 37) hx hb dX11_job_47 (by rw [c13]; decide) (by rw [c13]; decide) (by rw [c13]; decide) (by decide) ?_
      refine lv_aload hx hb dX11_job_84 (lv_at hl 0 rfl) ?_
      refine z_get hF hG vv9 (zc_sv hvv9) (z_sv hvv9) rfl in5 12 (by decide) (List.mem_of_getElem? (i := 5) rfl) rfl rfl dX11_job_86 ?_
      refine lv_iload_n hx hb dX11_job_89 rfl (lv_at hl 3 rfl) ?_
      obtain ⟨q14, hw⟩ := hw
      refine z_iald hF hG (36 + vv9) (zc_lk hvv9) (z_lk hvv9) q14 dX11_job_90 ?_
      exact z_iret hF hG hr hlk hw dX11_job_91
    replace hw := hw.2 c13
    by_cases c15 : y10 = 2
    · replace hw := hw.1 c15
      refine lv_tableIn (tgt := 92) (off := 45) hx hb dX11_job_47 (by rw [c15]; decide) (by rw [c15]; decide) (by rw [c15]; decide) (by decide) ?_
      refine lv_iload_n hx hb dX11_job_92 rfl (lv_at hl 3 rfl) ?_
      refine lv_if_ne (tgt := 108) hx hb dX11_job_93 (by decide) (fun c16 => ?_) (fun c16 => ?_)
      · replace hw := hw.1 c16
        refine lv_iconst (v := 0) hx hb dX11_job_108 (by decide) ?_
        exact z_iret hF hG hr hlk hw dX11_job_109
      replace hw := hw.2 (fun h => h c16)
      refine lv_aload hx hb dX11_job_96 (lv_at hl 0 rfl) ?_
      refine z_get hF hG vv9 (zc_sv hvv9) (z_sv hvv9) rfl in5 13 (by decide) (List.mem_of_getElem? (i := 6) rfl) rfl rfl dX11_job_98 ?_
      refine lv_if_eq (tgt := 108) hx hb dX11_job_101 (by decide) (fun c17 => ?_) (fun c17 => ?_)
      · replace hw := hw.1 c17
        refine lv_iconst (v := 0) hx hb dX11_job_108 (by decide) ?_
        exact z_iret hF hG hr hlk hw dX11_job_109
      replace hw := hw.2 c17
      refine lv_iconst (v := 1) hx hb dX11_job_104 (by decide) ?_
      refine lv_goto (tgt := 109) hx hb dX11_job_105 (by decide) ?_
      exact z_iret hF hG hr hlk hw dX11_job_109
    replace hw := hw.2 c15
    by_cases c18 : y10 = 3
    · replace hw := hw.1 c18
      refine lv_tableIn (tgt := 110) (off := 63) hx hb dX11_job_47 (by rw [c18]; decide) (by rw [c18]; decide) (by rw [c18]; decide) (by decide) ?_
      refine lv_iload_n hx hb dX11_job_110 rfl (lv_at hl 3 rfl) ?_
      refine lv_if_ne (tgt := 122) hx hb dX11_job_111 (by decide) (fun c19 => ?_) (fun c19 => ?_)
      · replace hw := hw.1 c19
        refine lv_bipush (v := (-4)) hx hb dX11_job_122 (by decide) ?_
        exact z_iret hF hG hr hlk hw dX11_job_124
      replace hw := hw.2 (fun h => h c19)
      refine lv_aload hx hb dX11_job_114 (lv_at hl 0 rfl) ?_
      refine z_get hF hG vv9 (zc_sv hvv9) (z_sv hvv9) rfl in5 14 (by decide) (List.mem_of_getElem? (i := 7) rfl) rfl rfl dX11_job_116 ?_
      refine lv_goto (tgt := 124) hx hb dX11_job_119 (by decide) ?_
      exact z_iret hF hG hr hlk hw dX11_job_124
    replace hw := hw.2 c18
    refine lv_tableOut (tgt := 125) hx hb dX11_job_47 (by have t0 := lv_neT c11 (a := 0) (by decide); have t1 := lv_neT c13 (a := 1) (by decide); have t2 := lv_neT c15 (a := 2) (by decide); have t3 := lv_neT c18 (a := 3) (by decide); omega) (by decide) ?_
    refine lv_iconst (v := (-1)) hx hb dX11_job_125 (by decide) ?_
    exact z_iret hF hG hr hlk hw dX11_job_126
  replace hw := hw.2 (fun h => h c7)
  refine lv_iconst (v := (-1)) hx hb dX11_job_33 (by decide) ?_
  exact z_iret hF hG hr hlk hw dX11_job_34
set_option maxHeartbeats 4000000 in
set_option maxRecDepth 100000 in
theorem kX11_sortRefusal (l : Launch) (E : zE) (Z : zS) (a1 : Int32) {K : Int32 → zS → Prop} (hw : wX11_sortRefusal a1 Z K) : zCi l yX11_sortRefusal wsX11_sortRefusal ({ frames := 3, cells := 0, slots := 0, locals := 64 } : Room) E Z [.ref (E.2.1 96), .int a1] K := by
  refine z_bodyi (cc := cX11_sortRefusal) (nL := 2) (ret := .int) (by decide) rfl (Nat.le_of_ble_eq_true rfl) ?_
  intro p e R s m args below meth c ls hfr hlo hF hr hlk hG hl
  have hx := hF.1.1
  have hb := hF.1.2.1
  have hown := hF.1.2.2.2.1
  have hts := hF.1.2.2.2.2
  have hl : lv_has ls 2 [(0, .ref (E.2.1 96)), (1, .int a1)] := hl
  unfold wX11_sortRefusal at hw
  refine lv_aload_n hx hb dX11_sortRefusal_0 rfl (lv_at hl 0 rfl) ?_
  refine lv_iload_n hx hb dX11_sortRefusal_1 rfl (lv_at hl 1 rfl) ?_
  refine lv_iconst (v := 1) hx hb dX11_sortRefusal_2 (by decide) ?_
  refine z_ci (va_runV (rest := []) hF.1 (kX11_contentRefusal l E Z a1 1  hw _) (cwV 2 hts gX11_sortRefusal_X11_contentRefusal rfl rfl rfl ⟨rfl, hS_yX11_contentRefusal⟩ ⟨Nat.le_trans (Nat.le_of_ble_eq_true rfl) hfr, Nat.le_trans (Nat.le_of_ble_eq_true rfl) hlo⟩) (z_preV hF hG 96 (by decide) z_gs rfl) rfl rfl hl.1 rfl (lv_room (Nat.le_of_ble_eq_true rfl)) dX11_sortRefusal_3 ⟨Nat.zero_le _, Nat.zero_le _⟩) hG (fun r2 Z1 H locs hw hG => ?_)
  exact z_iret hF hG hr hlk hw dX11_sortRefusal_6
theorem hS_yX11_sortRefusal : yX11_sortRefusal.cls ≠ "java/lang/invoke/MethodHandle" ∧ yX11_sortRefusal.cls ≠ "java/lang/invoke/VarHandle" ∧ (parseMethodDescriptor yX11_sortRefusal.desc).map (fun d => d.parameters.length) = some 1 := by decide +kernel
set_option maxHeartbeats 4000000 in
set_option maxRecDepth 100000 in
theorem kX11_comes (l : Launch) (E : zE) (Z : zS) (a1 : Int32) (a2 : Int32) (a3 : Int32) {K : Int32 → zS → Prop} (hw : wX11_comes a1 a2 a3 Z K) : zCi l yX11_comes wsX11_comes ({ frames := 4, cells := 0, slots := 0, locals := 85 } : Room) E Z [.ref (E.2.1 96), .int a1, .int a2, .int a3] K := by
  refine z_bodyi (cc := cX11_comes) (nL := 5) (ret := .int) (by decide) rfl (Nat.le_of_ble_eq_true rfl) ?_
  intro p e R s m args below meth c ls hfr hlo hF hr hlk hG hl
  have hx := hF.1.1
  have hb := hF.1.2.1
  have hown := hF.1.2.2.2.1
  have hts := hF.1.2.2.2.2
  have in3 : ∀ w ∈ u_ws RX3 TX3 5, w ∈ wsX11_comes := fun _ h => List.mem_cons_of_mem _ (List.mem_append_left _ (List.mem_append_left _ (List.mem_append_right _ h)))
  have in6 : ∀ w ∈ u_ws RX6 TX6 6, w ∈ wsX11_comes := fun _ h => List.mem_cons_of_mem _ (List.mem_append_left _ (List.mem_append_right _ h))
  have in11 : ∀ w ∈ u_ws RX11 TX11 11, w ∈ wsX11_comes := fun _ h => List.mem_cons_of_mem _ (List.mem_append_left _ (List.mem_append_left _ (List.mem_append_left _ (List.mem_append_right _ h))))
  have hl : lv_has ls 5 [(0, .ref (E.2.1 96)), (1, .int a1), (2, .int a2), (3, .int a3)] := hl
  unfold wX11_comes at hw
  refine lv_iload_n hx hb dX11_comes_0 rfl (lv_at hl 2 rfl) ?_
  refine lv_iload_n hx hb dX11_comes_1 rfl (lv_at hl 3 rfl) ?_
  refine z_ci (va_runS (rest := []) hF.1 (kX11_isBudget l E Z a2 a3  hw _) (va_cwS 2 hts gX11_comes_X11_isBudget rfl rfl rfl hS_yX11_isBudget ⟨Nat.le_trans (Nat.le_of_ble_eq_true rfl) hfr, Nat.le_trans (Nat.le_of_ble_eq_true rfl) hlo⟩) (z_preS hF hG) rfl rfl hl.1 rfl (lv_room (Nat.le_of_ble_eq_true rfl)) dX11_comes_2 ⟨Nat.zero_le _, Nat.zero_le _⟩) hG (fun r2 Z1 H locs hw hG => ?_)
  refine lv_if_ne (tgt := 10) hx hb dX11_comes_5 (by decide) (fun c3 => ?_) (fun c3 => ?_)
  · replace hw := hw.1 c3
    refine lv_aload_n hx hb dX11_comes_10 rfl (lv_at hl 0 rfl) ?_
    refine lv_iload_n hx hb dX11_comes_11 rfl (lv_at hl 1 rfl) ?_
    refine z_ci (va_runV (rest := []) hF.1 (kX11_sortRefusal l E Z1 a1  hw _) (cwV 1 hts gX11_comes_X11_sortRefusal rfl rfl rfl ⟨rfl, hS_yX11_sortRefusal⟩ ⟨Nat.le_trans (Nat.le_of_ble_eq_true rfl) hfr, Nat.le_trans (Nat.le_of_ble_eq_true rfl) hlo⟩) (z_preV hF hG 96 (by decide) z_gs rfl) rfl rfl hl.1 rfl (lv_room (Nat.le_of_ble_eq_true rfl)) dX11_comes_12 ⟨Nat.zero_le _, Nat.zero_le _⟩) hG (fun r5 Z4 H locs hw hG => ?_)
    refine lv_istore (lv' := [(4, .int r5), (0, .ref (E.2.1 96)), (1, .int a1), (2, .int a2), (3, .int a3)]) hx hb dX11_comes_15 hl (by decide) rfl (fun ls hl => ?_)
    refine lv_iload hx hb dX11_comes_17 (lv_at hl 0 rfl) ?_
    refine lv_if_eq (tgt := 25) hx hb dX11_comes_19 (by decide) (fun c6 => ?_) (fun c6 => ?_)
    · replace hw := hw.1 c6
      refine lv_aload_n hx hb dX11_comes_25 rfl (lv_at hl 1 rfl) ?_
      refine z_get hF hG 96 (by decide) z_gs rfl in11 1 (by decide) (List.mem_of_getElem? (i := 1) rfl) rfl rfl dX11_comes_26 ?_
      refine z_get hF hG (54 + 0) (zc_pl (by decide)) (z_pl (by decide)) rfl in3 1 (by decide) (List.mem_of_getElem? (i := 2) rfl) rfl rfl dX11_comes_29 ?_
      refine lv_bipush (v := 6) hx hb dX11_comes_32 (by decide) ?_
      refine lv_icmp_lt (tgt := 40) hx hb dX11_comes_34 (by decide) (fun c7 => ?_) (fun c7 => ?_)
      · replace hw := hw.1 c7
        refine lv_aload_n hx hb dX11_comes_40 rfl (lv_at hl 1 rfl) ?_
        refine z_get hF hG 96 (by decide) z_gs rfl in11 1 (by decide) (List.mem_of_getElem? (i := 1) rfl) rfl rfl dX11_comes_41 ?_
        refine lv_aload_n hx hb dX11_comes_44 rfl (lv_at hl 1 rfl) ?_
        refine z_get hF hG 96 (by decide) z_gs rfl in11 5 (by decide) (List.mem_of_getElem? (i := 3) rfl) rfl rfl dX11_comes_45 ?_
        refine lv_iload_n hx hb dX11_comes_48 rfl (lv_at hl 2 rfl) ?_
        obtain ⟨q8, hw⟩ := hw
        refine z_aald hF hG 91 2 (by decide) z_shelves rfl q8 rfl dX11_comes_49 ?_
        refine z_get (v := .ref (E.2.1 (84 + ((Z4 (60 + (a1 : Int32).toNatClampNeg) 1) : Int32).toNatClampNeg))) hF hG (60 + (a1 : Int32).toNatClampNeg) (zc_sh (z_ib q8)) (z_sh (z_ib q8)) rfl in6 1 (by decide) (List.mem_of_getElem? (i := 4) rfl) rfl rfl dX11_comes_50 ?_
        refine lv_aload_n hx hb dX11_comes_53 rfl (lv_at hl 1 rfl) ?_
        refine z_get hF hG 96 (by decide) z_gs rfl in11 5 (by decide) (List.mem_of_getElem? (i := 3) rfl) rfl rfl dX11_comes_54 ?_
        refine lv_iload_n hx hb dX11_comes_57 rfl (lv_at hl 2 rfl) ?_
        obtain ⟨q9, hw⟩ := hw
        refine z_aald hF hG 91 2 (by decide) z_shelves rfl q9 rfl dX11_comes_58 ?_
        refine z_get hF hG (60 + (a1 : Int32).toNatClampNeg) (zc_sh (z_ib q9)) (z_sh (z_ib q9)) rfl in6 2 (by decide) (List.mem_of_getElem? (i := 5) rfl) rfl rfl dX11_comes_59 ?_
        refine lv_iload_n hx hb dX11_comes_62 rfl (lv_at hl 3 rfl) ?_
        refine lv_iload_n hx hb dX11_comes_63 rfl (lv_at hl 4 rfl) ?_
        refine z_cv (va_runV (rest := []) hF.1 (kX3_addServer l E Z4 0 ((Z4 (60 + (a1 : Int32).toNatClampNeg) 1)) ((Z4 (60 + (a1 : Int32).toNatClampNeg) 2)) a2 a3 (by decide) hw _) (cwV 4 hts gX11_comes_X3_addServer rfl rfl rfl ⟨rfl, hS_yX3_addServer⟩ ⟨Nat.le_trans (Nat.le_of_ble_eq_true rfl) hfr, Nat.le_trans (Nat.le_of_ble_eq_true rfl) hlo⟩) (z_preV hF hG (54 + 0) (zc_pl (by decide)) (z_pl (by decide)) rfl) rfl rfl hl.1 rfl (lv_room (Nat.le_of_ble_eq_true rfl)) dX11_comes_64 ⟨Nat.zero_le _, Nat.zero_le _⟩) hG (fun Z10 H locs hw hG => ?_)
        refine lv_aload_n hx hb dX11_comes_67 rfl (lv_at hl 1 rfl) ?_
        refine z_get hF hG 96 (by decide) z_gs rfl in11 1 (by decide) (List.mem_of_getElem? (i := 1) rfl) rfl rfl dX11_comes_68 ?_
        refine z_get hF hG (54 + 0) (zc_pl (by decide)) (z_pl (by decide)) rfl in3 1 (by decide) (List.mem_of_getElem? (i := 2) rfl) rfl rfl dX11_comes_71 ?_
        refine lv_iconst (v := 1) hx hb dX11_comes_74 (by decide) ?_
        refine lv_isub hx hb dX11_comes_75 ?_
        exact z_iret hF hG hr hlk hw dX11_comes_76
      replace hw := hw.2 c7
      refine lv_bipush (v := (-2)) hx hb dX11_comes_37 (by decide) ?_
      exact z_iret hF hG hr hlk hw dX11_comes_39
    replace hw := hw.2 c6
    refine lv_iload hx hb dX11_comes_22 (lv_at hl 0 rfl) ?_
    exact z_iret hF hG hr hlk hw dX11_comes_24
  replace hw := hw.2 (fun h => h c3)
  refine lv_iconst (v := (-1)) hx hb dX11_comes_8 (by decide) ?_
  exact z_iret hF hG hr hlk hw dX11_comes_9
set_option maxHeartbeats 4000000 in
set_option maxRecDepth 100000 in
theorem kX11_sends (l : Launch) (E : zE) (Z : zS) (a1 : Int32) (a2 : Int32) (a3 : Int32) {K : Int32 → zS → Prop} (hw : wX11_sends a1 a2 a3 Z K) : zCi l yX11_sends wsX11_sends ({ frames := 3, cells := 0, slots := 0, locals := 66 } : Room) E Z [.ref (E.2.1 96), .int a1, .int a2, .int a3] K := by
  refine z_bodyi (cc := cX11_sends) (nL := 5) (ret := .int) (by decide) rfl (Nat.le_of_ble_eq_true rfl) ?_
  intro p e R s m args below meth c ls hfr hlo hF hr hlk hG hl
  have hx := hF.1.1
  have hb := hF.1.2.1
  have hown := hF.1.2.2.2.1
  have hts := hF.1.2.2.2.2
  have in3 : ∀ w ∈ u_ws RX3 TX3 5, w ∈ wsX11_sends := fun _ h => List.mem_cons_of_mem _ (List.mem_append_left _ (List.mem_append_right _ h))
  have in5 : ∀ w ∈ u_ws RX5 TX5 15, w ∈ wsX11_sends := fun _ h => List.mem_cons_of_mem _ (List.mem_append_right _ h)
  have in11 : ∀ w ∈ u_ws RX11 TX11 11, w ∈ wsX11_sends := fun _ h => List.mem_cons_of_mem _ (List.mem_append_left _ (List.mem_append_left _ (List.mem_append_right _ h)))
  have hl : lv_has ls 5 [(0, .ref (E.2.1 96)), (1, .int a1), (2, .int a2), (3, .int a3)] := hl
  unfold wX11_sends at hw
  refine lv_aload_n hx hb dX11_sends_0 rfl (lv_at hl 0 rfl) ?_
  refine z_get hF hG 96 (by decide) z_gs rfl in11 1 (by decide) (List.mem_of_getElem? (i := 1) rfl) rfl rfl dX11_sends_1 ?_
  refine lv_iload_n hx hb dX11_sends_4 rfl (lv_at hl 1 rfl) ?_
  refine lv_iload_n hx hb dX11_sends_5 rfl (lv_at hl 2 rfl) ?_
  refine lv_iload_n hx hb dX11_sends_6 rfl (lv_at hl 3 rfl) ?_
  refine z_ci (va_runV (rest := []) hF.1 (kX3_sendingRefusal l E Z 0 a1 a2 a3 (by decide) hw _) (cwV 3 hts gX11_sends_X3_sendingRefusal rfl rfl rfl ⟨rfl, hS_yX3_sendingRefusal⟩ ⟨Nat.le_trans (Nat.le_of_ble_eq_true rfl) hfr, Nat.le_trans (Nat.le_of_ble_eq_true rfl) hlo⟩) (z_preV hF hG (54 + 0) (zc_pl (by decide)) (z_pl (by decide)) rfl) rfl rfl hl.1 rfl (lv_room (Nat.le_of_ble_eq_true rfl)) dX11_sends_7 ⟨Nat.zero_le _, Nat.zero_le _⟩) hG (fun r2 Z1 H locs hw hG => ?_)
  refine lv_istore (lv' := [(4, .int r2), (0, .ref (E.2.1 96)), (1, .int a1), (2, .int a2), (3, .int a3)]) hx hb dX11_sends_10 hl (by decide) rfl (fun ls hl => ?_)
  refine lv_iload hx hb dX11_sends_12 (lv_at hl 0 rfl) ?_
  refine lv_if_eq (tgt := 20) hx hb dX11_sends_14 (by decide) (fun c3 => ?_) (fun c3 => ?_)
  · replace hw := hw.1 c3
    refine lv_aload_n hx hb dX11_sends_20 rfl (lv_at hl 1 rfl) ?_
    refine z_get hF hG 96 (by decide) z_gs rfl in11 1 (by decide) (List.mem_of_getElem? (i := 1) rfl) rfl rfl dX11_sends_21 ?_
    refine z_get hF hG (54 + 0) (zc_pl (by decide)) (z_pl (by decide)) rfl in3 0 (by decide) (List.mem_of_getElem? (i := 2) rfl) rfl rfl dX11_sends_24 ?_
    refine lv_iload_n hx hb dX11_sends_27 rfl (lv_at hl 2 rfl) ?_
    obtain ⟨q4, hw⟩ := hw
    refine z_aald hF hG (57 + 0) 1 (zc_pr (by decide)) (z_pr (by decide)) rfl q4 rfl dX11_sends_28 ?_
    refine lv_iload_n hx hb dX11_sends_29 rfl (lv_at hl 3 rfl) ?_
    refine lv_iload_n hx hb dX11_sends_30 rfl (lv_at hl 4 rfl) ?_
    refine lv_aload_n hx hb dX11_sends_31 rfl (lv_at hl 1 rfl) ?_
    refine z_get hF hG 96 (by decide) z_gs rfl in11 1 (by decide) (List.mem_of_getElem? (i := 1) rfl) rfl rfl dX11_sends_32 ?_
    refine z_get hF hG (54 + 0) (zc_pl (by decide)) (z_pl (by decide)) rfl in3 2 (by decide) (List.mem_of_getElem? (i := 3) rfl) rfl rfl dX11_sends_35 ?_
    refine z_cv (va_runV (rest := []) hF.1 (kX5_takeJob l E Z1 ((6 * 0 + (a1 : Int32).toNatClampNeg)) a2 a3 ((Z1 (54 + 0) 2)) (z_vb (by decide) q4) hw _) (cwV 3 hts gX11_sends_X5_takeJob rfl rfl rfl ⟨rfl, hS_yX5_takeJob⟩ ⟨Nat.le_trans (Nat.le_of_ble_eq_true rfl) hfr, Nat.le_trans (Nat.le_of_ble_eq_true rfl) hlo⟩) (z_preV hF hG (6 * 0 + (a1 : Int32).toNatClampNeg) (zc_sv (z_vb (by decide) q4)) (z_sv (z_vb (by decide) q4)) rfl) rfl rfl hl.1 rfl (lv_room (Nat.le_of_ble_eq_true rfl)) dX11_sends_38 ⟨Nat.zero_le _, Nat.zero_le _⟩) hG (fun Z5 H locs hw hG => ?_)
    refine lv_aload_n hx hb dX11_sends_41 rfl (lv_at hl 1 rfl) ?_
    refine z_get hF hG 96 (by decide) z_gs rfl in11 1 (by decide) (List.mem_of_getElem? (i := 1) rfl) rfl rfl dX11_sends_42 ?_
    refine z_get hF hG (54 + 0) (zc_pl (by decide)) (z_pl (by decide)) rfl in3 0 (by decide) (List.mem_of_getElem? (i := 2) rfl) rfl rfl dX11_sends_45 ?_
    refine lv_iload_n hx hb dX11_sends_48 rfl (lv_at hl 2 rfl) ?_
    obtain ⟨q6, hw⟩ := hw
    refine z_aald hF hG (57 + 0) 1 (zc_pr (by decide)) (z_pr (by decide)) rfl q6 rfl dX11_sends_49 ?_
    refine z_get hF hG (6 * 0 + (a1 : Int32).toNatClampNeg) (zc_sv (z_vb (by decide) q6)) (z_sv (z_vb (by decide) q6)) rfl in5 10 (by decide) (List.mem_of_getElem? (i := 4) rfl) rfl rfl dX11_sends_50 ?_
    exact z_iret hF hG hr hlk hw dX11_sends_53
  replace hw := hw.2 c3
  refine lv_iload hx hb dX11_sends_17 (lv_at hl 0 rfl) ?_
  exact z_iret hF hG hr hlk hw dX11_sends_19
set_option maxHeartbeats 4000000 in
set_option maxRecDepth 100000 in
theorem kX11_drops (l : Launch) (E : zE) (Z : zS) (a1 : Int32) {K : Int32 → zS → Prop} (hw : wX11_drops a1 Z K) : zCi l yX11_drops wsX11_drops ({ frames := 2, cells := 0, slots := 0, locals := 43 } : Room) E Z [.ref (E.2.1 96), .int a1] K := by
  refine z_bodyi (cc := cX11_drops) (nL := 3) (ret := .int) (by decide) rfl (Nat.le_of_ble_eq_true rfl) ?_
  intro p e R s m args below meth c ls hfr hlo hF hr hlk hG hl
  have hx := hF.1.1
  have hb := hF.1.2.1
  have hown := hF.1.2.2.2.1
  have hts := hF.1.2.2.2.2
  have in3 : ∀ w ∈ u_ws RX3 TX3 5, w ∈ wsX11_drops := fun _ h => List.mem_cons_of_mem _ (List.mem_append_left _ (List.mem_append_right _ h))
  have in5 : ∀ w ∈ u_ws RX5 TX5 15, w ∈ wsX11_drops := fun _ h => List.mem_cons_of_mem _ (List.mem_append_right _ h)
  have in11 : ∀ w ∈ u_ws RX11 TX11 11, w ∈ wsX11_drops := fun _ h => List.mem_cons_of_mem _ (List.mem_append_left _ (List.mem_append_left _ (List.mem_append_right _ h)))
  have hl : lv_has ls 3 [(0, .ref (E.2.1 96)), (1, .int a1)] := hl
  unfold wX11_drops at hw
  refine lv_aload_n hx hb dX11_drops_0 rfl (lv_at hl 0 rfl) ?_
  refine z_get hF hG 96 (by decide) z_gs rfl in11 1 (by decide) (List.mem_of_getElem? (i := 1) rfl) rfl rfl dX11_drops_1 ?_
  refine lv_iload_n hx hb dX11_drops_4 rfl (lv_at hl 1 rfl) ?_
  refine z_ci (va_runV (rest := []) hF.1 (kX3_has l E Z 0 a1 (by decide) hw _) (cwV 1 hts gX11_drops_X3_has rfl rfl rfl ⟨rfl, hS_yX3_has⟩ ⟨Nat.le_trans (Nat.le_of_ble_eq_true rfl) hfr, Nat.le_trans (Nat.le_of_ble_eq_true rfl) hlo⟩) (z_preV hF hG (54 + 0) (zc_pl (by decide)) (z_pl (by decide)) rfl) rfl rfl hl.1 rfl (lv_room (Nat.le_of_ble_eq_true rfl)) dX11_drops_5 ⟨Nat.zero_le _, Nat.zero_le _⟩) hG (fun r2 Z1 H locs hw hG => ?_)
  refine lv_if_ne (tgt := 13) hx hb dX11_drops_8 (by decide) (fun c3 => ?_) (fun c3 => ?_)
  · replace hw := hw.1 c3
    refine lv_aload_n hx hb dX11_drops_13 rfl (lv_at hl 0 rfl) ?_
    refine z_get hF hG 96 (by decide) z_gs rfl in11 1 (by decide) (List.mem_of_getElem? (i := 1) rfl) rfl rfl dX11_drops_14 ?_
    refine z_get hF hG (54 + 0) (zc_pl (by decide)) (z_pl (by decide)) rfl in3 0 (by decide) (List.mem_of_getElem? (i := 2) rfl) rfl rfl dX11_drops_17 ?_
    refine lv_iload_n hx hb dX11_drops_20 rfl (lv_at hl 1 rfl) ?_
    obtain ⟨q4, hw⟩ := hw
    refine z_aald hF hG (57 + 0) 1 (zc_pr (by decide)) (z_pr (by decide)) rfl q4 rfl dX11_drops_21 ?_
    refine z_get hF hG (6 * 0 + (a1 : Int32).toNatClampNeg) (zc_sv (z_vb (by decide) q4)) (z_sv (z_vb (by decide) q4)) rfl in5 10 (by decide) (List.mem_of_getElem? (i := 3) rfl) rfl rfl dX11_drops_22 ?_
    refine lv_topi (fun y5 ey5 => ?_)
    replace hw := hw y5 ey5
    refine lv_istore_n (lv' := [(2, .int y5), (0, .ref (E.2.1 96)), (1, .int a1)]) hx hb dX11_drops_25 rfl hl (by decide) rfl (fun ls hl => ?_)
    refine lv_aload_n hx hb dX11_drops_26 rfl (lv_at hl 1 rfl) ?_
    refine z_get hF hG 96 (by decide) z_gs rfl in11 1 (by decide) (List.mem_of_getElem? (i := 1) rfl) rfl rfl dX11_drops_27 ?_
    refine z_get hF hG (54 + 0) (zc_pl (by decide)) (z_pl (by decide)) rfl in3 0 (by decide) (List.mem_of_getElem? (i := 2) rfl) rfl rfl dX11_drops_30 ?_
    refine lv_iload_n hx hb dX11_drops_33 rfl (lv_at hl 2 rfl) ?_
    obtain ⟨q6, hw⟩ := hw
    refine z_aald hF hG (57 + 0) 1 (zc_pr (by decide)) (z_pr (by decide)) rfl q6 rfl dX11_drops_34 ?_
    refine z_cv (va_runV (rest := []) hF.1 (kX5_dropJobs l E Z1 ((6 * 0 + (a1 : Int32).toNatClampNeg)) (z_vb (by decide) q6) hw _) (cwV 0 hts gX11_drops_X5_dropJobs rfl rfl rfl ⟨rfl, hS_yX5_dropJobs⟩ ⟨Nat.le_trans (Nat.le_of_ble_eq_true rfl) hfr, Nat.le_trans (Nat.le_of_ble_eq_true rfl) hlo⟩) (z_preV hF hG (6 * 0 + (a1 : Int32).toNatClampNeg) (zc_sv (z_vb (by decide) q6)) (z_sv (z_vb (by decide) q6)) rfl) rfl rfl hl.1 rfl (lv_room (Nat.le_of_ble_eq_true rfl)) dX11_drops_35 ⟨Nat.zero_le _, Nat.zero_le _⟩) hG (fun Z7 H locs hw hG => ?_)
    refine lv_iload_n hx hb dX11_drops_38 rfl (lv_at hl 0 rfl) ?_
    exact z_iret hF hG hr hlk hw dX11_drops_39
  replace hw := hw.2 (fun h => h c3)
  refine lv_iconst (v := (-1)) hx hb dX11_drops_11 (by decide) ?_
  exact z_iret hF hG hr hlk hw dX11_drops_12
theorem hS_yX3_lateOfAll : yX3_lateOfAll.cls ≠ "java/lang/invoke/MethodHandle" ∧ yX3_lateOfAll.cls ≠ "java/lang/invoke/VarHandle" ∧ (parseMethodDescriptor yX3_lateOfAll.desc).map (fun d => d.parameters.length) = some 0 := by decide +kernel
set_option maxHeartbeats 4000000 in
set_option maxRecDepth 100000 in
theorem kX11_ticks (l : Launch) (E : zE) (Z : zS) (a1 : Int32) {K : Int32 → zS → Prop} (hw : wX11_ticks a1 Z K) : zCi l yX11_ticks wsX11_ticks ({ frames := 6, cells := 0, slots := 0, locals := 122 } : Room) E Z [.ref (E.2.1 96), .int a1] K := by
  refine z_bodyi (cc := cX11_ticks) (nL := 3) (ret := .int) (by decide) rfl (Nat.le_of_ble_eq_true rfl) ?_
  intro p e R s m args below meth c ls hfr hlo hF hr hlk hG hl
  have hx := hF.1.1
  have hb := hF.1.2.1
  have hown := hF.1.2.2.2.1
  have hts := hF.1.2.2.2.2
  have in11 : ∀ w ∈ u_ws RX11 TX11 11, w ∈ wsX11_ticks := fun _ h => List.mem_cons_of_mem _ (List.mem_append_left _ (List.mem_append_left _ (List.mem_append_right _ h)))
  have hl : lv_has ls 3 [(0, .ref (E.2.1 96)), (1, .int a1)] := hl
  unfold wX11_ticks at hw
  refine lv_aload_n hx hb dX11_ticks_0 rfl (lv_at hl 0 rfl) ?_
  refine z_get hF hG 96 (by decide) z_gs rfl in11 1 (by decide) (List.mem_of_getElem? (i := 1) rfl) rfl rfl dX11_ticks_1 ?_
  refine lv_iload_n hx hb dX11_ticks_4 rfl (lv_at hl 1 rfl) ?_
  refine z_ci (va_runV (rest := []) hF.1 (kX3_tickingRefusal l E Z 0 a1 (by decide) hw _) (cwV 1 hts gX11_ticks_X3_tickingRefusal rfl rfl rfl ⟨rfl, hS_yX3_tickingRefusal⟩ ⟨Nat.le_trans (Nat.le_of_ble_eq_true rfl) hfr, Nat.le_trans (Nat.le_of_ble_eq_true rfl) hlo⟩) (z_preV hF hG (54 + 0) (zc_pl (by decide)) (z_pl (by decide)) rfl) rfl rfl hl.1 rfl (lv_room (Nat.le_of_ble_eq_true rfl)) dX11_ticks_5 ⟨Nat.zero_le _, Nat.zero_le _⟩) hG (fun r2 Z1 H locs hw hG => ?_)
  refine lv_istore_n (lv' := [(2, .int r2), (0, .ref (E.2.1 96)), (1, .int a1)]) hx hb dX11_ticks_8 rfl hl (by decide) rfl (fun ls hl => ?_)
  refine lv_iload_n hx hb dX11_ticks_9 rfl (lv_at hl 0 rfl) ?_
  refine lv_if_eq (tgt := 15) hx hb dX11_ticks_10 (by decide) (fun c3 => ?_) (fun c3 => ?_)
  · replace hw := hw.1 c3
    refine lv_aload_n hx hb dX11_ticks_15 rfl (lv_at hl 1 rfl) ?_
    refine z_get hF hG 96 (by decide) z_gs rfl in11 1 (by decide) (List.mem_of_getElem? (i := 1) rfl) rfl rfl dX11_ticks_16 ?_
    refine lv_iload_n hx hb dX11_ticks_19 rfl (lv_at hl 2 rfl) ?_
    refine z_cv (va_runV (rest := []) hF.1 (kX3_goOnFor l E Z1 0 a1 (by decide) hw _) (cwV 1 hts gX11_ticks_X3_goOnFor rfl rfl rfl ⟨rfl, hS_yX3_goOnFor⟩ ⟨Nat.le_trans (Nat.le_of_ble_eq_true rfl) hfr, Nat.le_trans (Nat.le_of_ble_eq_true rfl) hlo⟩) (z_preV hF hG (54 + 0) (zc_pl (by decide)) (z_pl (by decide)) rfl) rfl rfl hl.1 rfl (lv_room (Nat.le_of_ble_eq_true rfl)) dX11_ticks_20 ⟨Nat.zero_le _, Nat.zero_le _⟩) hG (fun Z4 H locs hw hG => ?_)
    refine lv_aload_n hx hb dX11_ticks_23 rfl (lv_at hl 1 rfl) ?_
    refine z_get hF hG 96 (by decide) z_gs rfl in11 1 (by decide) (List.mem_of_getElem? (i := 1) rfl) rfl rfl dX11_ticks_24 ?_
    refine z_ci (va_runV (rest := []) hF.1 (kX3_lateOfAll l E Z4 0 (by decide) hw _) (cwV 0 hts gX11_ticks_X3_lateOfAll rfl rfl rfl ⟨rfl, hS_yX3_lateOfAll⟩ ⟨Nat.le_trans (Nat.le_of_ble_eq_true rfl) hfr, Nat.le_trans (Nat.le_of_ble_eq_true rfl) hlo⟩) (z_preV hF hG (54 + 0) (zc_pl (by decide)) (z_pl (by decide)) rfl) rfl rfl hl.1 rfl (lv_room (Nat.le_of_ble_eq_true rfl)) dX11_ticks_27 ⟨Nat.zero_le _, Nat.zero_le _⟩) hG (fun r6 Z5 H locs hw hG => ?_)
    exact z_iret hF hG hr hlk hw dX11_ticks_30
  replace hw := hw.2 c3
  refine lv_iload_n hx hb dX11_ticks_13 rfl (lv_at hl 0 rfl) ?_
  exact z_iret hF hG hr hlk hw dX11_ticks_14
