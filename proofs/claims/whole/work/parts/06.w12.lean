set_option maxHeartbeats 4000000 in
set_option maxRecDepth 100000 in
theorem kX12_allDone (l : Launch) (E : zE) (Z : zS) {K : Int32 → zS → Prop} (hw : wX12_allDone Z K) : zCi l yX12_allDone wsX12_allDone ({ frames := 0, cells := 0, slots := 0, locals := 0 } : Room) E Z [.ref (E.2.1 97)] K := by
  refine z_bodyi (cc := cX12_allDone) (nL := 3) (ret := .int) (by decide) rfl (Nat.le_of_ble_eq_true rfl) ?_
  intro p e R s m args below meth c ls hfr hlo hF hr hlk hG hl
  have hx := hF.1.1
  have hb := hF.1.2.1
  have hown := hF.1.2.2.2.1
  have hts := hF.1.2.2.2.2
  have in12 : ∀ w ∈ u_ws RX12 TX12 22, w ∈ wsX12_allDone := fun _ h => List.mem_cons_of_mem _ (List.mem_append_right _ h)
  have hl : lv_has ls 3 [(0, .ref (E.2.1 97))] := hl
  have S4 : ∀ (L4 : Int32 → Int32 → zS → Prop), (∀ (x1 : Int32) (x2 : Int32) (Z : zS) (H : Heap) (locs : List Loc) (ls : Array Slot), zG E Z s H locs → lv_has ls 3 [(0, .ref (E.2.1 97)), (1, .int x1), (2, .int x2)] → L4 x1 x2 Z → W p l e R s m args below meth c H locs 0 0 (zQi E K below args s) (F0 m 4 ls [])) → ∀ (x1 : Int32) (x2 : Int32) (Z : zS) (H : Heap) (locs : List Loc) (ls : Array Slot), zG E Z s H locs → lv_has ls 3 [(0, .ref (E.2.1 97)), (1, .int x1), (2, .int x2)] → wX12_allDone_4b L4 x1 x2 Z K → W p l e R s m args below meth c H locs 0 0 (zQi E K below args s) (F0 m 4 ls []) := by
    intro L4 ih4
    intro x1 x2 Z H locs ls hG hl hw
    unfold wX12_allDone_4b at hw
    refine lv_iload_n hx hb dX12_allDone_4 rfl (lv_at hl 2 rfl) ?_
    refine lv_aload_n hx hb dX12_allDone_5 rfl (lv_at hl 0 rfl) ?_
    refine z_get hF hG 97 (by decide) z_md rfl in12 1 (by decide) (List.mem_of_getElem? (i := 1) rfl) rfl rfl dX12_allDone_6 ?_
    refine lv_icmp_ge (tgt := 30) hx hb dX12_allDone_9 (by decide) (fun c3 => ?_) (fun c3 => ?_)
    · replace hw := hw.1 c3
      refine lv_iload_n hx hb dX12_allDone_30 rfl (lv_at hl 1 rfl) ?_
      exact z_iret hF hG hr hlk hw dX12_allDone_31
    replace hw := hw.2 c3
    refine lv_iload_n hx hb dX12_allDone_12 rfl (lv_at hl 1 rfl) ?_
    refine lv_aload_n hx hb dX12_allDone_13 rfl (lv_at hl 0 rfl) ?_
    refine z_get hF hG 97 (by decide) z_md rfl in12 2 (by decide) (List.mem_of_getElem? (i := 2) rfl) rfl rfl dX12_allDone_14 ?_
    refine lv_bipush (v := 54) hx hb dX12_allDone_17 (by decide) ?_
    refine lv_iload_n hx hb dX12_allDone_19 rfl (lv_at hl 2 rfl) ?_
    refine lv_iadd hx hb dX12_allDone_20 ?_
    obtain ⟨q4, hw⟩ := hw
    refine z_iald hF hG 98 (by decide) z_m98 q4 dX12_allDone_21 ?_
    refine lv_iadd hx hb dX12_allDone_22 ?_
    refine lv_topi (fun y5 ey5 => ?_)
    replace hw := hw y5 ey5
    refine lv_istore_n (lv' := [(1, .int y5), (0, .ref (E.2.1 97)), (2, .int x2)]) hx hb dX12_allDone_23 rfl hl (by decide) rfl (fun ls hl => ?_)
    obtain ⟨y6, ey6⟩ : ∃ y : Int32, y = x2 + 1 := ⟨_, rfl⟩
    replace hw := hw y6 ey6
    refine lv_iinc (v := y6) (lv' := [(2, .int y6), (1, .int y5), (0, .ref (E.2.1 97))]) hx hb dX12_allDone_24 hl (k := 2) rfl (by rw [ey6]; rfl) (by decide) rfl (fun ls hl => ?_)
    refine lv_goto (tgt := 4) hx hb dX12_allDone_27 (by decide) ?_
    exact ih4 y5 y6 Z _ _ _ hG (lv_sub hl [2, 1, 0] rfl) hw
  have J4 : ∀ n : Nat, ∀ (x1 : Int32) (x2 : Int32) (Z : zS) (H : Heap) (locs : List Loc) (ls : Array Slot), zG E Z s H locs → lv_has ls 3 [(0, .ref (E.2.1 97)), (1, .int x1), (2, .int x2)] → wX12_allDone_4 K n x1 x2 Z → W p l e R s m args below meth c H locs 0 0 (zQi E K below args s) (F0 m 4 ls []) := by
    intro n
    induction n with
    | zero => intro x1 x2 Z H locs ls hG hl hw; exact hw.elim
    | succ n ih => intro x1 x2 Z H locs ls hG hl hw; exact S4 _ ih x1 x2 Z H locs ls hG hl hw
  unfold wX12_allDone at hw
  refine lv_iconst (v := 0) hx hb dX12_allDone_0 (by decide) ?_
  refine lv_topi (fun y1 ey1 => ?_)
  replace hw := hw y1 ey1
  refine lv_istore_n (lv' := [(1, .int y1), (0, .ref (E.2.1 97))]) hx hb dX12_allDone_1 rfl hl (by decide) rfl (fun ls hl => ?_)
  refine lv_iconst (v := 0) hx hb dX12_allDone_2 (by decide) ?_
  refine lv_topi (fun y2 ey2 => ?_)
  replace hw := hw y2 ey2
  refine lv_istore_n (lv' := [(2, .int y2), (1, .int y1), (0, .ref (E.2.1 97))]) hx hb dX12_allDone_3 rfl hl (by decide) rfl (fun ls hl => ?_)
  obtain ⟨n4, hw⟩ := hw
  exact J4 n4 y1 y2 Z _ _ _ hG (lv_sub hl [2, 1, 0] rfl) hw
theorem hS_yX12_allDone : yX12_allDone.cls ≠ "java/lang/invoke/MethodHandle" ∧ yX12_allDone.cls ≠ "java/lang/invoke/VarHandle" ∧ (parseMethodDescriptor yX12_allDone.desc).map (fun d => d.parameters.length) = some 0 := by decide +kernel
theorem hS_yX12_sixTimes : yX12_sixTimes.cls ≠ "java/lang/invoke/MethodHandle" ∧ yX12_sixTimes.cls ≠ "java/lang/invoke/VarHandle" ∧ (parseMethodDescriptor yX12_sixTimes.desc).map (fun d => d.parameters.length) = some 0 := by decide +kernel
set_option maxHeartbeats 4000000 in
set_option maxRecDepth 100000 in
theorem kX12_days (l : Launch) (E : zE) (Z : zS) (a1 : Int32) (a2 : Int32) (a3 : Int32) {K : Int32 → zS → Prop} (hw : wX12_days a1 a2 a3 Z K) : zCi l yX12_days wsX12_days ({ frames := 8, cells := 0, slots := 0, locals := 174 } : Room) E Z [.ref (E.2.1 97), .int a1, .int a2, .int a3] K := by
  refine z_bodyi (cc := cX12_days) (nL := 7) (ret := .int) (by decide) rfl (Nat.le_of_ble_eq_true rfl) ?_
  intro p e R s m args below meth c ls hfr hlo hF hr hlk hG hl
  have hx := hF.1.1
  have hb := hF.1.2.1
  have hown := hF.1.2.2.2.1
  have hts := hF.1.2.2.2.2
  have in12 : ∀ w ∈ u_ws RX12 TX12 22, w ∈ wsX12_days := fun _ h => List.mem_cons_of_mem _ (List.mem_append_right _ h)
  have hl : lv_has ls 7 [(0, .ref (E.2.1 97)), (1, .int a1), (2, .int a2), (3, .int a3)] := hl
  have S49 : ∀ (L49 : Int32 → Int32 → zS → Prop), (∀ (x4 : Int32) (x5 : Int32) (Z : zS) (H : Heap) (locs : List Loc) (ls : Array Slot), zG E Z s H locs → lv_has ls 7 [(0, .ref (E.2.1 97)), (1, .int a1), (3, .int a3), (4, .int x4), (5, .int x5)] → L49 x4 x5 Z → W p l e R s m args below meth c H locs 0 0 (zQi E K below args s) (F0 m 49 ls [])) → ∀ (x4 : Int32) (x5 : Int32) (Z : zS) (H : Heap) (locs : List Loc) (ls : Array Slot), zG E Z s H locs → lv_has ls 7 [(0, .ref (E.2.1 97)), (1, .int a1), (3, .int a3), (4, .int x4), (5, .int x5)] → wX12_days_49b L49 a1 a2 a3 x4 x5 Z K → W p l e R s m args below meth c H locs 0 0 (zQi E K below args s) (F0 m 49 ls []) := by
    intro L49 ih49
    have J93 : ∀ (x5 : Int32) (x6 : Int32) (s0 : Int32) (s1 : Int32) (Z : zS) (H : Heap) (locs : List Loc) (ls : Array Slot), zG E Z s H locs → lv_has ls 7 [(0, .ref (E.2.1 97)), (1, .int a1), (3, .int a3), (5, .int x5), (6, .int x6)] → wX12_days_93 L49 a1 a2 a3 x5 x6 s0 s1 Z K → W p l e R s m args below meth c H locs 0 0 (zQi E K below args s) (F0 m 93 ls [.int s0, .int s1]) := by
      intro x5 x6 s0 s1 Z H locs ls hG hl hw
      unfold wX12_days_93 at hw
      refine lv_iload hx hb dX12_days_93 (lv_at hl 4 rfl) ?_
      refine lv_isub hx hb dX12_days_95 ?_
      refine lv_iadd hx hb dX12_days_96 ?_
      refine lv_topi (fun y24 ey24 => ?_)
      replace hw := hw y24 ey24
      refine lv_istore (lv' := [(4, .int y24), (0, .ref (E.2.1 97)), (1, .int a1), (3, .int a3), (5, .int x5), (6, .int x6)]) hx hb dX12_days_97 hl (by decide) rfl (fun ls hl => ?_)
      refine lv_aload_n hx hb dX12_days_99 rfl (lv_at hl 1 rfl) ?_
      refine lv_aload_n hx hb dX12_days_100 rfl (lv_at hl 1 rfl) ?_
      refine z_get hF hG 97 (by decide) z_md rfl in12 10 (by decide) (List.mem_of_getElem? (i := 2) rfl) rfl rfl dX12_days_101 ?_
      refine z_cv (va_runV (rest := []) hF.1 (kX12_again l E Z 102 122 (by decide) (fun _ => z_m102) hw _) (cwV 1 hts gX12_days_X12_again rfl rfl rfl ⟨rfl, hS_yX12_again⟩ ⟨Nat.le_trans (Nat.le_of_ble_eq_true rfl) hfr, Nat.le_trans (Nat.le_of_ble_eq_true rfl) hlo⟩) (z_preV hF hG 97 (by decide) z_md rfl) rfl rfl hl.1 rfl (lv_room (Nat.le_of_ble_eq_true rfl)) dX12_days_104 ⟨Nat.zero_le _, Nat.zero_le _⟩) hG (fun Z25 H locs hw hG => ?_)
      obtain ⟨y26, ey26⟩ : ∃ y : Int32, y = x5 + 1 := ⟨_, rfl⟩
      replace hw := hw y26 ey26
      refine lv_iinc (v := y26) (lv' := [(5, .int y26), (4, .int y24), (0, .ref (E.2.1 97)), (1, .int a1), (3, .int a3), (6, .int x6)]) hx hb dX12_days_107 hl (k := 4) rfl (by rw [ey26]; rfl) (by decide) rfl (fun ls hl => ?_)
      refine lv_goto (tgt := 49) hx hb dX12_days_110 (by decide) ?_
      exact ih49 y24 y26 Z25 _ _ _ hG (lv_sub hl [2, 3, 4, 1, 0] rfl) hw
    have J70 : ∀ (x4 : Int32) (x5 : Int32) (s0 : Int32) (Z : zS) (H : Heap) (locs : List Loc) (ls : Array Slot), zG E Z s H locs → lv_has ls 7 [(0, .ref (E.2.1 97)), (1, .int a1), (3, .int a3), (4, .int x4), (5, .int x5)] → wX12_days_70 L49 a1 a2 a3 x4 x5 s0 Z K → W p l e R s m args below meth c H locs 0 0 (zQi E K below args s) (F0 m 70 ls [.int s0]) := by
      intro x4 x5 s0 Z H locs ls hG hl hw
      unfold wX12_days_70 at hw
      refine lv_istore (lv' := [(6, .int s0), (0, .ref (E.2.1 97)), (1, .int a1), (3, .int a3), (4, .int x4), (5, .int x5)]) hx hb dX12_days_70 hl (by decide) rfl (fun ls hl => ?_)
      refine lv_aload_n hx hb dX12_days_72 rfl (lv_at hl 1 rfl) ?_
      refine z_cv (va_runV (rest := []) hF.1 (kX12_sixTimes l E Z   hw _) (cwV 0 hts gX12_days_X12_sixTimes rfl rfl rfl ⟨rfl, hS_yX12_sixTimes⟩ ⟨Nat.le_trans (Nat.le_of_ble_eq_true rfl) hfr, Nat.le_trans (Nat.le_of_ble_eq_true rfl) hlo⟩) (z_preV hF hG 97 (by decide) z_md rfl) rfl rfl hl.1 rfl (lv_room (Nat.le_of_ble_eq_true rfl)) dX12_days_73 ⟨Nat.zero_le _, Nat.zero_le _⟩) hG (fun Z18 H locs hw hG => ?_)
      refine lv_iload hx hb dX12_days_76 (lv_at hl 4 rfl) ?_
      refine lv_iload_n hx hb dX12_days_78 rfl (lv_at hl 3 rfl) ?_
      refine lv_if_ne (tgt := 89) hx hb dX12_days_79 (by decide) (fun c19 => ?_) (fun c19 => ?_)
      · replace hw := hw.1 c19
        refine lv_aload_n hx hb dX12_days_89 rfl (lv_at hl 1 rfl) ?_
        refine z_ci (va_runV (rest := [.int x4]) hF.1 (kX12_allDone l E Z18   hw _) (cwV 0 hts gX12_days_X12_allDone rfl rfl rfl ⟨rfl, hS_yX12_allDone⟩ ⟨Nat.le_trans (Nat.le_of_ble_eq_true rfl) hfr, Nat.le_trans (Nat.le_of_ble_eq_true rfl) hlo⟩) (z_preV hF hG 97 (by decide) z_md rfl) rfl rfl hl.1 rfl (lv_room (Nat.le_of_ble_eq_true rfl)) dX12_days_90 ⟨Nat.zero_le _, Nat.zero_le _⟩) hG (fun r21 Z20 H locs hw hG => ?_)
        exact J93 x5 s0 r21 x4 Z20 _ _ _ hG (lv_sub hl [1, 2, 3, 5, 0] rfl) hw
      replace hw := hw.2 (fun h => h c19)
      refine lv_aload_n hx hb dX12_days_82 rfl (lv_at hl 1 rfl) ?_
      refine z_ci (va_runV (rest := [.int x4]) hF.1 (kX12_allLate l E Z18   hw _) (cwV 0 hts gX12_days_X12_allLate rfl rfl rfl ⟨rfl, hS_yX12_allLate⟩ ⟨Nat.le_trans (Nat.le_of_ble_eq_true rfl) hfr, Nat.le_trans (Nat.le_of_ble_eq_true rfl) hlo⟩) (z_preV hF hG 97 (by decide) z_md rfl) rfl rfl hl.1 rfl (lv_room (Nat.le_of_ble_eq_true rfl)) dX12_days_83 ⟨Nat.zero_le _, Nat.zero_le _⟩) hG (fun r23 Z22 H locs hw hG => ?_)
      refine lv_goto (tgt := 93) hx hb dX12_days_86 (by decide) ?_
      exact J93 x5 s0 r23 x4 Z22 _ _ _ hG (lv_sub hl [1, 2, 3, 5, 0] rfl) hw
    intro x4 x5 Z H locs ls hG hl hw
    unfold wX12_days_49b at hw
    refine lv_iload hx hb dX12_days_49 (lv_at hl 4 rfl) ?_
    refine lv_iload_n hx hb dX12_days_51 rfl (lv_at hl 1 rfl) ?_
    refine lv_icmp_ge (tgt := 113) hx hb dX12_days_52 (by decide) (fun c12 => ?_) (fun c12 => ?_)
    · replace hw := hw.1 c12
      refine lv_iload hx hb dX12_days_113 (lv_at hl 3 rfl) ?_
      exact z_iret hF hG hr hlk hw dX12_days_115
    replace hw := hw.2 c12
    refine lv_iload_n hx hb dX12_days_55 rfl (lv_at hl 2 rfl) ?_
    refine lv_if_ne (tgt := 66) hx hb dX12_days_56 (by decide) (fun c13 => ?_) (fun c13 => ?_)
    · replace hw := hw.1 c13
      refine lv_aload_n hx hb dX12_days_66 rfl (lv_at hl 0 rfl) ?_
      refine z_ci (va_runV (rest := []) hF.1 (kX12_allDone l E Z   hw _) (cwV 0 hts gX12_days_X12_allDone rfl rfl rfl ⟨rfl, hS_yX12_allDone⟩ ⟨Nat.le_trans (Nat.le_of_ble_eq_true rfl) hfr, Nat.le_trans (Nat.le_of_ble_eq_true rfl) hlo⟩) (z_preV hF hG 97 (by decide) z_md rfl) rfl rfl hl.1 rfl (lv_room (Nat.le_of_ble_eq_true rfl)) dX12_days_67 ⟨Nat.zero_le _, Nat.zero_le _⟩) hG (fun r15 Z14 H locs hw hG => ?_)
      exact J70 x4 x5 r15 Z14 _ _ _ hG (lv_sub hl [0, 1, 2, 3, 4] rfl) hw
    replace hw := hw.2 (fun h => h c13)
    refine lv_aload_n hx hb dX12_days_59 rfl (lv_at hl 0 rfl) ?_
    refine z_ci (va_runV (rest := []) hF.1 (kX12_allLate l E Z   hw _) (cwV 0 hts gX12_days_X12_allLate rfl rfl rfl ⟨rfl, hS_yX12_allLate⟩ ⟨Nat.le_trans (Nat.le_of_ble_eq_true rfl) hfr, Nat.le_trans (Nat.le_of_ble_eq_true rfl) hlo⟩) (z_preV hF hG 97 (by decide) z_md rfl) rfl rfl hl.1 rfl (lv_room (Nat.le_of_ble_eq_true rfl)) dX12_days_60 ⟨Nat.zero_le _, Nat.zero_le _⟩) hG (fun r17 Z16 H locs hw hG => ?_)
    refine lv_goto (tgt := 70) hx hb dX12_days_63 (by decide) ?_
    exact J70 x4 x5 r17 Z16 _ _ _ hG (lv_sub hl [0, 1, 2, 3, 4] rfl) hw
  have J49 : ∀ n : Nat, ∀ (x4 : Int32) (x5 : Int32) (Z : zS) (H : Heap) (locs : List Loc) (ls : Array Slot), zG E Z s H locs → lv_has ls 7 [(0, .ref (E.2.1 97)), (1, .int a1), (3, .int a3), (4, .int x4), (5, .int x5)] → wX12_days_49 a1 a2 a3 K n x4 x5 Z → W p l e R s m args below meth c H locs 0 0 (zQi E K below args s) (F0 m 49 ls []) := by
    intro n
    induction n with
    | zero => intro x4 x5 Z H locs ls hG hl hw; exact hw.elim
    | succ n ih => intro x4 x5 Z H locs ls hG hl hw; exact S49 _ ih x4 x5 Z H locs ls hG hl hw
  unfold wX12_days at hw
  refine lv_iload_n hx hb dX12_days_0 rfl (lv_at hl 1 rfl) ?_
  refine lv_iconst (v := 1) hx hb dX12_days_1 (by decide) ?_
  refine lv_bipush (v := 20) hx hb dX12_days_2 (by decide) ?_
  refine z_ci (va_runS (rest := []) hF.1 (kX12_within l E Z a1 1 20  hw _) (va_cwS 3 hts gX12_days_X12_within rfl rfl rfl hS_yX12_within ⟨Nat.le_trans (Nat.le_of_ble_eq_true rfl) hfr, Nat.le_trans (Nat.le_of_ble_eq_true rfl) hlo⟩) (z_preS hF hG) rfl rfl hl.1 rfl (lv_room (Nat.le_of_ble_eq_true rfl)) dX12_days_4 ⟨Nat.zero_le _, Nat.zero_le _⟩) hG (fun r2 Z1 H locs hw hG => ?_)
  refine lv_if_eq (tgt := 19) hx hb dX12_days_7 (by decide) (fun c3 => ?_) (fun c3 => ?_)
  · replace hw := hw.1 c3
    refine lv_iconst (v := (-1)) hx hb dX12_days_19 (by decide) ?_
    exact z_iret hF hG hr hlk hw dX12_days_20
  replace hw := hw.2 c3
  refine lv_iload_n hx hb dX12_days_10 rfl (lv_at hl 3 rfl) ?_
  refine lv_iconst (v := 0) hx hb dX12_days_11 (by decide) ?_
  refine lv_iconst (v := 1) hx hb dX12_days_12 (by decide) ?_
  refine z_ci (va_runS (rest := []) hF.1 (kX12_within l E Z1 a3 0 1  hw _) (va_cwS 3 hts gX12_days_X12_within rfl rfl rfl hS_yX12_within ⟨Nat.le_trans (Nat.le_of_ble_eq_true rfl) hfr, Nat.le_trans (Nat.le_of_ble_eq_true rfl) hlo⟩) (z_preS hF hG) rfl rfl hl.1 rfl (lv_room (Nat.le_of_ble_eq_true rfl)) dX12_days_13 ⟨Nat.zero_le _, Nat.zero_le _⟩) hG (fun r5 Z4 H locs hw hG => ?_)
  refine lv_if_ne (tgt := 21) hx hb dX12_days_16 (by decide) (fun c6 => ?_) (fun c6 => ?_)
  · replace hw := hw.1 c6
    refine lv_aload_n hx hb dX12_days_21 rfl (lv_at hl 0 rfl) ?_
    refine z_get hF hG 97 (by decide) z_md rfl in12 1 (by decide) (List.mem_of_getElem? (i := 1) rfl) rfl rfl dX12_days_22 ?_
    refine lv_if_ne (tgt := 30) hx hb dX12_days_25 (by decide) (fun c7 => ?_) (fun c7 => ?_)
    · replace hw := hw.1 c7
      refine lv_aload_n hx hb dX12_days_30 rfl (lv_at hl 0 rfl) ?_
      refine lv_aload_n hx hb dX12_days_31 rfl (lv_at hl 0 rfl) ?_
      refine z_get hF hG 97 (by decide) z_md rfl in12 10 (by decide) (List.mem_of_getElem? (i := 2) rfl) rfl rfl dX12_days_32 ?_
      refine z_cv (va_runV (rest := []) hF.1 (kX12_keep l E Z4 102 122 (by decide) (fun _ => z_m102) hw _) (cwV 1 hts gX12_days_X12_keep rfl rfl rfl ⟨rfl, hS_yX12_keep⟩ ⟨Nat.le_trans (Nat.le_of_ble_eq_true rfl) hfr, Nat.le_trans (Nat.le_of_ble_eq_true rfl) hlo⟩) (z_preV hF hG 97 (by decide) z_md rfl) rfl rfl hl.1 rfl (lv_room (Nat.le_of_ble_eq_true rfl)) dX12_days_35 ⟨Nat.zero_le _, Nat.zero_le _⟩) hG (fun Z8 H locs hw hG => ?_)
      refine lv_aload_n hx hb dX12_days_38 rfl (lv_at hl 0 rfl) ?_
      refine lv_iload_n hx hb dX12_days_39 rfl (lv_at hl 2 rfl) ?_
      refine z_put hF hG 97 (by decide) z_md rfl in12 tyX12_ok nmX12 13 (by decide) (List.mem_of_getElem? (i := 3) rfl) rfl rfl (tyX12_ok 13 (by decide)) rfl rfl (Nat.le_of_ble_eq_true rfl) a2 z_md dX12_days_40 (fun Z9 H locs eZ9 hG => ?_)
      replace hw := hw Z9 eZ9
      refine lv_iconst (v := 0) hx hb dX12_days_43 (by decide) ?_
      refine lv_topi (fun y10 ey10 => ?_)
      replace hw := hw y10 ey10
      refine lv_istore (lv' := [(4, .int y10), (0, .ref (E.2.1 97)), (1, .int a1), (2, .int a2), (3, .int a3)]) hx hb dX12_days_44 hl (by decide) rfl (fun ls hl => ?_)
      refine lv_iconst (v := 0) hx hb dX12_days_46 (by decide) ?_
      refine lv_topi (fun y11 ey11 => ?_)
      replace hw := hw y11 ey11
      refine lv_istore (lv' := [(5, .int y11), (4, .int y10), (0, .ref (E.2.1 97)), (1, .int a1), (2, .int a2), (3, .int a3)]) hx hb dX12_days_47 hl (by decide) rfl (fun ls hl => ?_)
      obtain ⟨n49, hw⟩ := hw
      exact J49 n49 y10 y11 Z9 _ _ _ hG (lv_sub hl [2, 3, 5, 1, 0] rfl) hw
    replace hw := hw.2 (fun h => h c7)
    refine lv_iconst (v := 0) hx hb dX12_days_28 (by decide) ?_
    exact z_iret hF hG hr hlk hw dX12_days_29
  replace hw := hw.2 (fun h => h c6)
  refine lv_iconst (v := (-1)) hx hb dX12_days_19 (by decide) ?_
  exact z_iret hF hG hr hlk hw dX12_days_20
set_option maxHeartbeats 4000000 in
set_option maxRecDepth 100000 in
theorem kX12_image (l : Launch) (E : zE) (Z : zS) {K : Int32 → zS → Prop} (hw : wX12_image Z K) : zCi l yX12_image wsX12_image ({ frames := 1, cells := 0, slots := 0, locals := 22 } : Room) E Z [.ref (E.2.1 97)] K := by
  refine z_bodyi (cc := cX12_image) (nL := 1) (ret := .int) (by decide) rfl (Nat.le_of_ble_eq_true rfl) ?_
  intro p e R s m args below meth c ls hfr hlo hF hr hlk hG hl
  have hx := hF.1.1
  have hb := hF.1.2.1
  have hown := hF.1.2.2.2.1
  have hts := hF.1.2.2.2.2
  have in12 : ∀ w ∈ u_ws RX12 TX12 22, w ∈ wsX12_image := fun _ h => List.mem_cons_of_mem _ (List.mem_append_right _ h)
  have hl : lv_has ls 1 [(0, .ref (E.2.1 97))] := hl
  unfold wX12_image at hw
  refine lv_aload_n hx hb dX12_image_0 rfl (lv_at hl 0 rfl) ?_
  refine lv_iconst (v := 1) hx hb dX12_image_1 (by decide) ?_
  refine z_put hF hG 97 (by decide) z_md rfl in12 tyX12_ok nmX12 11 (by decide) (List.mem_of_getElem? (i := 1) rfl) rfl rfl (tyX12_ok 11 (by decide)) (by decide) (by decide) (Nat.le_of_ble_eq_true rfl) 1 z_md dX12_image_2 (fun Z1 H locs eZ1 hG => ?_)
  replace hw := hw Z1 eZ1
  refine lv_aload_n hx hb dX12_image_5 rfl (lv_at hl 0 rfl) ?_
  refine lv_aload_n hx hb dX12_image_6 rfl (lv_at hl 0 rfl) ?_
  refine z_get hF hG 97 (by decide) z_md rfl in12 12 (by decide) (List.mem_of_getElem? (i := 2) rfl) rfl rfl dX12_image_7 ?_
  refine z_cv (va_runV (rest := []) hF.1 (kX12_keep l E Z1 103 122 (by decide) (fun _ => z_m103) hw _) (cwV 1 hts gX12_image_X12_keep rfl rfl rfl ⟨rfl, hS_yX12_keep⟩ ⟨Nat.le_trans (Nat.le_of_ble_eq_true rfl) hfr, Nat.le_trans (Nat.le_of_ble_eq_true rfl) hlo⟩) (z_preV hF hG 97 (by decide) z_md rfl) rfl rfl hl.1 rfl (lv_room (Nat.le_of_ble_eq_true rfl)) dX12_image_10 ⟨Nat.zero_le _, Nat.zero_le _⟩) hG (fun Z2 H locs hw hG => ?_)
  refine lv_aload_n hx hb dX12_image_13 rfl (lv_at hl 0 rfl) ?_
  refine z_get hF hG 97 (by decide) z_md rfl in12 0 (by decide) (List.mem_of_getElem? (i := 3) rfl) rfl rfl dX12_image_14 ?_
  exact z_iret hF hG hr hlk hw dX12_image_17
set_option maxHeartbeats 4000000 in
set_option maxRecDepth 100000 in
theorem kX12_restore (l : Launch) (E : zE) (Z : zS) {K : Int32 → zS → Prop} (hw : wX12_restore Z K) : zCi l yX12_restore wsX12_restore ({ frames := 1, cells := 0, slots := 0, locals := 22 } : Room) E Z [.ref (E.2.1 97)] K := by
  refine z_bodyi (cc := cX12_restore) (nL := 1) (ret := .int) (by decide) rfl (Nat.le_of_ble_eq_true rfl) ?_
  intro p e R s m args below meth c ls hfr hlo hF hr hlk hG hl
  have hx := hF.1.1
  have hb := hF.1.2.1
  have hown := hF.1.2.2.2.1
  have hts := hF.1.2.2.2.2
  have in12 : ∀ w ∈ u_ws RX12 TX12 22, w ∈ wsX12_restore := fun _ h => List.mem_cons_of_mem _ (List.mem_append_right _ h)
  have hl : lv_has ls 1 [(0, .ref (E.2.1 97))] := hl
  unfold wX12_restore at hw
  refine lv_aload_n hx hb dX12_restore_0 rfl (lv_at hl 0 rfl) ?_
  refine z_get hF hG 97 (by decide) z_md rfl in12 11 (by decide) (List.mem_of_getElem? (i := 1) rfl) rfl rfl dX12_restore_1 ?_
  refine lv_if_ne (tgt := 10) hx hb dX12_restore_4 (by decide) (fun c1 => ?_) (fun c1 => ?_)
  · replace hw := hw.1 c1
    refine lv_aload_n hx hb dX12_restore_10 rfl (lv_at hl 0 rfl) ?_
    refine lv_aload_n hx hb dX12_restore_11 rfl (lv_at hl 0 rfl) ?_
    refine z_get hF hG 97 (by decide) z_md rfl in12 12 (by decide) (List.mem_of_getElem? (i := 2) rfl) rfl rfl dX12_restore_12 ?_
    refine z_cv (va_runV (rest := []) hF.1 (kX12_again l E Z 103 122 (by decide) (fun _ => z_m103) hw _) (cwV 1 hts gX12_restore_X12_again rfl rfl rfl ⟨rfl, hS_yX12_again⟩ ⟨Nat.le_trans (Nat.le_of_ble_eq_true rfl) hfr, Nat.le_trans (Nat.le_of_ble_eq_true rfl) hlo⟩) (z_preV hF hG 97 (by decide) z_md rfl) rfl rfl hl.1 rfl (lv_room (Nat.le_of_ble_eq_true rfl)) dX12_restore_15 ⟨Nat.zero_le _, Nat.zero_le _⟩) hG (fun Z2 H locs hw hG => ?_)
    refine lv_aload_n hx hb dX12_restore_18 rfl (lv_at hl 0 rfl) ?_
    refine z_get hF hG 97 (by decide) z_md rfl in12 0 (by decide) (List.mem_of_getElem? (i := 3) rfl) rfl rfl dX12_restore_19 ?_
    exact z_iret hF hG hr hlk hw dX12_restore_22
  replace hw := hw.2 (fun h => h c1)
  refine lv_bipush (v := (-3)) hx hb dX12_restore_7 (by decide) ?_
  exact z_iret hF hG hr hlk hw dX12_restore_9
theorem hS_yX12_allJobs : yX12_allJobs.cls ≠ "java/lang/invoke/MethodHandle" ∧ yX12_allJobs.cls ≠ "java/lang/invoke/VarHandle" ∧ (parseMethodDescriptor yX12_allJobs.desc).map (fun d => d.parameters.length) = some 0 := by decide +kernel
set_option maxHeartbeats 4000000 in
set_option maxRecDepth 100000 in
theorem kX12_count (l : Launch) (E : zE) (Z : zS) (a1 : Int32) {K : Int32 → zS → Prop} (hw : wX12_count a1 Z K) : zCi l yX12_count wsX12_count ({ frames := 2, cells := 0, slots := 0, locals := 43 } : Room) E Z [.ref (E.2.1 97), .int a1] K := by
  refine z_bodyi (cc := cX12_count) (nL := 4) (ret := .int) (by decide) rfl (Nat.le_of_ble_eq_true rfl) ?_
  intro p e R s m args below meth c ls hfr hlo hF hr hlk hG hl
  have hx := hF.1.1
  have hb := hF.1.2.1
  have hown := hF.1.2.2.2.1
  have hts := hF.1.2.2.2.2
  have in12 : ∀ w ∈ u_ws RX12 TX12 22, w ∈ wsX12_count := fun _ h => List.mem_cons_of_mem _ (List.mem_append_right _ h)
  have hl : lv_has ls 4 [(0, .ref (E.2.1 97)), (1, .int a1)] := hl
  have S69 : ∀ (L69 : Int32 → Int32 → zS → Prop), (∀ (x2 : Int32) (x3 : Int32) (Z : zS) (H : Heap) (locs : List Loc) (ls : Array Slot), zG E Z s H locs → lv_has ls 4 [(0, .ref (E.2.1 97)), (2, .int x2), (3, .int x3)] → L69 x2 x3 Z → W p l e R s m args below meth c H locs 0 0 (zQi E K below args s) (F0 m 69 ls [])) → ∀ (x2 : Int32) (x3 : Int32) (Z : zS) (H : Heap) (locs : List Loc) (ls : Array Slot), zG E Z s H locs → lv_has ls 4 [(0, .ref (E.2.1 97)), (2, .int x2), (3, .int x3)] → wX12_count_69b L69 a1 x2 x3 Z K → W p l e R s m args below meth c H locs 0 0 (zQi E K below args s) (F0 m 69 ls []) := by
    intro L69 ih69
    have J96 : ∀ (x2 : Int32) (x3 : Int32) (Z : zS) (H : Heap) (locs : List Loc) (ls : Array Slot), zG E Z s H locs → lv_has ls 4 [(0, .ref (E.2.1 97)), (2, .int x2), (3, .int x3)] → wX12_count_96 L69 a1 x2 x3 Z K → W p l e R s m args below meth c H locs 0 0 (zQi E K below args s) (F0 m 96 ls []) := by
      intro x2 x3 Z H locs ls hG hl hw
      unfold wX12_count_96 at hw
      obtain ⟨y29, ey29⟩ : ∃ y : Int32, y = x3 + 1 := ⟨_, rfl⟩
      replace hw := hw y29 ey29
      refine lv_iinc (v := y29) (lv' := [(3, .int y29), (0, .ref (E.2.1 97)), (2, .int x2)]) hx hb dX12_count_96 hl (k := 2) rfl (by rw [ey29]; rfl) (by decide) rfl (fun ls hl => ?_)
      refine lv_goto (tgt := 69) hx hb dX12_count_99 (by decide) ?_
      exact ih69 x2 y29 Z _ _ _ hG (lv_sub hl [1, 2, 0] rfl) hw
    intro x2 x3 Z H locs ls hG hl hw
    unfold wX12_count_69b at hw
    refine lv_iload_n hx hb dX12_count_69 rfl (lv_at hl 2 rfl) ?_
    refine lv_aload_n hx hb dX12_count_70 rfl (lv_at hl 0 rfl) ?_
    refine z_get hF hG 97 (by decide) z_md rfl in12 1 (by decide) (List.mem_of_getElem? (i := 1) rfl) rfl rfl dX12_count_71 ?_
    refine lv_icmp_ge (tgt := 102) hx hb dX12_count_74 (by decide) (fun c25 => ?_) (fun c25 => ?_)
    · replace hw := hw.1 c25
      refine lv_iload_n hx hb dX12_count_102 rfl (lv_at hl 1 rfl) ?_
      exact z_iret hF hG hr hlk hw dX12_count_103
    replace hw := hw.2 c25
    refine lv_aload_n hx hb dX12_count_77 rfl (lv_at hl 0 rfl) ?_
    refine z_get hF hG 97 (by decide) z_md rfl in12 2 (by decide) (List.mem_of_getElem? (i := 3) rfl) rfl rfl dX12_count_78 ?_
    refine lv_bipush (v := 36) hx hb dX12_count_81 (by decide) ?_
    refine lv_iload_n hx hb dX12_count_83 rfl (lv_at hl 2 rfl) ?_
    refine lv_iadd hx hb dX12_count_84 ?_
    obtain ⟨q26, hw⟩ := hw
    refine z_iald hF hG 98 (by decide) z_m98 q26 dX12_count_85 ?_
    refine lv_iconst (v := 1) hx hb dX12_count_86 (by decide) ?_
    refine lv_icmp_ne (tgt := 96) hx hb dX12_count_87 (by decide) (fun c27 => ?_) (fun c27 => ?_)
    · replace hw := hw.1 c27
      exact J96 x2 x3 Z _ _ _ hG (lv_sub hl [0, 1, 2] rfl) hw
    replace hw := hw.2 (fun h => h c27)
    refine lv_iload_n hx hb dX12_count_90 rfl (lv_at hl 1 rfl) ?_
    refine lv_iconst (v := 1) hx hb dX12_count_91 (by decide) ?_
    refine lv_iload_n hx hb dX12_count_92 rfl (lv_at hl 2 rfl) ?_
    refine lv_ishl hx hb dX12_count_93 ?_
    refine lv_ior hx hb dX12_count_94 ?_
    refine lv_topi (fun y28 ey28 => ?_)
    replace hw := hw y28 ey28
    refine lv_istore_n (lv' := [(2, .int y28), (0, .ref (E.2.1 97)), (3, .int x3)]) hx hb dX12_count_95 rfl hl (by decide) rfl (fun ls hl => ?_)
    exact J96 y28 x3 Z _ _ _ hG (lv_sub hl [1, 0, 2] rfl) hw
  have J69 : ∀ n : Nat, ∀ (x2 : Int32) (x3 : Int32) (Z : zS) (H : Heap) (locs : List Loc) (ls : Array Slot), zG E Z s H locs → lv_has ls 4 [(0, .ref (E.2.1 97)), (2, .int x2), (3, .int x3)] → wX12_count_69 a1 K n x2 x3 Z → W p l e R s m args below meth c H locs 0 0 (zQi E K below args s) (F0 m 69 ls []) := by
    intro n
    induction n with
    | zero => intro x2 x3 Z H locs ls hG hl hw; exact hw.elim
    | succ n ih => intro x2 x3 Z H locs ls hG hl hw; exact S69 _ ih x2 x3 Z H locs ls hG hl hw
  unfold wX12_count at hw
  refine lv_iconst (v := 0) hx hb dX12_count_0 (by decide) ?_
  refine lv_topi (fun y1 ey1 => ?_)
  replace hw := hw y1 ey1
  refine lv_istore_n (lv' := [(2, .int y1), (0, .ref (E.2.1 97)), (1, .int a1)]) hx hb dX12_count_1 rfl hl (by decide) rfl (fun ls hl => ?_)
  refine lv_iload_n hx hb dX12_count_2 rfl (lv_at hl 2 rfl) ?_
  refine lv_topi (fun y2 ey2 => ?_)
  replace hw := hw y2 ey2
  by_cases c3 : y2 = 0
  · replace hw := hw.1 c3
    refine lv_tableIn (tgt := 52) (off := 49) hx hb dX12_count_3 (by rw [c3]; decide) (by rw [c3]; decide) (by rw [c3]; decide) (by decide) ?_
    refine lv_aload_n hx hb dX12_count_52 rfl (lv_at hl 1 rfl) ?_
    refine z_get hF hG 97 (by decide) z_md rfl in12 1 (by decide) (List.mem_of_getElem? (i := 1) rfl) rfl rfl dX12_count_53 ?_
    exact z_iret hF hG hr hlk hw dX12_count_56
  replace hw := hw.2 c3
  by_cases c4 : y2 = 1
  · replace hw := hw.1 c4
    refine lv_tableIn (tgt := 57) (off := 54) hx hb dX12_count_3 (by rw [c4]; decide) (by rw [c4]; decide) (by rw [c4]; decide) (by decide) ?_
    refine lv_aload_n hx hb dX12_count_57 rfl (lv_at hl 1 rfl) ?_
    refine z_get hF hG 97 (by decide) z_md rfl in12 0 (by decide) (List.mem_of_getElem? (i := 2) rfl) rfl rfl dX12_count_58 ?_
    exact z_iret hF hG hr hlk hw dX12_count_61
  replace hw := hw.2 c4
  by_cases c5 : y2 = 2
  · replace hw := hw.1 c5
    refine lv_tableIn (tgt := 62) (off := 59) hx hb dX12_count_3 (by rw [c5]; decide) (by rw [c5]; decide) (by rw [c5]; decide) (by decide) ?_
    refine lv_aload_n hx hb dX12_count_62 rfl (lv_at hl 1 rfl) ?_
    refine z_ci (va_runV (rest := []) hF.1 (kX12_load l E Z   hw _) (cwV 0 hts gX12_count_X12_load rfl rfl rfl ⟨rfl, hS_yX12_load⟩ ⟨Nat.le_trans (Nat.le_of_ble_eq_true rfl) hfr, Nat.le_trans (Nat.le_of_ble_eq_true rfl) hlo⟩) (z_preV hF hG 97 (by decide) z_md rfl) rfl rfl hl.1 rfl (lv_room (Nat.le_of_ble_eq_true rfl)) dX12_count_63 ⟨Nat.zero_le _, Nat.zero_le _⟩) hG (fun r7 Z6 H locs hw hG => ?_)
    exact z_iret hF hG hr hlk hw dX12_count_66
  replace hw := hw.2 c5
  by_cases c8 : y2 = 3
  · replace hw := hw.1 c8
    refine lv_tableIn (tgt := 67) (off := 64) hx hb dX12_count_3 (by rw [c8]; decide) (by rw [c8]; decide) (by rw [c8]; decide) (by decide) ?_
    refine lv_iconst (v := 0) hx hb dX12_count_67 (by decide) ?_
    refine lv_topi (fun y9 ey9 => ?_)
    replace hw := hw y9 ey9
    refine lv_istore_n (lv' := [(3, .int y9), (2, .int y1), (0, .ref (E.2.1 97)), (1, .int a1)]) hx hb dX12_count_68 rfl hl (by decide) rfl (fun ls hl => ?_)
    obtain ⟨n69, hw⟩ := hw
    exact J69 n69 y1 y9 Z _ _ _ hG (lv_sub hl [2, 1, 0] rfl) hw
  replace hw := hw.2 c8
  by_cases c10 : y2 = 4
  · replace hw := hw.1 c10
    refine lv_tableIn (tgt := 104) (off := 101) hx hb dX12_count_3 (by rw [c10]; decide) (by rw [c10]; decide) (by rw [c10]; decide) (by decide) ?_
    refine lv_aload_n hx hb dX12_count_104 rfl (lv_at hl 1 rfl) ?_
    refine z_ci (va_runV (rest := []) hF.1 (kX12_allJobs l E Z   hw _) (cwV 0 hts gX12_count_X12_allJobs rfl rfl rfl ⟨rfl, hS_yX12_allJobs⟩ ⟨Nat.le_trans (Nat.le_of_ble_eq_true rfl) hfr, Nat.le_trans (Nat.le_of_ble_eq_true rfl) hlo⟩) (z_preV hF hG 97 (by decide) z_md rfl) rfl rfl hl.1 rfl (lv_room (Nat.le_of_ble_eq_true rfl)) dX12_count_105 ⟨Nat.zero_le _, Nat.zero_le _⟩) hG (fun r12 Z11 H locs hw hG => ?_)
    exact z_iret hF hG hr hlk hw dX12_count_108
  replace hw := hw.2 c10
  by_cases c13 : y2 = 5
  · replace hw := hw.1 c13
    refine lv_tableIn (tgt := 109) (off := 106) hx hb dX12_count_3 (by rw [c13]; decide) (by rw [c13]; decide) (by rw [c13]; decide) (by decide) ?_
    refine lv_aload_n hx hb dX12_count_109 rfl (lv_at hl 1 rfl) ?_
    refine z_ci (va_runV (rest := []) hF.1 (kX12_allLate l E Z   hw _) (cwV 0 hts gX12_count_X12_allLate rfl rfl rfl ⟨rfl, hS_yX12_allLate⟩ ⟨Nat.le_trans (Nat.le_of_ble_eq_true rfl) hfr, Nat.le_trans (Nat.le_of_ble_eq_true rfl) hlo⟩) (z_preV hF hG 97 (by decide) z_md rfl) rfl rfl hl.1 rfl (lv_room (Nat.le_of_ble_eq_true rfl)) dX12_count_110 ⟨Nat.zero_le _, Nat.zero_le _⟩) hG (fun r15 Z14 H locs hw hG => ?_)
    exact z_iret hF hG hr hlk hw dX12_count_113
  replace hw := hw.2 c13
  by_cases c16 : y2 = 6
  · replace hw := hw.1 c16
    refine lv_tableIn (tgt := 114) (off := 111) hx hb dX12_count_3 (by rw [c16]; decide) (by rw [c16]; decide) (by rw [c16]; decide) (by decide) ?_
    refine lv_aload_n hx hb dX12_count_114 rfl (lv_at hl 1 rfl) ?_
    refine lv_iload_n hx hb dX12_count_115 rfl (lv_at hl 2 rfl) ?_
    refine lv_bipush (v := 6) hx hb dX12_count_116 (by decide) ?_
    refine lv_isub hx hb dX12_count_118 ?_
    refine z_ci (va_runV (rest := []) hF.1 (kX12_holder l E Z ((a1 - 6))  hw _) (cwV 1 hts gX12_count_X12_holder rfl rfl rfl ⟨rfl, hS_yX12_holder⟩ ⟨Nat.le_trans (Nat.le_of_ble_eq_true rfl) hfr, Nat.le_trans (Nat.le_of_ble_eq_true rfl) hlo⟩) (z_preV hF hG 97 (by decide) z_md rfl) rfl rfl hl.1 rfl (lv_room (Nat.le_of_ble_eq_true rfl)) dX12_count_119 ⟨Nat.zero_le _, Nat.zero_le _⟩) hG (fun r18 Z17 H locs hw hG => ?_)
    exact z_iret hF hG hr hlk hw dX12_count_122
  replace hw := hw.2 c16
  by_cases c19 : y2 = 7
  · replace hw := hw.1 c19
    refine lv_tableIn (tgt := 114) (off := 111) hx hb dX12_count_3 (by rw [c19]; decide) (by rw [c19]; decide) (by rw [c19]; decide) (by decide) ?_
    refine lv_aload_n hx hb dX12_count_114 rfl (lv_at hl 1 rfl) ?_
    refine lv_iload_n hx hb dX12_count_115 rfl (lv_at hl 2 rfl) ?_
    refine lv_bipush (v := 6) hx hb dX12_count_116 (by decide) ?_
    refine lv_isub hx hb dX12_count_118 ?_
    refine z_ci (va_runV (rest := []) hF.1 (kX12_holder l E Z ((a1 - 6))  hw _) (cwV 1 hts gX12_count_X12_holder rfl rfl rfl ⟨rfl, hS_yX12_holder⟩ ⟨Nat.le_trans (Nat.le_of_ble_eq_true rfl) hfr, Nat.le_trans (Nat.le_of_ble_eq_true rfl) hlo⟩) (z_preV hF hG 97 (by decide) z_md rfl) rfl rfl hl.1 rfl (lv_room (Nat.le_of_ble_eq_true rfl)) dX12_count_119 ⟨Nat.zero_le _, Nat.zero_le _⟩) hG (fun r21 Z20 H locs hw hG => ?_)
    exact z_iret hF hG hr hlk hw dX12_count_122
  replace hw := hw.2 c19
  by_cases c22 : y2 = 8
  · replace hw := hw.1 c22
    refine lv_tableIn (tgt := 114) (off := 111) hx hb dX12_count_3 (by rw [c22]; decide) (by rw [c22]; decide) (by rw [c22]; decide) (by decide) ?_
    refine lv_aload_n hx hb dX12_count_114 rfl (lv_at hl 1 rfl) ?_
    refine lv_iload_n hx hb dX12_count_115 rfl (lv_at hl 2 rfl) ?_
    refine lv_bipush (v := 6) hx hb dX12_count_116 (by decide) ?_
    refine lv_isub hx hb dX12_count_118 ?_
    refine z_ci (va_runV (rest := []) hF.1 (kX12_holder l E Z ((a1 - 6))  hw _) (cwV 1 hts gX12_count_X12_holder rfl rfl rfl ⟨rfl, hS_yX12_holder⟩ ⟨Nat.le_trans (Nat.le_of_ble_eq_true rfl) hfr, Nat.le_trans (Nat.le_of_ble_eq_true rfl) hlo⟩) (z_preV hF hG 97 (by decide) z_md rfl) rfl rfl hl.1 rfl (lv_room (Nat.le_of_ble_eq_true rfl)) dX12_count_119 ⟨Nat.zero_le _, Nat.zero_le _⟩) hG (fun r24 Z23 H locs hw hG => ?_)
    exact z_iret hF hG hr hlk hw dX12_count_122
  replace hw := hw.2 c22
  refine lv_tableOut (tgt := 123) hx hb dX12_count_3 (by have t0 := lv_neT c3 (a := 0) (by decide); have t1 := lv_neT c4 (a := 1) (by decide); have t2 := lv_neT c5 (a := 2) (by decide); have t3 := lv_neT c8 (a := 3) (by decide); have t4 := lv_neT c10 (a := 4) (by decide); have t5 := lv_neT c13 (a := 5) (by decide); have t6 := lv_neT c16 (a := 6) (by decide); have t7 := lv_neT c19 (a := 7) (by decide); have t8 := lv_neT c22 (a := 8) (by decide); omega) (by decide) ?_
  refine lv_iconst (v := (-1)) hx hb dX12_count_123 (by decide) ?_
  exact z_iret hF hG hr hlk hw dX12_count_124
set_option maxHeartbeats 4000000 in
set_option maxRecDepth 100000 in
theorem kX12_isTray (l : Launch) (E : zE) (Z : zS) (a1 : Int32) {K : Int32 → zS → Prop} (hw : wX12_isTray a1 Z K) : zCi l yX12_isTray wsX12_isTray ({ frames := 1, cells := 0, slots := 0, locals := 22 } : Room) E Z [.int a1] K := by
  refine z_bodyi (cc := cX12_isTray) (nL := 1) (ret := .boolean) (by decide) rfl (Nat.le_of_ble_eq_true rfl) ?_
  intro p e R s m args below meth c ls hfr hlo hF hr hlk hG hl
  have hx := hF.1.1
  have hb := hF.1.2.1
  have hown := hF.1.2.2.2.1
  have hts := hF.1.2.2.2.2
  have hl : lv_has ls 1 [(0, .int a1)] := hl
  unfold wX12_isTray at hw
  refine lv_iload_n hx hb dX12_isTray_0 rfl (lv_at hl 0 rfl) ?_
  refine lv_iconst (v := 0) hx hb dX12_isTray_1 (by decide) ?_
  refine lv_iconst (v := 3) hx hb dX12_isTray_2 (by decide) ?_
  refine z_ci (va_runS (rest := []) hF.1 (kX12_within l E Z a1 0 3  hw _) (va_cwS 3 hts gX12_isTray_X12_within rfl rfl rfl hS_yX12_within ⟨Nat.le_trans (Nat.le_of_ble_eq_true rfl) hfr, Nat.le_trans (Nat.le_of_ble_eq_true rfl) hlo⟩) (z_preS hF hG) rfl rfl hl.1 rfl (lv_room (Nat.le_of_ble_eq_true rfl)) dX12_isTray_3 ⟨Nat.zero_le _, Nat.zero_le _⟩) hG (fun r2 Z1 H locs hw hG => ?_)
  exact z_zret hF hG hr hlk (zBo.n hw.1) hw.2 dX12_isTray_6
set_option maxHeartbeats 4000000 in
set_option maxRecDepth 100000 in
theorem kX12_isUnder (l : Launch) (E : zE) (Z : zS) (a1 : Int32) (a2 : Int32) {K : Int32 → zS → Prop} (hw : wX12_isUnder a1 a2 Z K) : zCi l yX12_isUnder wsX12_isUnder ({ frames := 0, cells := 0, slots := 0, locals := 0 } : Room) E Z [.int a1, .int a2] K := by
  refine z_bodyi (cc := cX12_isUnder) (nL := 2) (ret := .boolean) (by decide) rfl (Nat.le_of_ble_eq_true rfl) ?_
  intro p e R s m args below meth c ls hfr hlo hF hr hlk hG hl
  have hx := hF.1.1
  have hb := hF.1.2.1
  have hown := hF.1.2.2.2.1
  have hts := hF.1.2.2.2.2
  have hl : lv_has ls 2 [(0, .int a1), (1, .int a2)] := hl
  have J34 : ∀ (Z : zS) (H : Heap) (locs : List Loc) (ls : Array Slot), zG E Z s H locs → lv_has ls 2 [] → wX12_isUnder_34 a1 a2 Z K → W p l e R s m args below meth c H locs 0 0 (zQi E K below args s) (F0 m 34 ls []) := by
    intro Z H locs ls hG hl hw
    unfold wX12_isUnder_34 at hw
    refine lv_iconst (v := 1) hx hb dX12_isUnder_34 (by decide) ?_
    refine lv_goto (tgt := 39) hx hb dX12_isUnder_35 (by decide) ?_
    exact z_zret hF hG hr hlk (by decide) hw dX12_isUnder_39
  have J24 : ∀ (Z : zS) (H : Heap) (locs : List Loc) (ls : Array Slot), zG E Z s H locs → lv_has ls 2 [(0, .int a1), (1, .int a2)] → wX12_isUnder_24 a1 a2 Z K → W p l e R s m args below meth c H locs 0 0 (zQi E K below args s) (F0 m 24 ls []) := by
    intro Z H locs ls hG hl hw
    unfold wX12_isUnder_24 at hw
    refine lv_iload_n hx hb dX12_isUnder_24 rfl (lv_at hl 1 rfl) ?_
    refine lv_iconst (v := 2) hx hb dX12_isUnder_25 (by decide) ?_
    refine lv_icmp_ne (tgt := 38) hx hb dX12_isUnder_26 (by decide) (fun c6 => ?_) (fun c6 => ?_)
    · replace hw := hw.1 c6
      refine lv_iconst (v := 0) hx hb dX12_isUnder_38 (by decide) ?_
      exact z_zret hF hG hr hlk (by decide) hw dX12_isUnder_39
    replace hw := hw.2 (fun h => h c6)
    refine lv_iload_n hx hb dX12_isUnder_29 rfl (lv_at hl 0 rfl) ?_
    refine lv_iconst (v := 5) hx hb dX12_isUnder_30 (by decide) ?_
    refine lv_icmp_ne (tgt := 38) hx hb dX12_isUnder_31 (by decide) (fun c7 => ?_) (fun c7 => ?_)
    · replace hw := hw.1 c7
      refine lv_iconst (v := 0) hx hb dX12_isUnder_38 (by decide) ?_
      exact z_zret hF hG hr hlk (by decide) hw dX12_isUnder_39
    replace hw := hw.2 (fun h => h c7)
    exact J34  Z _ _ _ hG (lv_sub hl [] rfl) hw
  unfold wX12_isUnder at hw
  refine lv_iload_n hx hb dX12_isUnder_0 rfl (lv_at hl 1 rfl) ?_
  refine lv_if_eq (tgt := 34) hx hb dX12_isUnder_1 (by decide) (fun c1 => ?_) (fun c1 => ?_)
  · replace hw := hw.1 c1
    exact J34  Z _ _ _ hG (lv_sub hl [] rfl) hw
  replace hw := hw.2 c1
  refine lv_iload_n hx hb dX12_isUnder_4 rfl (lv_at hl 0 rfl) ?_
  refine lv_iload_n hx hb dX12_isUnder_5 rfl (lv_at hl 1 rfl) ?_
  refine lv_icmp_eq (tgt := 34) hx hb dX12_isUnder_6 (by decide) (fun c2 => ?_) (fun c2 => ?_)
  · replace hw := hw.1 c2
    exact J34  Z _ _ _ hG (lv_sub hl [] rfl) hw
  replace hw := hw.2 c2
  refine lv_iload_n hx hb dX12_isUnder_9 rfl (lv_at hl 1 rfl) ?_
  refine lv_iconst (v := 1) hx hb dX12_isUnder_10 (by decide) ?_
  refine lv_icmp_ne (tgt := 24) hx hb dX12_isUnder_11 (by decide) (fun c3 => ?_) (fun c3 => ?_)
  · replace hw := hw.1 c3
    exact J24  Z _ _ _ hG (lv_sub hl [0, 1] rfl) hw
  replace hw := hw.2 (fun h => h c3)
  refine lv_iload_n hx hb dX12_isUnder_14 rfl (lv_at hl 0 rfl) ?_
  refine lv_iconst (v := 3) hx hb dX12_isUnder_15 (by decide) ?_
  refine lv_icmp_eq (tgt := 34) hx hb dX12_isUnder_16 (by decide) (fun c4 => ?_) (fun c4 => ?_)
  · replace hw := hw.1 c4
    exact J34  Z _ _ _ hG (lv_sub hl [] rfl) hw
  replace hw := hw.2 c4
  refine lv_iload_n hx hb dX12_isUnder_19 rfl (lv_at hl 0 rfl) ?_
  refine lv_iconst (v := 4) hx hb dX12_isUnder_20 (by decide) ?_
  refine lv_icmp_eq (tgt := 34) hx hb dX12_isUnder_21 (by decide) (fun c5 => ?_) (fun c5 => ?_)
  · replace hw := hw.1 c5
    exact J34  Z _ _ _ hG (lv_sub hl [] rfl) hw
  replace hw := hw.2 c5
  exact J24  Z _ _ _ hG (lv_sub hl [0, 1] rfl) hw
theorem hS_yX12_isTray : yX12_isTray.cls ≠ "java/lang/invoke/MethodHandle" ∧ yX12_isTray.cls ≠ "java/lang/invoke/VarHandle" ∧ (parseMethodDescriptor yX12_isTray.desc).map (fun d => d.parameters.length) = some 1 := by decide +kernel
set_option maxHeartbeats 4000000 in
set_option maxRecDepth 100000 in
theorem kX12_tray (l : Launch) (E : zE) (Z : zS) (a1 : Int32) (a2 : Int32) (a3 : Int32) {K : Int32 → zS → Prop} (hw : wX12_tray a1 a2 a3 Z K) : zCi l yX12_tray wsX12_tray ({ frames := 2, cells := 0, slots := 0, locals := 42 } : Room) E Z [.ref (E.2.1 97), .int a1, .int a2, .int a3] K := by
  refine z_bodyi (cc := cX12_tray) (nL := 5) (ret := .int) (by decide) rfl (Nat.le_of_ble_eq_true rfl) ?_
  intro p e R s m args below meth c ls hfr hlo hF hr hlk hG hl
  have hx := hF.1.1
  have hb := hF.1.2.1
  have hown := hF.1.2.2.2.1
  have hts := hF.1.2.2.2.2
  have in12 : ∀ w ∈ u_ws RX12 TX12 22, w ∈ wsX12_tray := fun _ h => List.mem_cons_of_mem _ (List.mem_append_right _ h)
  have hl : lv_has ls 5 [(0, .ref (E.2.1 97)), (1, .int a1), (2, .int a2), (3, .int a3)] := hl
  have S48 : ∀ (L48 : Int32 → zS → Prop), (∀ (x4 : Int32) (Z : zS) (H : Heap) (locs : List Loc) (ls : Array Slot), zG E Z s H locs → lv_has ls 5 [(0, .ref (E.2.1 97)), (1, .int a1), (4, .int x4)] → L48 x4 Z → W p l e R s m args below meth c H locs 0 0 (zQi E K below args s) (F0 m 48 ls [])) → ∀ (x4 : Int32) (Z : zS) (H : Heap) (locs : List Loc) (ls : Array Slot), zG E Z s H locs → lv_has ls 5 [(0, .ref (E.2.1 97)), (1, .int a1), (4, .int x4)] → wX12_tray_48b L48 a1 a2 a3 x4 Z K → W p l e R s m args below meth c H locs 0 0 (zQi E K below args s) (F0 m 48 ls []) := by
    intro L48 ih48
    intro x4 Z H locs ls hG hl hw
    unfold wX12_tray_48b at hw
    refine lv_iload hx hb dX12_tray_48 (lv_at hl 2 rfl) ?_
    refine lv_bipush (v := 20) hx hb dX12_tray_50 (by decide) ?_
    refine lv_icmp_ge (tgt := 74) hx hb dX12_tray_52 (by decide) (fun c14 => ?_) (fun c14 => ?_)
    · replace hw := hw.1 c14
      refine lv_iconst (v := 1) hx hb dX12_tray_74 (by decide) ?_
      exact z_iret hF hG hr hlk hw dX12_tray_75
    replace hw := hw.2 c14
    refine lv_aload_n hx hb dX12_tray_55 rfl (lv_at hl 0 rfl) ?_
    refine z_get hF hG 97 (by decide) z_md rfl in12 20 (by decide) (List.mem_of_getElem? (i := 3) rfl) rfl rfl dX12_tray_56 ?_
    refine lv_bipush (v := 20) hx hb dX12_tray_59 (by decide) ?_
    refine lv_iload_n hx hb dX12_tray_61 rfl (lv_at hl 1 rfl) ?_
    refine lv_imul hx hb dX12_tray_62 ?_
    refine lv_iload hx hb dX12_tray_63 (lv_at hl 2 rfl) ?_
    refine lv_iadd hx hb dX12_tray_65 ?_
    refine lv_iconst (v := 0) hx hb dX12_tray_66 (by decide) ?_
    obtain ⟨q15, hw⟩ := hw
    refine z_iast hF hG 110 (by decide) (fun _ => z_m110) q15 dX12_tray_67 (fun Z16 H locs eZ16 hG => ?_)
    replace hw := hw Z16 eZ16
    obtain ⟨y17, ey17⟩ : ∃ y : Int32, y = x4 + 1 := ⟨_, rfl⟩
    replace hw := hw y17 ey17
    refine lv_iinc (v := y17) (lv' := [(4, .int y17), (0, .ref (E.2.1 97)), (1, .int a1)]) hx hb dX12_tray_68 hl (k := 2) rfl (by rw [ey17]; rfl) (by decide) rfl (fun ls hl => ?_)
    refine lv_goto (tgt := 48) hx hb dX12_tray_71 (by decide) ?_
    exact ih48 y17 Z16 _ _ _ hG (lv_sub hl [1, 2, 0] rfl) hw
  have J48 : ∀ n : Nat, ∀ (x4 : Int32) (Z : zS) (H : Heap) (locs : List Loc) (ls : Array Slot), zG E Z s H locs → lv_has ls 5 [(0, .ref (E.2.1 97)), (1, .int a1), (4, .int x4)] → wX12_tray_48 a1 a2 a3 K n x4 Z → W p l e R s m args below meth c H locs 0 0 (zQi E K below args s) (F0 m 48 ls []) := by
    intro n
    induction n with
    | zero => intro x4 Z H locs ls hG hl hw; exact hw.elim
    | succ n ih => intro x4 Z H locs ls hG hl hw; exact S48 _ ih x4 Z H locs ls hG hl hw
  unfold wX12_tray at hw
  refine lv_iload_n hx hb dX12_tray_0 rfl (lv_at hl 1 rfl) ?_
  refine z_ci (va_runS (rest := []) hF.1 (kX12_isTray l E Z a1  hw _) (va_cwS 1 hts gX12_tray_X12_isTray rfl rfl rfl hS_yX12_isTray ⟨Nat.le_trans (Nat.le_of_ble_eq_true rfl) hfr, Nat.le_trans (Nat.le_of_ble_eq_true rfl) hlo⟩) (z_preS hF hG) rfl rfl hl.1 rfl (lv_room (Nat.le_of_ble_eq_true rfl)) dX12_tray_1 ⟨Nat.zero_le _, Nat.zero_le _⟩) hG (fun r2 Z1 H locs hw hG => ?_)
  refine lv_if_eq (tgt := 22) hx hb dX12_tray_4 (by decide) (fun c3 => ?_) (fun c3 => ?_)
  · replace hw := hw.1 c3
    refine lv_iconst (v := (-1)) hx hb dX12_tray_22 (by decide) ?_
    exact z_iret hF hG hr hlk hw dX12_tray_23
  replace hw := hw.2 c3
  refine lv_iload_n hx hb dX12_tray_7 rfl (lv_at hl 2 rfl) ?_
  refine lv_iconst (v := 0) hx hb dX12_tray_8 (by decide) ?_
  refine lv_iconst (v := 5) hx hb dX12_tray_9 (by decide) ?_
  refine z_ci (va_runS (rest := []) hF.1 (kX12_within l E Z1 a2 0 5  hw _) (va_cwS 3 hts gX12_tray_X12_within rfl rfl rfl hS_yX12_within ⟨Nat.le_trans (Nat.le_of_ble_eq_true rfl) hfr, Nat.le_trans (Nat.le_of_ble_eq_true rfl) hlo⟩) (z_preS hF hG) rfl rfl hl.1 rfl (lv_room (Nat.le_of_ble_eq_true rfl)) dX12_tray_10 ⟨Nat.zero_le _, Nat.zero_le _⟩) hG (fun r5 Z4 H locs hw hG => ?_)
  refine lv_if_eq (tgt := 22) hx hb dX12_tray_13 (by decide) (fun c6 => ?_) (fun c6 => ?_)
  · replace hw := hw.1 c6
    refine lv_iconst (v := (-1)) hx hb dX12_tray_22 (by decide) ?_
    exact z_iret hF hG hr hlk hw dX12_tray_23
  replace hw := hw.2 c6
  refine lv_iload_n hx hb dX12_tray_16 rfl (lv_at hl 3 rfl) ?_
  refine lv_bipush (v := 20) hx hb dX12_tray_17 (by decide) ?_
  refine lv_icmp_le (tgt := 24) hx hb dX12_tray_19 (by decide) (fun c7 => ?_) (fun c7 => ?_)
  · replace hw := hw.1 c7
    refine lv_iload_n hx hb dX12_tray_24 rfl (lv_at hl 3 rfl) ?_
    refine lv_if_ge (tgt := 31) hx hb dX12_tray_25 (by decide) (fun c8 => ?_) (fun c8 => ?_)
    · replace hw := hw.1 c8
      refine lv_aload_n hx hb dX12_tray_31 rfl (lv_at hl 0 rfl) ?_
      refine z_get hF hG 97 (by decide) z_md rfl in12 18 (by decide) (List.mem_of_getElem? (i := 1) rfl) rfl rfl dX12_tray_32 ?_
      refine lv_iload_n hx hb dX12_tray_35 rfl (lv_at hl 1 rfl) ?_
      refine lv_iload_n hx hb dX12_tray_36 rfl (lv_at hl 2 rfl) ?_
      obtain ⟨q9, hw⟩ := hw
      refine z_iast hF hG 108 (by decide) (fun _ => z_m108) q9 dX12_tray_37 (fun Z10 H locs eZ10 hG => ?_)
      replace hw := hw Z10 eZ10
      refine lv_aload_n hx hb dX12_tray_38 rfl (lv_at hl 0 rfl) ?_
      refine z_get hF hG 97 (by decide) z_md rfl in12 19 (by decide) (List.mem_of_getElem? (i := 2) rfl) rfl rfl dX12_tray_39 ?_
      refine lv_iload_n hx hb dX12_tray_42 rfl (lv_at hl 1 rfl) ?_
      refine lv_iload_n hx hb dX12_tray_43 rfl (lv_at hl 3 rfl) ?_
      obtain ⟨q11, hw⟩ := hw
      refine z_iast hF hG 109 (by decide) (fun _ => z_m109) q11 dX12_tray_44 (fun Z12 H locs eZ12 hG => ?_)
      replace hw := hw Z12 eZ12
      refine lv_iconst (v := 0) hx hb dX12_tray_45 (by decide) ?_
      refine lv_topi (fun y13 ey13 => ?_)
      replace hw := hw y13 ey13
      refine lv_istore (lv' := [(4, .int y13), (0, .ref (E.2.1 97)), (1, .int a1), (2, .int a2), (3, .int a3)]) hx hb dX12_tray_46 hl (by decide) rfl (fun ls hl => ?_)
      obtain ⟨n48, hw⟩ := hw
      exact J48 n48 y13 Z12 _ _ _ hG (lv_sub hl [1, 2, 0] rfl) hw
    replace hw := hw.2 c8
    refine lv_bipush (v := (-14)) hx hb dX12_tray_28 (by decide) ?_
    exact z_iret hF hG hr hlk hw dX12_tray_30
  replace hw := hw.2 c7
  refine lv_iconst (v := (-1)) hx hb dX12_tray_22 (by decide) ?_
  exact z_iret hF hG hr hlk hw dX12_tray_23
theorem hS_yX12_isUnder : yX12_isUnder.cls ≠ "java/lang/invoke/MethodHandle" ∧ yX12_isUnder.cls ≠ "java/lang/invoke/VarHandle" ∧ (parseMethodDescriptor yX12_isUnder.desc).map (fun d => d.parameters.length) = some 2 := by decide +kernel
set_option maxHeartbeats 4000000 in
set_option maxRecDepth 100000 in
theorem kX12_lays (l : Launch) (E : zE) (Z : zS) (a1 : Int32) (a2 : Int32) (a3 : Int32) {K : Int32 → zS → Prop} (hw : wX12_lays a1 a2 a3 Z K) : zCi l yX12_lays wsX12_lays ({ frames := 2, cells := 0, slots := 0, locals := 42 } : Room) E Z [.ref (E.2.1 97), .int a1, .int a2, .int a3] K := by
  refine z_bodyi (cc := cX12_lays) (nL := 4) (ret := .int) (by decide) rfl (Nat.le_of_ble_eq_true rfl) ?_
  intro p e R s m args below meth c ls hfr hlo hF hr hlk hG hl
  have hx := hF.1.1
  have hb := hF.1.2.1
  have hown := hF.1.2.2.2.1
  have hts := hF.1.2.2.2.2
  have in12 : ∀ w ∈ u_ws RX12 TX12 22, w ∈ wsX12_lays := fun _ h => List.mem_cons_of_mem _ (List.mem_append_right _ h)
  have hl : lv_has ls 4 [(0, .ref (E.2.1 97)), (1, .int a1), (2, .int a2), (3, .int a3)] := hl
  have J125 : ∀ (s0 : Int32) (s1 : Int32) (Z : zS) (H : Heap) (locs : List Loc) (ls : Array Slot), zG E Z s H locs → lv_has ls 4 [] → wX12_lays_125 a1 a2 a3 s0 s1 Z K → W p l e R s m args below meth c H locs 0 0 (zQi E K below args s) (F0 m 125 ls [.int s0, .int s1, .ref (E.2.1 110)]) := by
    intro s0 s1 Z H locs ls hG hl hw
    unfold wX12_lays_125 at hw
    obtain ⟨q25, hw⟩ := hw
    refine z_iast hF hG 110 (by decide) (fun _ => z_m110) q25 dX12_lays_125 (fun Z26 H locs eZ26 hG => ?_)
    replace hw := hw Z26 eZ26
    refine lv_iconst (v := 1) hx hb dX12_lays_126 (by decide) ?_
    exact z_iret hF hG hr hlk hw dX12_lays_127
  have J93 : ∀ (Z : zS) (H : Heap) (locs : List Loc) (ls : Array Slot), zG E Z s H locs → lv_has ls 4 [(0, .ref (E.2.1 97)), (1, .int a1), (2, .int a2), (3, .int a3)] → wX12_lays_93 a1 a2 a3 Z K → W p l e R s m args below meth c H locs 0 0 (zQi E K below args s) (F0 m 93 ls []) := by
    intro Z H locs ls hG hl hw
    unfold wX12_lays_93 at hw
    refine lv_aload_n hx hb dX12_lays_93 rfl (lv_at hl 0 rfl) ?_
    refine z_get hF hG 97 (by decide) z_md rfl in12 20 (by decide) (List.mem_of_getElem? (i := 5) rfl) rfl rfl dX12_lays_94 ?_
    refine lv_bipush (v := 20) hx hb dX12_lays_97 (by decide) ?_
    refine lv_iload_n hx hb dX12_lays_99 rfl (lv_at hl 1 rfl) ?_
    refine lv_imul hx hb dX12_lays_100 ?_
    refine lv_iload_n hx hb dX12_lays_101 rfl (lv_at hl 2 rfl) ?_
    refine lv_iadd hx hb dX12_lays_102 ?_
    refine lv_aload_n hx hb dX12_lays_103 rfl (lv_at hl 0 rfl) ?_
    refine z_get hF hG 97 (by decide) z_md rfl in12 14 (by decide) (List.mem_of_getElem? (i := 1) rfl) rfl rfl dX12_lays_104 ?_
    refine lv_iload_n hx hb dX12_lays_107 rfl (lv_at hl 3 rfl) ?_
    obtain ⟨q22, hw⟩ := hw
    refine z_iald hF hG 104 (by decide) z_m104 q22 dX12_lays_108 ?_
    refine lv_iconst (v := 1) hx hb dX12_lays_109 (by decide) ?_
    refine lv_icmp_ne (tgt := 124) hx hb dX12_lays_110 (by decide) (fun c23 => ?_) (fun c23 => ?_)
    · replace hw := hw.1 c23
      refine lv_iconst (v := 0) hx hb dX12_lays_124 (by decide) ?_
      exact J125 0 (((20 * a1) + a2)) Z _ _ _ hG (lv_sub hl [] rfl) hw
    replace hw := hw.2 (fun h => h c23)
    refine lv_aload_n hx hb dX12_lays_113 rfl (lv_at hl 0 rfl) ?_
    refine z_get hF hG 97 (by decide) z_md rfl in12 15 (by decide) (List.mem_of_getElem? (i := 4) rfl) rfl rfl dX12_lays_114 ?_
    refine lv_iload_n hx hb dX12_lays_117 rfl (lv_at hl 3 rfl) ?_
    obtain ⟨q24, hw⟩ := hw
    refine z_iald hF hG 105 (by decide) z_m105 q24 dX12_lays_118 ?_
    refine lv_iconst (v := 1) hx hb dX12_lays_119 (by decide) ?_
    refine lv_iadd hx hb dX12_lays_120 ?_
    refine lv_goto (tgt := 125) hx hb dX12_lays_121 (by decide) ?_
    exact J125 (((Z 105 (a3 : Int32).toNatClampNeg) + 1)) (((20 * a1) + a2)) Z _ _ _ hG (lv_sub hl [] rfl) hw
  unfold wX12_lays at hw
  refine lv_iload_n hx hb dX12_lays_0 rfl (lv_at hl 1 rfl) ?_
  refine z_ci (va_runS (rest := []) hF.1 (kX12_isTray l E Z a1  hw _) (va_cwS 1 hts gX12_lays_X12_isTray rfl rfl rfl hS_yX12_isTray ⟨Nat.le_trans (Nat.le_of_ble_eq_true rfl) hfr, Nat.le_trans (Nat.le_of_ble_eq_true rfl) hlo⟩) (z_preS hF hG) rfl rfl hl.1 rfl (lv_room (Nat.le_of_ble_eq_true rfl)) dX12_lays_1 ⟨Nat.zero_le _, Nat.zero_le _⟩) hG (fun r2 Z1 H locs hw hG => ?_)
  refine lv_if_eq (tgt := 14) hx hb dX12_lays_4 (by decide) (fun c3 => ?_) (fun c3 => ?_)
  · replace hw := hw.1 c3
    refine lv_iconst (v := (-1)) hx hb dX12_lays_14 (by decide) ?_
    exact z_iret hF hG hr hlk hw dX12_lays_15
  replace hw := hw.2 c3
  refine lv_iload_n hx hb dX12_lays_7 rfl (lv_at hl 3 rfl) ?_
  refine z_ci (va_runS (rest := []) hF.1 (kX12_isShelf l E Z1 a3  hw _) (va_cwS 1 hts gX12_lays_X12_isShelf rfl rfl rfl hS_yX12_isShelf ⟨Nat.le_trans (Nat.le_of_ble_eq_true rfl) hfr, Nat.le_trans (Nat.le_of_ble_eq_true rfl) hlo⟩) (z_preS hF hG) rfl rfl hl.1 rfl (lv_room (Nat.le_of_ble_eq_true rfl)) dX12_lays_8 ⟨Nat.zero_le _, Nat.zero_le _⟩) hG (fun r5 Z4 H locs hw hG => ?_)
  refine lv_if_ne (tgt := 16) hx hb dX12_lays_11 (by decide) (fun c6 => ?_) (fun c6 => ?_)
  · replace hw := hw.1 c6
    refine lv_aload_n hx hb dX12_lays_16 rfl (lv_at hl 0 rfl) ?_
    refine z_get hF hG 97 (by decide) z_md rfl in12 14 (by decide) (List.mem_of_getElem? (i := 1) rfl) rfl rfl dX12_lays_17 ?_
    refine lv_iload_n hx hb dX12_lays_20 rfl (lv_at hl 3 rfl) ?_
    obtain ⟨q7, hw⟩ := hw
    refine z_iald hF hG 104 (by decide) z_m104 q7 dX12_lays_21 ?_
    refine lv_iconst (v := 2) hx hb dX12_lays_22 (by decide) ?_
    refine lv_icmp_ne (tgt := 29) hx hb dX12_lays_23 (by decide) (fun c8 => ?_) (fun c8 => ?_)
    · replace hw := hw.1 c8
      refine lv_aload_n hx hb dX12_lays_29 rfl (lv_at hl 0 rfl) ?_
      refine z_get hF hG 97 (by decide) z_md rfl in12 18 (by decide) (List.mem_of_getElem? (i := 2) rfl) rfl rfl dX12_lays_30 ?_
      refine lv_iload_n hx hb dX12_lays_33 rfl (lv_at hl 1 rfl) ?_
      obtain ⟨q9, hw⟩ := hw
      refine z_iald hF hG 108 (by decide) z_m108 q9 dX12_lays_34 ?_
      refine lv_bipush (v := (-4)) hx hb dX12_lays_35 (by decide) ?_
      refine lv_icmp_ne (tgt := 43) hx hb dX12_lays_37 (by decide) (fun c10 => ?_) (fun c10 => ?_)
      · replace hw := hw.1 c10
        refine lv_iload_n hx hb dX12_lays_43 rfl (lv_at hl 2 rfl) ?_
        refine lv_iconst (v := 0) hx hb dX12_lays_44 (by decide) ?_
        refine lv_aload_n hx hb dX12_lays_45 rfl (lv_at hl 0 rfl) ?_
        refine z_get hF hG 97 (by decide) z_md rfl in12 19 (by decide) (List.mem_of_getElem? (i := 3) rfl) rfl rfl dX12_lays_46 ?_
        refine lv_iload_n hx hb dX12_lays_49 rfl (lv_at hl 1 rfl) ?_
        obtain ⟨q11, hw⟩ := hw
        refine z_iald hF hG 109 (by decide) z_m109 q11 dX12_lays_50 ?_
        refine lv_iconst (v := 1) hx hb dX12_lays_51 (by decide) ?_
        refine lv_isub hx hb dX12_lays_52 ?_
        refine z_ci (va_runS (rest := []) hF.1 (kX12_within l E Z4 a2 0 (((Z4 109 (a1 : Int32).toNatClampNeg) - 1))  hw _) (va_cwS 3 hts gX12_lays_X12_within rfl rfl rfl hS_yX12_within ⟨Nat.le_trans (Nat.le_of_ble_eq_true rfl) hfr, Nat.le_trans (Nat.le_of_ble_eq_true rfl) hlo⟩) (z_preS hF hG) rfl rfl hl.1 rfl (lv_room (Nat.le_of_ble_eq_true rfl)) dX12_lays_53 ⟨Nat.zero_le _, Nat.zero_le _⟩) hG (fun r13 Z12 H locs hw hG => ?_)
        refine lv_if_ne (tgt := 62) hx hb dX12_lays_56 (by decide) (fun c14 => ?_) (fun c14 => ?_)
        · replace hw := hw.1 c14
          refine lv_aload_n hx hb dX12_lays_62 rfl (lv_at hl 0 rfl) ?_
          refine z_get hF hG 97 (by decide) z_md rfl in12 14 (by decide) (List.mem_of_getElem? (i := 1) rfl) rfl rfl dX12_lays_63 ?_
          refine lv_iload_n hx hb dX12_lays_66 rfl (lv_at hl 3 rfl) ?_
          obtain ⟨q15, hw⟩ := hw
          refine z_iald hF hG 104 (by decide) z_m104 q15 dX12_lays_67 ?_
          refine lv_iconst (v := 1) hx hb dX12_lays_68 (by decide) ?_
          refine lv_icmp_ne (tgt := 93) hx hb dX12_lays_69 (by decide) (fun c16 => ?_) (fun c16 => ?_)
          · replace hw := hw.1 c16
            exact J93  Z12 _ _ _ hG (lv_sub hl [0, 1, 2, 3] rfl) hw
          replace hw := hw.2 (fun h => h c16)
          refine lv_aload_n hx hb dX12_lays_72 rfl (lv_at hl 0 rfl) ?_
          refine z_get hF hG 97 (by decide) z_md rfl in12 15 (by decide) (List.mem_of_getElem? (i := 4) rfl) rfl rfl dX12_lays_73 ?_
          refine lv_iload_n hx hb dX12_lays_76 rfl (lv_at hl 3 rfl) ?_
          obtain ⟨q17, hw⟩ := hw
          refine z_iald hF hG 105 (by decide) z_m105 q17 dX12_lays_77 ?_
          refine lv_aload_n hx hb dX12_lays_78 rfl (lv_at hl 0 rfl) ?_
          refine z_get hF hG 97 (by decide) z_md rfl in12 18 (by decide) (List.mem_of_getElem? (i := 2) rfl) rfl rfl dX12_lays_79 ?_
          refine lv_iload_n hx hb dX12_lays_82 rfl (lv_at hl 1 rfl) ?_
          obtain ⟨q18, hw⟩ := hw
          refine z_iald hF hG 108 (by decide) z_m108 q18 dX12_lays_83 ?_
          refine z_ci (va_runS (rest := []) hF.1 (kX12_isUnder l E Z12 ((Z12 105 (a3 : Int32).toNatClampNeg)) ((Z12 108 (a1 : Int32).toNatClampNeg))  hw _) (va_cwS 2 hts gX12_lays_X12_isUnder rfl rfl rfl hS_yX12_isUnder ⟨Nat.le_trans (Nat.le_of_ble_eq_true rfl) hfr, Nat.le_trans (Nat.le_of_ble_eq_true rfl) hlo⟩) (z_preS hF hG) rfl rfl hl.1 rfl (lv_room (Nat.le_of_ble_eq_true rfl)) dX12_lays_84 ⟨Nat.zero_le _, Nat.zero_le _⟩) hG (fun r20 Z19 H locs hw hG => ?_)
          refine lv_if_ne (tgt := 93) hx hb dX12_lays_87 (by decide) (fun c21 => ?_) (fun c21 => ?_)
          · replace hw := hw.1 c21
            exact J93  Z19 _ _ _ hG (lv_sub hl [0, 1, 2, 3] rfl) hw
          replace hw := hw.2 (fun h => h c21)
          refine lv_bipush (v := (-16)) hx hb dX12_lays_90 (by decide) ?_
          exact z_iret hF hG hr hlk hw dX12_lays_92
        replace hw := hw.2 (fun h => h c14)
        refine lv_bipush (v := (-13)) hx hb dX12_lays_59 (by decide) ?_
        exact z_iret hF hG hr hlk hw dX12_lays_61
      replace hw := hw.2 (fun h => h c10)
      refine lv_bipush (v := (-11)) hx hb dX12_lays_40 (by decide) ?_
      exact z_iret hF hG hr hlk hw dX12_lays_42
    replace hw := hw.2 (fun h => h c8)
    refine lv_bipush (v := (-12)) hx hb dX12_lays_26 (by decide) ?_
    exact z_iret hF hG hr hlk hw dX12_lays_28
  replace hw := hw.2 (fun h => h c6)
  refine lv_iconst (v := (-1)) hx hb dX12_lays_14 (by decide) ?_
  exact z_iret hF hG hr hlk hw dX12_lays_15
set_option maxHeartbeats 4000000 in
set_option maxRecDepth 100000 in
theorem kX12_laid (l : Launch) (E : zE) (Z : zS) (a1 : Int32) (a2 : Int32) {K : Int32 → zS → Prop} (hw : wX12_laid a1 a2 Z K) : zCi l yX12_laid wsX12_laid ({ frames := 2, cells := 0, slots := 0, locals := 42 } : Room) E Z [.ref (E.2.1 97), .int a1, .int a2] K := by
  refine z_bodyi (cc := cX12_laid) (nL := 3) (ret := .int) (by decide) rfl (Nat.le_of_ble_eq_true rfl) ?_
  intro p e R s m args below meth c ls hfr hlo hF hr hlk hG hl
  have hx := hF.1.1
  have hb := hF.1.2.1
  have hown := hF.1.2.2.2.1
  have hts := hF.1.2.2.2.2
  have in12 : ∀ w ∈ u_ws RX12 TX12 22, w ∈ wsX12_laid := fun _ h => List.mem_cons_of_mem _ (List.mem_append_right _ h)
  have hl : lv_has ls 3 [(0, .ref (E.2.1 97)), (1, .int a1), (2, .int a2)] := hl
  unfold wX12_laid at hw
  refine lv_iload_n hx hb dX12_laid_0 rfl (lv_at hl 1 rfl) ?_
  refine z_ci (va_runS (rest := []) hF.1 (kX12_isTray l E Z a1  hw _) (va_cwS 1 hts gX12_laid_X12_isTray rfl rfl rfl hS_yX12_isTray ⟨Nat.le_trans (Nat.le_of_ble_eq_true rfl) hfr, Nat.le_trans (Nat.le_of_ble_eq_true rfl) hlo⟩) (z_preS hF hG) rfl rfl hl.1 rfl (lv_room (Nat.le_of_ble_eq_true rfl)) dX12_laid_1 ⟨Nat.zero_le _, Nat.zero_le _⟩) hG (fun r2 Z1 H locs hw hG => ?_)
  refine lv_if_ne (tgt := 9) hx hb dX12_laid_4 (by decide) (fun c3 => ?_) (fun c3 => ?_)
  · replace hw := hw.1 c3
    refine lv_aload_n hx hb dX12_laid_9 rfl (lv_at hl 0 rfl) ?_
    refine z_get hF hG 97 (by decide) z_md rfl in12 18 (by decide) (List.mem_of_getElem? (i := 1) rfl) rfl rfl dX12_laid_10 ?_
    refine lv_iload_n hx hb dX12_laid_13 rfl (lv_at hl 1 rfl) ?_
    obtain ⟨q4, hw⟩ := hw
    refine z_iald hF hG 108 (by decide) z_m108 q4 dX12_laid_14 ?_
    refine lv_bipush (v := (-4)) hx hb dX12_laid_15 (by decide) ?_
    refine lv_icmp_ne (tgt := 23) hx hb dX12_laid_17 (by decide) (fun c5 => ?_) (fun c5 => ?_)
    · replace hw := hw.1 c5
      refine lv_iload_n hx hb dX12_laid_23 rfl (lv_at hl 2 rfl) ?_
      refine lv_iconst (v := 0) hx hb dX12_laid_24 (by decide) ?_
      refine lv_aload_n hx hb dX12_laid_25 rfl (lv_at hl 0 rfl) ?_
      refine z_get hF hG 97 (by decide) z_md rfl in12 19 (by decide) (List.mem_of_getElem? (i := 2) rfl) rfl rfl dX12_laid_26 ?_
      refine lv_iload_n hx hb dX12_laid_29 rfl (lv_at hl 1 rfl) ?_
      obtain ⟨q6, hw⟩ := hw
      refine z_iald hF hG 109 (by decide) z_m109 q6 dX12_laid_30 ?_
      refine lv_iconst (v := 1) hx hb dX12_laid_31 (by decide) ?_
      refine lv_isub hx hb dX12_laid_32 ?_
      refine z_ci (va_runS (rest := []) hF.1 (kX12_within l E Z1 a2 0 (((Z1 109 (a1 : Int32).toNatClampNeg) - 1))  hw _) (va_cwS 3 hts gX12_laid_X12_within rfl rfl rfl hS_yX12_within ⟨Nat.le_trans (Nat.le_of_ble_eq_true rfl) hfr, Nat.le_trans (Nat.le_of_ble_eq_true rfl) hlo⟩) (z_preS hF hG) rfl rfl hl.1 rfl (lv_room (Nat.le_of_ble_eq_true rfl)) dX12_laid_33 ⟨Nat.zero_le _, Nat.zero_le _⟩) hG (fun r8 Z7 H locs hw hG => ?_)
      refine lv_if_ne (tgt := 42) hx hb dX12_laid_36 (by decide) (fun c9 => ?_) (fun c9 => ?_)
      · replace hw := hw.1 c9
        refine lv_aload_n hx hb dX12_laid_42 rfl (lv_at hl 0 rfl) ?_
        refine z_get hF hG 97 (by decide) z_md rfl in12 20 (by decide) (List.mem_of_getElem? (i := 3) rfl) rfl rfl dX12_laid_43 ?_
        refine lv_bipush (v := 20) hx hb dX12_laid_46 (by decide) ?_
        refine lv_iload_n hx hb dX12_laid_48 rfl (lv_at hl 1 rfl) ?_
        refine lv_imul hx hb dX12_laid_49 ?_
        refine lv_iload_n hx hb dX12_laid_50 rfl (lv_at hl 2 rfl) ?_
        refine lv_iadd hx hb dX12_laid_51 ?_
        obtain ⟨q10, hw⟩ := hw
        refine z_iald hF hG 110 (by decide) z_m110 q10 dX12_laid_52 ?_
        refine lv_if_ne (tgt := 61) hx hb dX12_laid_53 (by decide) (fun c11 => ?_) (fun c11 => ?_)
        · replace hw := hw.1 c11
          refine lv_aload_n hx hb dX12_laid_61 rfl (lv_at hl 0 rfl) ?_
          refine z_get hF hG 97 (by decide) z_md rfl in12 20 (by decide) (List.mem_of_getElem? (i := 3) rfl) rfl rfl dX12_laid_62 ?_
          refine lv_bipush (v := 20) hx hb dX12_laid_65 (by decide) ?_
          refine lv_iload_n hx hb dX12_laid_67 rfl (lv_at hl 1 rfl) ?_
          refine lv_imul hx hb dX12_laid_68 ?_
          refine lv_iload_n hx hb dX12_laid_69 rfl (lv_at hl 2 rfl) ?_
          refine lv_iadd hx hb dX12_laid_70 ?_
          obtain ⟨q12, hw⟩ := hw
          refine z_iald hF hG 110 (by decide) z_m110 q12 dX12_laid_71 ?_
          refine lv_iconst (v := 1) hx hb dX12_laid_72 (by decide) ?_
          refine lv_isub hx hb dX12_laid_73 ?_
          exact z_iret hF hG hr hlk hw dX12_laid_74
        replace hw := hw.2 (fun h => h c11)
        refine lv_bipush (v := (-11)) hx hb dX12_laid_56 (by decide) ?_
        refine lv_goto (tgt := 74) hx hb dX12_laid_58 (by decide) ?_
        exact z_iret hF hG hr hlk hw dX12_laid_74
      replace hw := hw.2 (fun h => h c9)
      refine lv_bipush (v := (-13)) hx hb dX12_laid_39 (by decide) ?_
      exact z_iret hF hG hr hlk hw dX12_laid_41
    replace hw := hw.2 (fun h => h c5)
    refine lv_bipush (v := (-11)) hx hb dX12_laid_20 (by decide) ?_
    exact z_iret hF hG hr hlk hw dX12_laid_22
  replace hw := hw.2 (fun h => h c3)
  refine lv_iconst (v := (-1)) hx hb dX12_laid_7 (by decide) ?_
  exact z_iret hF hG hr hlk hw dX12_laid_8
set_option maxHeartbeats 4000000 in
set_option maxRecDepth 100000 in
theorem kX12_like (l : Launch) (E : zE) (Z : zS) (a1 : Int32) (a2 : Int32) {K : Int32 → zS → Prop} (hw : wX12_like a1 a2 Z K) : zCi l yX12_like wsX12_like ({ frames := 2, cells := 0, slots := 0, locals := 42 } : Room) E Z [.ref (E.2.1 97), .int a1, .int a2] K := by
  refine z_bodyi (cc := cX12_like) (nL := 4) (ret := .int) (by decide) rfl (Nat.le_of_ble_eq_true rfl) ?_
  intro p e R s m args below meth c ls hfr hlo hF hr hlk hG hl
  have hx := hF.1.1
  have hb := hF.1.2.1
  have hown := hF.1.2.2.2.1
  have hts := hF.1.2.2.2.2
  have in12 : ∀ w ∈ u_ws RX12 TX12 22, w ∈ wsX12_like := fun _ h => List.mem_cons_of_mem _ (List.mem_append_right _ h)
  have hl : lv_has ls 4 [(0, .ref (E.2.1 97)), (1, .int a1), (2, .int a2)] := hl
  have S56 : ∀ (L56 : Int32 → zS → Prop), (∀ (x3 : Int32) (Z : zS) (H : Heap) (locs : List Loc) (ls : Array Slot), zG E Z s H locs → lv_has ls 4 [(0, .ref (E.2.1 97)), (1, .int a1), (2, .int a2), (3, .int x3)] → L56 x3 Z → W p l e R s m args below meth c H locs 0 0 (zQi E K below args s) (F0 m 56 ls [])) → ∀ (x3 : Int32) (Z : zS) (H : Heap) (locs : List Loc) (ls : Array Slot), zG E Z s H locs → lv_has ls 4 [(0, .ref (E.2.1 97)), (1, .int a1), (2, .int a2), (3, .int x3)] → wX12_like_56b L56 a1 a2 x3 Z K → W p l e R s m args below meth c H locs 0 0 (zQi E K below args s) (F0 m 56 ls []) := by
    intro L56 ih56
    intro x3 Z H locs ls hG hl hw
    unfold wX12_like_56b at hw
    refine lv_iload_n hx hb dX12_like_56 rfl (lv_at hl 3 rfl) ?_
    refine lv_bipush (v := 20) hx hb dX12_like_57 (by decide) ?_
    refine lv_icmp_ge (tgt := 90) hx hb dX12_like_59 (by decide) (fun c16 => ?_) (fun c16 => ?_)
    · replace hw := hw.1 c16
      refine lv_aload_n hx hb dX12_like_90 rfl (lv_at hl 0 rfl) ?_
      refine z_get hF hG 97 (by decide) z_md rfl in12 19 (by decide) (List.mem_of_getElem? (i := 2) rfl) rfl rfl dX12_like_91 ?_
      refine lv_iload_n hx hb dX12_like_94 rfl (lv_at hl 1 rfl) ?_
      obtain ⟨q17, hw⟩ := hw
      refine z_iald hF hG 109 (by decide) z_m109 q17 dX12_like_95 ?_
      exact z_iret hF hG hr hlk hw dX12_like_96
    replace hw := hw.2 c16
    refine lv_aload_n hx hb dX12_like_62 rfl (lv_at hl 0 rfl) ?_
    refine z_get hF hG 97 (by decide) z_md rfl in12 20 (by decide) (List.mem_of_getElem? (i := 3) rfl) rfl rfl dX12_like_63 ?_
    refine lv_bipush (v := 20) hx hb dX12_like_66 (by decide) ?_
    refine lv_iload_n hx hb dX12_like_68 rfl (lv_at hl 1 rfl) ?_
    refine lv_imul hx hb dX12_like_69 ?_
    refine lv_iload_n hx hb dX12_like_70 rfl (lv_at hl 3 rfl) ?_
    refine lv_iadd hx hb dX12_like_71 ?_
    refine lv_aload_n hx hb dX12_like_72 rfl (lv_at hl 0 rfl) ?_
    refine z_get hF hG 97 (by decide) z_md rfl in12 20 (by decide) (List.mem_of_getElem? (i := 3) rfl) rfl rfl dX12_like_73 ?_
    refine lv_bipush (v := 20) hx hb dX12_like_76 (by decide) ?_
    refine lv_iload_n hx hb dX12_like_78 rfl (lv_at hl 2 rfl) ?_
    refine lv_imul hx hb dX12_like_79 ?_
    refine lv_iload_n hx hb dX12_like_80 rfl (lv_at hl 3 rfl) ?_
    refine lv_iadd hx hb dX12_like_81 ?_
    obtain ⟨q18, hw⟩ := hw
    refine z_iald hF hG 110 (by decide) z_m110 q18 dX12_like_82 ?_
    obtain ⟨q19, hw⟩ := hw
    refine z_iast hF hG 110 (by decide) (fun _ => z_m110) q19 dX12_like_83 (fun Z20 H locs eZ20 hG => ?_)
    replace hw := hw Z20 eZ20
    obtain ⟨y21, ey21⟩ : ∃ y : Int32, y = x3 + 1 := ⟨_, rfl⟩
    replace hw := hw y21 ey21
    refine lv_iinc (v := y21) (lv' := [(3, .int y21), (0, .ref (E.2.1 97)), (1, .int a1), (2, .int a2)]) hx hb dX12_like_84 hl (k := 3) rfl (by rw [ey21]; rfl) (by decide) rfl (fun ls hl => ?_)
    refine lv_goto (tgt := 56) hx hb dX12_like_87 (by decide) ?_
    exact ih56 y21 Z20 _ _ _ hG (lv_sub hl [1, 2, 3, 0] rfl) hw
  have J56 : ∀ n : Nat, ∀ (x3 : Int32) (Z : zS) (H : Heap) (locs : List Loc) (ls : Array Slot), zG E Z s H locs → lv_has ls 4 [(0, .ref (E.2.1 97)), (1, .int a1), (2, .int a2), (3, .int x3)] → wX12_like_56 a1 a2 K n x3 Z → W p l e R s m args below meth c H locs 0 0 (zQi E K below args s) (F0 m 56 ls []) := by
    intro n
    induction n with
    | zero => intro x3 Z H locs ls hG hl hw; exact hw.elim
    | succ n ih => intro x3 Z H locs ls hG hl hw; exact S56 _ ih x3 Z H locs ls hG hl hw
  unfold wX12_like at hw
  refine lv_iload_n hx hb dX12_like_0 rfl (lv_at hl 1 rfl) ?_
  refine z_ci (va_runS (rest := []) hF.1 (kX12_isTray l E Z a1  hw _) (va_cwS 1 hts gX12_like_X12_isTray rfl rfl rfl hS_yX12_isTray ⟨Nat.le_trans (Nat.le_of_ble_eq_true rfl) hfr, Nat.le_trans (Nat.le_of_ble_eq_true rfl) hlo⟩) (z_preS hF hG) rfl rfl hl.1 rfl (lv_room (Nat.le_of_ble_eq_true rfl)) dX12_like_1 ⟨Nat.zero_le _, Nat.zero_le _⟩) hG (fun r2 Z1 H locs hw hG => ?_)
  refine lv_if_eq (tgt := 14) hx hb dX12_like_4 (by decide) (fun c3 => ?_) (fun c3 => ?_)
  · replace hw := hw.1 c3
    refine lv_iconst (v := (-1)) hx hb dX12_like_14 (by decide) ?_
    exact z_iret hF hG hr hlk hw dX12_like_15
  replace hw := hw.2 c3
  refine lv_iload_n hx hb dX12_like_7 rfl (lv_at hl 2 rfl) ?_
  refine z_ci (va_runS (rest := []) hF.1 (kX12_isTray l E Z1 a2  hw _) (va_cwS 1 hts gX12_like_X12_isTray rfl rfl rfl hS_yX12_isTray ⟨Nat.le_trans (Nat.le_of_ble_eq_true rfl) hfr, Nat.le_trans (Nat.le_of_ble_eq_true rfl) hlo⟩) (z_preS hF hG) rfl rfl hl.1 rfl (lv_room (Nat.le_of_ble_eq_true rfl)) dX12_like_8 ⟨Nat.zero_le _, Nat.zero_le _⟩) hG (fun r5 Z4 H locs hw hG => ?_)
  refine lv_if_ne (tgt := 16) hx hb dX12_like_11 (by decide) (fun c6 => ?_) (fun c6 => ?_)
  · replace hw := hw.1 c6
    refine lv_aload_n hx hb dX12_like_16 rfl (lv_at hl 0 rfl) ?_
    refine z_get hF hG 97 (by decide) z_md rfl in12 18 (by decide) (List.mem_of_getElem? (i := 1) rfl) rfl rfl dX12_like_17 ?_
    refine lv_iload_n hx hb dX12_like_20 rfl (lv_at hl 2 rfl) ?_
    obtain ⟨q7, hw⟩ := hw
    refine z_iald hF hG 108 (by decide) z_m108 q7 dX12_like_21 ?_
    refine lv_bipush (v := (-4)) hx hb dX12_like_22 (by decide) ?_
    refine lv_icmp_ne (tgt := 30) hx hb dX12_like_24 (by decide) (fun c8 => ?_) (fun c8 => ?_)
    · replace hw := hw.1 c8
      refine lv_aload_n hx hb dX12_like_30 rfl (lv_at hl 0 rfl) ?_
      refine z_get hF hG 97 (by decide) z_md rfl in12 18 (by decide) (List.mem_of_getElem? (i := 1) rfl) rfl rfl dX12_like_31 ?_
      refine lv_iload_n hx hb dX12_like_34 rfl (lv_at hl 1 rfl) ?_
      refine lv_aload_n hx hb dX12_like_35 rfl (lv_at hl 0 rfl) ?_
      refine z_get hF hG 97 (by decide) z_md rfl in12 18 (by decide) (List.mem_of_getElem? (i := 1) rfl) rfl rfl dX12_like_36 ?_
      refine lv_iload_n hx hb dX12_like_39 rfl (lv_at hl 2 rfl) ?_
      obtain ⟨q9, hw⟩ := hw
      refine z_iald hF hG 108 (by decide) z_m108 q9 dX12_like_40 ?_
      obtain ⟨q10, hw⟩ := hw
      refine z_iast hF hG 108 (by decide) (fun _ => z_m108) q10 dX12_like_41 (fun Z11 H locs eZ11 hG => ?_)
      replace hw := hw Z11 eZ11
      refine lv_aload_n hx hb dX12_like_42 rfl (lv_at hl 0 rfl) ?_
      refine z_get hF hG 97 (by decide) z_md rfl in12 19 (by decide) (List.mem_of_getElem? (i := 2) rfl) rfl rfl dX12_like_43 ?_
      refine lv_iload_n hx hb dX12_like_46 rfl (lv_at hl 1 rfl) ?_
      refine lv_aload_n hx hb dX12_like_47 rfl (lv_at hl 0 rfl) ?_
      refine z_get hF hG 97 (by decide) z_md rfl in12 19 (by decide) (List.mem_of_getElem? (i := 2) rfl) rfl rfl dX12_like_48 ?_
      refine lv_iload_n hx hb dX12_like_51 rfl (lv_at hl 2 rfl) ?_
      obtain ⟨q12, hw⟩ := hw
      refine z_iald hF hG 109 (by decide) z_m109 q12 dX12_like_52 ?_
      obtain ⟨q13, hw⟩ := hw
      refine z_iast hF hG 109 (by decide) (fun _ => z_m109) q13 dX12_like_53 (fun Z14 H locs eZ14 hG => ?_)
      replace hw := hw Z14 eZ14
      refine lv_iconst (v := 0) hx hb dX12_like_54 (by decide) ?_
      refine lv_topi (fun y15 ey15 => ?_)
      replace hw := hw y15 ey15
      refine lv_istore_n (lv' := [(3, .int y15), (0, .ref (E.2.1 97)), (1, .int a1), (2, .int a2)]) hx hb dX12_like_55 rfl hl (by decide) rfl (fun ls hl => ?_)
      obtain ⟨n56, hw⟩ := hw
      exact J56 n56 y15 Z14 _ _ _ hG (lv_sub hl [1, 2, 3, 0] rfl) hw
    replace hw := hw.2 (fun h => h c8)
    refine lv_bipush (v := (-11)) hx hb dX12_like_27 (by decide) ?_
    exact z_iret hF hG hr hlk hw dX12_like_29
  replace hw := hw.2 (fun h => h c6)
  refine lv_iconst (v := (-1)) hx hb dX12_like_14 (by decide) ?_
  exact z_iret hF hG hr hlk hw dX12_like_15
set_option maxHeartbeats 4000000 in
set_option maxRecDepth 100000 in
theorem kX12_keep_ (l : Launch) (E : zE) (Z : zS) (a1 : Int32) (a2 : Int32) (a3 : Int32) (a4 : Int32) {K : Int32 → zS → Prop} (hw : wX12_keep_ a1 a2 a3 a4 Z K) : zCi l yX12_keep_ wsX12_keep_ ({ frames := 2, cells := 0, slots := 0, locals := 42 } : Room) E Z [.ref (E.2.1 97), .int a1, .int a2, .int a3, .int a4] K := by
  refine z_bodyi (cc := cX12_keep_) (nL := 5) (ret := .int) (by decide) rfl (Nat.le_of_ble_eq_true rfl) ?_
  intro p e R s m args below meth c ls hfr hlo hF hr hlk hG hl
  have hx := hF.1.1
  have hb := hF.1.2.1
  have hown := hF.1.2.2.2.1
  have hts := hF.1.2.2.2.2
  have in12 : ∀ w ∈ u_ws RX12 TX12 22, w ∈ wsX12_keep_ := fun _ h => List.mem_cons_of_mem _ (List.mem_append_right _ h)
  have hl : lv_has ls 5 [(0, .ref (E.2.1 97)), (1, .int a1), (2, .int a2), (3, .int a3), (4, .int a4)] := hl
  have J84 : ∀ (s0 : Int32) (s1 : Int32) (Z : zS) (H : Heap) (locs : List Loc) (ls : Array Slot), zG E Z s H locs → lv_has ls 5 [] → wX12_keep__84 a1 a2 a3 a4 s0 s1 Z K → W p l e R s m args below meth c H locs 0 0 (zQi E K below args s) (F0 m 84 ls [.int s0, .int s1, .ref (E.2.1 106)]) := by
    intro s0 s1 Z H locs ls hG hl hw
    unfold wX12_keep__84 at hw
    obtain ⟨q20, hw⟩ := hw
    refine z_iast hF hG 106 (by decide) (fun _ => z_m106) q20 dX12_keep__84 (fun Z21 H locs eZ21 hG => ?_)
    replace hw := hw Z21 eZ21
    refine lv_iconst (v := 0) hx hb dX12_keep__85 (by decide) ?_
    exact z_iret hF hG hr hlk hw dX12_keep__86
  have J67 : ∀ (s0 : Int32) (s1 : Int32) (Z : zS) (H : Heap) (locs : List Loc) (ls : Array Slot), zG E Z s H locs → lv_has ls 5 [(0, .ref (E.2.1 97)), (1, .int a1), (2, .int a2), (4, .int a4)] → wX12_keep__67 a1 a2 a3 a4 s0 s1 Z K → W p l e R s m args below meth c H locs 0 0 (zQi E K below args s) (F0 m 67 ls [.int s0, .int s1, .ref (E.2.1 105)]) := by
    intro s0 s1 Z H locs ls hG hl hw
    unfold wX12_keep__67 at hw
    obtain ⟨q17, hw⟩ := hw
    refine z_iast hF hG 105 (by decide) (fun _ => z_m105) q17 dX12_keep__67 (fun Z18 H locs eZ18 hG => ?_)
    replace hw := hw Z18 eZ18
    refine lv_aload_n hx hb dX12_keep__68 rfl (lv_at hl 0 rfl) ?_
    refine z_get hF hG 97 (by decide) z_md rfl in12 16 (by decide) (List.mem_of_getElem? (i := 3) rfl) rfl rfl dX12_keep__69 ?_
    refine lv_iload_n hx hb dX12_keep__72 rfl (lv_at hl 1 rfl) ?_
    refine lv_iload_n hx hb dX12_keep__73 rfl (lv_at hl 2 rfl) ?_
    refine lv_iconst (v := 1) hx hb dX12_keep__74 (by decide) ?_
    refine lv_icmp_ne (tgt := 83) hx hb dX12_keep__75 (by decide) (fun c19 => ?_) (fun c19 => ?_)
    · replace hw := hw.1 c19
      refine lv_iconst (v := 0) hx hb dX12_keep__83 (by decide) ?_
      exact J84 0 a1 Z18 _ _ _ hG (lv_sub hl [] rfl) hw
    replace hw := hw.2 (fun h => h c19)
    refine lv_iload hx hb dX12_keep__78 (lv_at hl 3 rfl) ?_
    refine lv_goto (tgt := 84) hx hb dX12_keep__80 (by decide) ?_
    exact J84 a4 a1 Z18 _ _ _ hG (lv_sub hl [] rfl) hw
  have J45 : ∀ (Z : zS) (H : Heap) (locs : List Loc) (ls : Array Slot), zG E Z s H locs → lv_has ls 5 [(0, .ref (E.2.1 97)), (1, .int a1), (2, .int a2), (3, .int a3), (4, .int a4)] → wX12_keep__45 a1 a2 a3 a4 Z K → W p l e R s m args below meth c H locs 0 0 (zQi E K below args s) (F0 m 45 ls []) := by
    intro Z H locs ls hG hl hw
    unfold wX12_keep__45 at hw
    refine lv_aload_n hx hb dX12_keep__45 rfl (lv_at hl 0 rfl) ?_
    refine z_get hF hG 97 (by decide) z_md rfl in12 14 (by decide) (List.mem_of_getElem? (i := 1) rfl) rfl rfl dX12_keep__46 ?_
    refine lv_iload_n hx hb dX12_keep__49 rfl (lv_at hl 1 rfl) ?_
    refine lv_iload_n hx hb dX12_keep__50 rfl (lv_at hl 2 rfl) ?_
    obtain ⟨q14, hw⟩ := hw
    refine z_iast hF hG 104 (by decide) (fun _ => z_m104) q14 dX12_keep__51 (fun Z15 H locs eZ15 hG => ?_)
    replace hw := hw Z15 eZ15
    refine lv_aload_n hx hb dX12_keep__52 rfl (lv_at hl 0 rfl) ?_
    refine z_get hF hG 97 (by decide) z_md rfl in12 15 (by decide) (List.mem_of_getElem? (i := 2) rfl) rfl rfl dX12_keep__53 ?_
    refine lv_iload_n hx hb dX12_keep__56 rfl (lv_at hl 1 rfl) ?_
    refine lv_iload_n hx hb dX12_keep__57 rfl (lv_at hl 2 rfl) ?_
    refine lv_iconst (v := 1) hx hb dX12_keep__58 (by decide) ?_
    refine lv_icmp_ne (tgt := 66) hx hb dX12_keep__59 (by decide) (fun c16 => ?_) (fun c16 => ?_)
    · replace hw := hw.1 c16
      refine lv_iconst (v := 0) hx hb dX12_keep__66 (by decide) ?_
      exact J67 0 a1 Z15 _ _ _ hG (lv_sub hl [0, 1, 2, 4] rfl) hw
    replace hw := hw.2 (fun h => h c16)
    refine lv_iload_n hx hb dX12_keep__62 rfl (lv_at hl 3 rfl) ?_
    refine lv_goto (tgt := 67) hx hb dX12_keep__63 (by decide) ?_
    exact J67 a3 a1 Z15 _ _ _ hG (lv_sub hl [0, 1, 2, 4] rfl) hw
  unfold wX12_keep_ at hw
  refine lv_iload_n hx hb dX12_keep__0 rfl (lv_at hl 1 rfl) ?_
  refine z_ci (va_runS (rest := []) hF.1 (kX12_isShelf l E Z a1  hw _) (va_cwS 1 hts gX12_keep__X12_isShelf rfl rfl rfl hS_yX12_isShelf ⟨Nat.le_trans (Nat.le_of_ble_eq_true rfl) hfr, Nat.le_trans (Nat.le_of_ble_eq_true rfl) hlo⟩) (z_preS hF hG) rfl rfl hl.1 rfl (lv_room (Nat.le_of_ble_eq_true rfl)) dX12_keep__1 ⟨Nat.zero_le _, Nat.zero_le _⟩) hG (fun r2 Z1 H locs hw hG => ?_)
  refine lv_if_eq (tgt := 16) hx hb dX12_keep__4 (by decide) (fun c3 => ?_) (fun c3 => ?_)
  · replace hw := hw.1 c3
    refine lv_iconst (v := (-1)) hx hb dX12_keep__16 (by decide) ?_
    exact z_iret hF hG hr hlk hw dX12_keep__17
  replace hw := hw.2 c3
  refine lv_iload_n hx hb dX12_keep__7 rfl (lv_at hl 2 rfl) ?_
  refine lv_iconst (v := 0) hx hb dX12_keep__8 (by decide) ?_
  refine lv_iconst (v := 1) hx hb dX12_keep__9 (by decide) ?_
  refine z_ci (va_runS (rest := []) hF.1 (kX12_within l E Z1 a2 0 1  hw _) (va_cwS 3 hts gX12_keep__X12_within rfl rfl rfl hS_yX12_within ⟨Nat.le_trans (Nat.le_of_ble_eq_true rfl) hfr, Nat.le_trans (Nat.le_of_ble_eq_true rfl) hlo⟩) (z_preS hF hG) rfl rfl hl.1 rfl (lv_room (Nat.le_of_ble_eq_true rfl)) dX12_keep__10 ⟨Nat.zero_le _, Nat.zero_le _⟩) hG (fun r5 Z4 H locs hw hG => ?_)
  refine lv_if_ne (tgt := 18) hx hb dX12_keep__13 (by decide) (fun c6 => ?_) (fun c6 => ?_)
  · replace hw := hw.1 c6
    refine lv_iload_n hx hb dX12_keep__18 rfl (lv_at hl 2 rfl) ?_
    refine lv_iconst (v := 1) hx hb dX12_keep__19 (by decide) ?_
    refine lv_icmp_ne (tgt := 45) hx hb dX12_keep__20 (by decide) (fun c7 => ?_) (fun c7 => ?_)
    · replace hw := hw.1 c7
      exact J45  Z4 _ _ _ hG (lv_sub hl [0, 1, 2, 3, 4] rfl) hw
    replace hw := hw.2 (fun h => h c7)
    refine lv_iload_n hx hb dX12_keep__23 rfl (lv_at hl 3 rfl) ?_
    refine lv_iconst (v := 0) hx hb dX12_keep__24 (by decide) ?_
    refine lv_iconst (v := 5) hx hb dX12_keep__25 (by decide) ?_
    refine z_ci (va_runS (rest := []) hF.1 (kX12_within l E Z4 a3 0 5  hw _) (va_cwS 3 hts gX12_keep__X12_within rfl rfl rfl hS_yX12_within ⟨Nat.le_trans (Nat.le_of_ble_eq_true rfl) hfr, Nat.le_trans (Nat.le_of_ble_eq_true rfl) hlo⟩) (z_preS hF hG) rfl rfl hl.1 rfl (lv_room (Nat.le_of_ble_eq_true rfl)) dX12_keep__26 ⟨Nat.zero_le _, Nat.zero_le _⟩) hG (fun r9 Z8 H locs hw hG => ?_)
    refine lv_if_eq (tgt := 43) hx hb dX12_keep__29 (by decide) (fun c10 => ?_) (fun c10 => ?_)
    · replace hw := hw.1 c10
      refine lv_iconst (v := (-1)) hx hb dX12_keep__43 (by decide) ?_
      exact z_iret hF hG hr hlk hw dX12_keep__44
    replace hw := hw.2 c10
    refine lv_iload hx hb dX12_keep__32 (lv_at hl 4 rfl) ?_
    refine lv_iconst (v := 0) hx hb dX12_keep__34 (by decide) ?_
    refine lv_bipush (v := 9) hx hb dX12_keep__35 (by decide) ?_
    refine z_ci (va_runS (rest := []) hF.1 (kX12_within l E Z8 a4 0 9  hw _) (va_cwS 3 hts gX12_keep__X12_within rfl rfl rfl hS_yX12_within ⟨Nat.le_trans (Nat.le_of_ble_eq_true rfl) hfr, Nat.le_trans (Nat.le_of_ble_eq_true rfl) hlo⟩) (z_preS hF hG) rfl rfl hl.1 rfl (lv_room (Nat.le_of_ble_eq_true rfl)) dX12_keep__37 ⟨Nat.zero_le _, Nat.zero_le _⟩) hG (fun r12 Z11 H locs hw hG => ?_)
    refine lv_if_ne (tgt := 45) hx hb dX12_keep__40 (by decide) (fun c13 => ?_) (fun c13 => ?_)
    · replace hw := hw.1 c13
      exact J45  Z11 _ _ _ hG (lv_sub hl [0, 1, 2, 3, 4] rfl) hw
    replace hw := hw.2 (fun h => h c13)
    refine lv_iconst (v := (-1)) hx hb dX12_keep__43 (by decide) ?_
    exact z_iret hF hG hr hlk hw dX12_keep__44
  replace hw := hw.2 (fun h => h c6)
  refine lv_iconst (v := (-1)) hx hb dX12_keep__16 (by decide) ?_
  exact z_iret hF hG hr hlk hw dX12_keep__17
set_option maxHeartbeats 4000000 in
set_option maxRecDepth 100000 in
theorem kX12_row (l : Launch) (E : zE) (Z : zS) (a1 : Int32) (a2 : Int32) (a3 : Int32) {K : Int32 → zS → Prop} (hw : wX12_row a1 a2 a3 Z K) : zCi l yX12_row wsX12_row ({ frames := 2, cells := 0, slots := 0, locals := 42 } : Room) E Z [.ref (E.2.1 97), .int a1, .int a2, .int a3] K := by
  refine z_bodyi (cc := cX12_row) (nL := 5) (ret := .int) (by decide) rfl (Nat.le_of_ble_eq_true rfl) ?_
  intro p e R s m args below meth c ls hfr hlo hF hr hlk hG hl
  have hx := hF.1.1
  have hb := hF.1.2.1
  have hown := hF.1.2.2.2.1
  have hts := hF.1.2.2.2.2
  have in12 : ∀ w ∈ u_ws RX12 TX12 22, w ∈ wsX12_row := fun _ h => List.mem_cons_of_mem _ (List.mem_append_right _ h)
  have hl : lv_has ls 5 [(0, .ref (E.2.1 97)), (1, .int a1), (2, .int a2), (3, .int a3)] := hl
  have S55 : ∀ (L55 : Int32 → zS → Prop), (∀ (x4 : Int32) (Z : zS) (H : Heap) (locs : List Loc) (ls : Array Slot), zG E Z s H locs → lv_has ls 5 [(0, .ref (E.2.1 97)), (1, .int a1), (4, .int x4)] → L55 x4 Z → W p l e R s m args below meth c H locs 0 0 (zQi E K below args s) (F0 m 55 ls [])) → ∀ (x4 : Int32) (Z : zS) (H : Heap) (locs : List Loc) (ls : Array Slot), zG E Z s H locs → lv_has ls 5 [(0, .ref (E.2.1 97)), (1, .int a1), (4, .int x4)] → wX12_row_55b L55 a1 a2 a3 x4 Z K → W p l e R s m args below meth c H locs 0 0 (zQi E K below args s) (F0 m 55 ls []) := by
    intro L55 ih55
    intro x4 Z H locs ls hG hl hw
    unfold wX12_row_55b at hw
    refine lv_iload hx hb dX12_row_55 (lv_at hl 2 rfl) ?_
    refine lv_bipush (v := 100) hx hb dX12_row_57 (by decide) ?_
    refine lv_icmp_ge (tgt := 81) hx hb dX12_row_59 (by decide) (fun c16 => ?_) (fun c16 => ?_)
    · replace hw := hw.1 c16
      refine lv_iconst (v := 0) hx hb dX12_row_81 (by decide) ?_
      exact z_iret hF hG hr hlk hw dX12_row_82
    replace hw := hw.2 c16
    refine lv_aload_n hx hb dX12_row_62 rfl (lv_at hl 0 rfl) ?_
    refine z_get hF hG 97 (by decide) z_md rfl in12 17 (by decide) (List.mem_of_getElem? (i := 4) rfl) rfl rfl dX12_row_63 ?_
    refine lv_bipush (v := 100) hx hb dX12_row_66 (by decide) ?_
    refine lv_iload_n hx hb dX12_row_68 rfl (lv_at hl 1 rfl) ?_
    refine lv_imul hx hb dX12_row_69 ?_
    refine lv_iload hx hb dX12_row_70 (lv_at hl 2 rfl) ?_
    refine lv_iadd hx hb dX12_row_72 ?_
    refine lv_iconst (v := 0) hx hb dX12_row_73 (by decide) ?_
    obtain ⟨q17, hw⟩ := hw
    refine z_iast hF hG 107 (by decide) (fun _ => z_m107) q17 dX12_row_74 (fun Z18 H locs eZ18 hG => ?_)
    replace hw := hw Z18 eZ18
    obtain ⟨y19, ey19⟩ : ∃ y : Int32, y = x4 + 1 := ⟨_, rfl⟩
    replace hw := hw y19 ey19
    refine lv_iinc (v := y19) (lv' := [(4, .int y19), (0, .ref (E.2.1 97)), (1, .int a1)]) hx hb dX12_row_75 hl (k := 2) rfl (by rw [ey19]; rfl) (by decide) rfl (fun ls hl => ?_)
    refine lv_goto (tgt := 55) hx hb dX12_row_78 (by decide) ?_
    exact ih55 y19 Z18 _ _ _ hG (lv_sub hl [1, 2, 0] rfl) hw
  have J55 : ∀ n : Nat, ∀ (x4 : Int32) (Z : zS) (H : Heap) (locs : List Loc) (ls : Array Slot), zG E Z s H locs → lv_has ls 5 [(0, .ref (E.2.1 97)), (1, .int a1), (4, .int x4)] → wX12_row_55 a1 a2 a3 K n x4 Z → W p l e R s m args below meth c H locs 0 0 (zQi E K below args s) (F0 m 55 ls []) := by
    intro n
    induction n with
    | zero => intro x4 Z H locs ls hG hl hw; exact hw.elim
    | succ n ih => intro x4 Z H locs ls hG hl hw; exact S55 _ ih x4 Z H locs ls hG hl hw
  unfold wX12_row at hw
  refine lv_iload_n hx hb dX12_row_0 rfl (lv_at hl 1 rfl) ?_
  refine z_ci (va_runS (rest := []) hF.1 (kX12_isShelf l E Z a1  hw _) (va_cwS 1 hts gX12_row_X12_isShelf rfl rfl rfl hS_yX12_isShelf ⟨Nat.le_trans (Nat.le_of_ble_eq_true rfl) hfr, Nat.le_trans (Nat.le_of_ble_eq_true rfl) hlo⟩) (z_preS hF hG) rfl rfl hl.1 rfl (lv_room (Nat.le_of_ble_eq_true rfl)) dX12_row_1 ⟨Nat.zero_le _, Nat.zero_le _⟩) hG (fun r2 Z1 H locs hw hG => ?_)
  refine lv_if_eq (tgt := 22) hx hb dX12_row_4 (by decide) (fun c3 => ?_) (fun c3 => ?_)
  · replace hw := hw.1 c3
    refine lv_iconst (v := (-1)) hx hb dX12_row_22 (by decide) ?_
    exact z_iret hF hG hr hlk hw dX12_row_23
  replace hw := hw.2 c3
  refine lv_iload_n hx hb dX12_row_7 rfl (lv_at hl 2 rfl) ?_
  refine lv_iconst (v := 0) hx hb dX12_row_8 (by decide) ?_
  refine lv_iconst (v := 2) hx hb dX12_row_9 (by decide) ?_
  refine z_ci (va_runS (rest := []) hF.1 (kX12_within l E Z1 a2 0 2  hw _) (va_cwS 3 hts gX12_row_X12_within rfl rfl rfl hS_yX12_within ⟨Nat.le_trans (Nat.le_of_ble_eq_true rfl) hfr, Nat.le_trans (Nat.le_of_ble_eq_true rfl) hlo⟩) (z_preS hF hG) rfl rfl hl.1 rfl (lv_room (Nat.le_of_ble_eq_true rfl)) dX12_row_10 ⟨Nat.zero_le _, Nat.zero_le _⟩) hG (fun r5 Z4 H locs hw hG => ?_)
  refine lv_if_eq (tgt := 22) hx hb dX12_row_13 (by decide) (fun c6 => ?_) (fun c6 => ?_)
  · replace hw := hw.1 c6
    refine lv_iconst (v := (-1)) hx hb dX12_row_22 (by decide) ?_
    exact z_iret hF hG hr hlk hw dX12_row_23
  replace hw := hw.2 c6
  refine lv_iload_n hx hb dX12_row_16 rfl (lv_at hl 3 rfl) ?_
  refine lv_bipush (v := 100) hx hb dX12_row_17 (by decide) ?_
  refine lv_icmp_le (tgt := 24) hx hb dX12_row_19 (by decide) (fun c7 => ?_) (fun c7 => ?_)
  · replace hw := hw.1 c7
    refine lv_iload_n hx hb dX12_row_24 rfl (lv_at hl 3 rfl) ?_
    refine lv_if_ge (tgt := 31) hx hb dX12_row_25 (by decide) (fun c8 => ?_) (fun c8 => ?_)
    · replace hw := hw.1 c8
      refine lv_aload_n hx hb dX12_row_31 rfl (lv_at hl 0 rfl) ?_
      refine z_get hF hG 97 (by decide) z_md rfl in12 14 (by decide) (List.mem_of_getElem? (i := 1) rfl) rfl rfl dX12_row_32 ?_
      refine lv_iload_n hx hb dX12_row_35 rfl (lv_at hl 1 rfl) ?_
      refine lv_iconst (v := 2) hx hb dX12_row_36 (by decide) ?_
      obtain ⟨q9, hw⟩ := hw
      refine z_iast hF hG 104 (by decide) (fun _ => z_m104) q9 dX12_row_37 (fun Z10 H locs eZ10 hG => ?_)
      replace hw := hw Z10 eZ10
      refine lv_aload_n hx hb dX12_row_38 rfl (lv_at hl 0 rfl) ?_
      refine z_get hF hG 97 (by decide) z_md rfl in12 15 (by decide) (List.mem_of_getElem? (i := 2) rfl) rfl rfl dX12_row_39 ?_
      refine lv_iload_n hx hb dX12_row_42 rfl (lv_at hl 1 rfl) ?_
      refine lv_iload_n hx hb dX12_row_43 rfl (lv_at hl 2 rfl) ?_
      obtain ⟨q11, hw⟩ := hw
      refine z_iast hF hG 105 (by decide) (fun _ => z_m105) q11 dX12_row_44 (fun Z12 H locs eZ12 hG => ?_)
      replace hw := hw Z12 eZ12
      refine lv_aload_n hx hb dX12_row_45 rfl (lv_at hl 0 rfl) ?_
      refine z_get hF hG 97 (by decide) z_md rfl in12 16 (by decide) (List.mem_of_getElem? (i := 3) rfl) rfl rfl dX12_row_46 ?_
      refine lv_iload_n hx hb dX12_row_49 rfl (lv_at hl 1 rfl) ?_
      refine lv_iload_n hx hb dX12_row_50 rfl (lv_at hl 3 rfl) ?_
      obtain ⟨q13, hw⟩ := hw
      refine z_iast hF hG 106 (by decide) (fun _ => z_m106) q13 dX12_row_51 (fun Z14 H locs eZ14 hG => ?_)
      replace hw := hw Z14 eZ14
      refine lv_iconst (v := 0) hx hb dX12_row_52 (by decide) ?_
      refine lv_topi (fun y15 ey15 => ?_)
      replace hw := hw y15 ey15
      refine lv_istore (lv' := [(4, .int y15), (0, .ref (E.2.1 97)), (1, .int a1), (2, .int a2), (3, .int a3)]) hx hb dX12_row_53 hl (by decide) rfl (fun ls hl => ?_)
      obtain ⟨n55, hw⟩ := hw
      exact J55 n55 y15 Z14 _ _ _ hG (lv_sub hl [1, 2, 0] rfl) hw
    replace hw := hw.2 c8
    refine lv_bipush (v := (-14)) hx hb dX12_row_28 (by decide) ?_
    exact z_iret hF hG hr hlk hw dX12_row_30
  replace hw := hw.2 c7
  refine lv_iconst (v := (-1)) hx hb dX12_row_22 (by decide) ?_
  exact z_iret hF hG hr hlk hw dX12_row_23
set_option maxHeartbeats 4000000 in
set_option maxRecDepth 100000 in
theorem kX12_put (l : Launch) (E : zE) (Z : zS) (a1 : Int32) (a2 : Int32) (a3 : Int32) {K : Int32 → zS → Prop} (hw : wX12_put a1 a2 a3 Z K) : zCi l yX12_put wsX12_put ({ frames := 2, cells := 0, slots := 0, locals := 42 } : Room) E Z [.ref (E.2.1 97), .int a1, .int a2, .int a3] K := by
  refine z_bodyi (cc := cX12_put) (nL := 5) (ret := .int) (by decide) rfl (Nat.le_of_ble_eq_true rfl) ?_
  intro p e R s m args below meth c ls hfr hlo hF hr hlk hG hl
  have hx := hF.1.1
  have hb := hF.1.2.1
  have hown := hF.1.2.2.2.1
  have hts := hF.1.2.2.2.2
  have in12 : ∀ w ∈ u_ws RX12 TX12 22, w ∈ wsX12_put := fun _ h => List.mem_cons_of_mem _ (List.mem_append_right _ h)
  have hl : lv_has ls 5 [(0, .ref (E.2.1 97)), (1, .int a1), (2, .int a2), (3, .int a3)] := hl
  have J83 : ∀ (s0 : Int32) (s1 : Int32) (Z : zS) (H : Heap) (locs : List Loc) (ls : Array Slot), zG E Z s H locs → lv_has ls 5 [] → wX12_put_83 a1 a2 a3 s0 s1 Z K → W p l e R s m args below meth c H locs 0 0 (zQi E K below args s) (F0 m 83 ls [.int s0, .int s1, .ref (E.2.1 107)]) := by
    intro s0 s1 Z H locs ls hG hl hw
    unfold wX12_put_83 at hw
    obtain ⟨q15, hw⟩ := hw
    refine z_iast hF hG 107 (by decide) (fun _ => z_m107) q15 dX12_put_83 (fun Z16 H locs eZ16 hG => ?_)
    replace hw := hw Z16 eZ16
    refine lv_iconst (v := 0) hx hb dX12_put_84 (by decide) ?_
    exact z_iret hF hG hr hlk hw dX12_put_85
  unfold wX12_put at hw
  refine lv_iload_n hx hb dX12_put_0 rfl (lv_at hl 1 rfl) ?_
  refine z_ci (va_runS (rest := []) hF.1 (kX12_isShelf l E Z a1  hw _) (va_cwS 1 hts gX12_put_X12_isShelf rfl rfl rfl hS_yX12_isShelf ⟨Nat.le_trans (Nat.le_of_ble_eq_true rfl) hfr, Nat.le_trans (Nat.le_of_ble_eq_true rfl) hlo⟩) (z_preS hF hG) rfl rfl hl.1 rfl (lv_room (Nat.le_of_ble_eq_true rfl)) dX12_put_1 ⟨Nat.zero_le _, Nat.zero_le _⟩) hG (fun r2 Z1 H locs hw hG => ?_)
  refine lv_if_ne (tgt := 9) hx hb dX12_put_4 (by decide) (fun c3 => ?_) (fun c3 => ?_)
  · replace hw := hw.1 c3
    refine lv_aload_n hx hb dX12_put_9 rfl (lv_at hl 0 rfl) ?_
    refine lv_iload_n hx hb dX12_put_10 rfl (lv_at hl 1 rfl) ?_
    refine z_ci (va_runV (rest := []) hF.1 (kX12_noRow l E Z1 a1  hw _) (cwV 1 hts gX12_put_X12_noRow rfl rfl rfl ⟨rfl, hS_yX12_noRow⟩ ⟨Nat.le_trans (Nat.le_of_ble_eq_true rfl) hfr, Nat.le_trans (Nat.le_of_ble_eq_true rfl) hlo⟩) (z_preV hF hG 97 (by decide) z_md rfl) rfl rfl hl.1 rfl (lv_room (Nat.le_of_ble_eq_true rfl)) dX12_put_11 ⟨Nat.zero_le _, Nat.zero_le _⟩) hG (fun r5 Z4 H locs hw hG => ?_)
    refine lv_istore (lv' := [(4, .int r5), (0, .ref (E.2.1 97)), (1, .int a1), (2, .int a2), (3, .int a3)]) hx hb dX12_put_14 hl (by decide) rfl (fun ls hl => ?_)
    refine lv_iload hx hb dX12_put_16 (lv_at hl 0 rfl) ?_
    refine lv_if_ge (tgt := 24) hx hb dX12_put_18 (by decide) (fun c6 => ?_) (fun c6 => ?_)
    · replace hw := hw.1 c6
      refine lv_iload_n hx hb dX12_put_24 rfl (lv_at hl 3 rfl) ?_
      refine lv_iconst (v := 0) hx hb dX12_put_25 (by decide) ?_
      refine lv_aload_n hx hb dX12_put_26 rfl (lv_at hl 1 rfl) ?_
      refine z_get hF hG 97 (by decide) z_md rfl in12 16 (by decide) (List.mem_of_getElem? (i := 1) rfl) rfl rfl dX12_put_27 ?_
      refine lv_iload_n hx hb dX12_put_30 rfl (lv_at hl 2 rfl) ?_
      obtain ⟨q7, hw⟩ := hw
      refine z_iald hF hG 106 (by decide) z_m106 q7 dX12_put_31 ?_
      refine lv_iconst (v := 1) hx hb dX12_put_32 (by decide) ?_
      refine lv_isub hx hb dX12_put_33 ?_
      refine z_ci (va_runS (rest := []) hF.1 (kX12_within l E Z4 a2 0 (((Z4 106 (a1 : Int32).toNatClampNeg) - 1))  hw _) (va_cwS 3 hts gX12_put_X12_within rfl rfl rfl hS_yX12_within ⟨Nat.le_trans (Nat.le_of_ble_eq_true rfl) hfr, Nat.le_trans (Nat.le_of_ble_eq_true rfl) hlo⟩) (z_preS hF hG) rfl rfl hl.1 rfl (lv_room (Nat.le_of_ble_eq_true rfl)) dX12_put_34 ⟨Nat.zero_le _, Nat.zero_le _⟩) hG (fun r9 Z8 H locs hw hG => ?_)
      refine lv_if_ne (tgt := 43) hx hb dX12_put_37 (by decide) (fun c10 => ?_) (fun c10 => ?_)
      · replace hw := hw.1 c10
        refine lv_aload_n hx hb dX12_put_43 rfl (lv_at hl 1 rfl) ?_
        refine z_get hF hG 97 (by decide) z_md rfl in12 17 (by decide) (List.mem_of_getElem? (i := 2) rfl) rfl rfl dX12_put_44 ?_
        refine lv_bipush (v := 100) hx hb dX12_put_47 (by decide) ?_
        refine lv_iload_n hx hb dX12_put_49 rfl (lv_at hl 2 rfl) ?_
        refine lv_imul hx hb dX12_put_50 ?_
        refine lv_iload_n hx hb dX12_put_51 rfl (lv_at hl 3 rfl) ?_
        refine lv_iadd hx hb dX12_put_52 ?_
        refine lv_aload_n hx hb dX12_put_53 rfl (lv_at hl 1 rfl) ?_
        refine z_get hF hG 97 (by decide) z_md rfl in12 15 (by decide) (List.mem_of_getElem? (i := 3) rfl) rfl rfl dX12_put_54 ?_
        refine lv_iload_n hx hb dX12_put_57 rfl (lv_at hl 2 rfl) ?_
        obtain ⟨q11, hw⟩ := hw
        refine z_iald hF hG 105 (by decide) z_m105 q11 dX12_put_58 ?_
        refine lv_if_ne (tgt := 67) hx hb dX12_put_59 (by decide) (fun c12 => ?_) (fun c12 => ?_)
        · replace hw := hw.1 c12
          refine lv_aload_n hx hb dX12_put_67 rfl (lv_at hl 1 rfl) ?_
          refine z_get hF hG 97 (by decide) z_md rfl in12 15 (by decide) (List.mem_of_getElem? (i := 3) rfl) rfl rfl dX12_put_68 ?_
          refine lv_iload_n hx hb dX12_put_71 rfl (lv_at hl 2 rfl) ?_
          obtain ⟨q13, hw⟩ := hw
          refine z_iald hF hG 105 (by decide) z_m105 q13 dX12_put_72 ?_
          refine lv_iconst (v := 1) hx hb dX12_put_73 (by decide) ?_
          refine lv_icmp_ne (tgt := 82) hx hb dX12_put_74 (by decide) (fun c14 => ?_) (fun c14 => ?_)
          · replace hw := hw.1 c14
            refine lv_iload_n hx hb dX12_put_82 rfl (lv_at hl 4 rfl) ?_
            exact J83 a3 (((100 * a1) + a2)) Z8 _ _ _ hG (lv_sub hl [] rfl) hw
          replace hw := hw.2 (fun h => h c14)
          refine lv_iload_n hx hb dX12_put_77 rfl (lv_at hl 4 rfl) ?_
          refine lv_i2s hx hb dX12_put_78 rfl ?_
          refine lv_goto (tgt := 83) hx hb dX12_put_79 (by decide) ?_
          exact J83 ((Int16.toInt32 (Int32.toInt16 a3))) (((100 * a1) + a2)) Z8 _ _ _ hG (lv_sub hl [] rfl) hw
        replace hw := hw.2 (fun h => h c12)
        refine lv_iload_n hx hb dX12_put_62 rfl (lv_at hl 4 rfl) ?_
        refine lv_i2b hx hb dX12_put_63 rfl ?_
        refine lv_goto (tgt := 83) hx hb dX12_put_64 (by decide) ?_
        exact J83 ((Int8.toInt32 (Int32.toInt8 a3))) (((100 * a1) + a2)) Z8 _ _ _ hG (lv_sub hl [] rfl) hw
      replace hw := hw.2 (fun h => h c10)
      refine lv_bipush (v := (-13)) hx hb dX12_put_40 (by decide) ?_
      exact z_iret hF hG hr hlk hw dX12_put_42
    replace hw := hw.2 c6
    refine lv_iload hx hb dX12_put_21 (lv_at hl 0 rfl) ?_
    exact z_iret hF hG hr hlk hw dX12_put_23
  replace hw := hw.2 (fun h => h c3)
  refine lv_iconst (v := (-1)) hx hb dX12_put_7 (by decide) ?_
  exact z_iret hF hG hr hlk hw dX12_put_8
set_option maxHeartbeats 4000000 in
set_option maxRecDepth 100000 in
theorem kX12_thrown (l : Launch) (E : zE) (Z : zS) {K : Int32 → zS → Prop} (hw : wX12_thrown Z K) : zCi l yX12_thrown wsX12_thrown ({ frames := 0, cells := 0, slots := 0, locals := 0 } : Room) E Z [.ref (E.2.1 97)] K := by
  refine z_bodyi (cc := cX12_thrown) (nL := 1) (ret := .int) (by decide) rfl (Nat.le_of_ble_eq_true rfl) ?_
  intro p e R s m args below meth c ls hfr hlo hF hr hlk hG hl
  have hx := hF.1.1
  have hb := hF.1.2.1
  have hown := hF.1.2.2.2.1
  have hts := hF.1.2.2.2.2
  have in12 : ∀ w ∈ u_ws RX12 TX12 22, w ∈ wsX12_thrown := fun _ h => List.mem_cons_of_mem _ (List.mem_append_right _ h)
  have hl : lv_has ls 1 [(0, .ref (E.2.1 97))] := hl
  unfold wX12_thrown at hw
  refine lv_aload_n hx hb dX12_thrown_0 rfl (lv_at hl 0 rfl) ?_
  refine z_get hF hG 97 (by decide) z_md rfl in12 21 (by decide) (List.mem_of_getElem? (i := 1) rfl) rfl rfl dX12_thrown_1 ?_
  exact z_iret hF hG hr hlk hw dX12_thrown_4
set_option maxHeartbeats 4000000 in
set_option maxRecDepth 100000 in
theorem kX12_element (l : Launch) (E : zE) (Z : zS) (a1 : Int32) (a2 : Int32) {K : Int64 → zS → Prop} (hw : wX12_element a1 a2 Z K) : zCl l yX12_element wsX12_element ({ frames := 2, cells := 0, slots := 0, locals := 42 } : Room) E Z [.ref (E.2.1 97), .int a1, .int a2] K := by
  refine z_bodyl (cc := cX12_element) (nL := 3) (by decide) rfl (Nat.le_of_ble_eq_true rfl) ?_
  intro p e R s m args below meth c ls hfr hlo hF hr hlk hG hl
  have hx := hF.1.1
  have hb := hF.1.2.1
  have hown := hF.1.2.2.2.1
  have hts := hF.1.2.2.2.2
  have in12 : ∀ w ∈ u_ws RX12 TX12 22, w ∈ wsX12_element := fun _ h => List.mem_cons_of_mem _ (List.mem_append_right _ h)
  have hl : lv_has ls 3 [(0, .ref (E.2.1 97)), (1, .int a1), (2, .int a2)] := hl
  have J43 : ∀ (s0 : Int32) (Z : zS) (H : Heap) (locs : List Loc) (ls : Array Slot), zG E Z s H locs → lv_has ls 3 [(0, .ref (E.2.1 97)), (1, .int a1), (2, .int a2)] → wX12_element_43 a1 a2 s0 Z K → W p l e R s m args below meth c H locs 0 0 (zQl E K below args s) (F0 m 43 ls [.int s0, .ref (E.2.1 97)]) := by
    intro s0 Z H locs ls hG hl hw
    unfold wX12_element_43 at hw
    refine z_put hF hG 97 (by decide) z_md rfl in12 tyX12_ok nmX12 21 (by decide) (List.mem_of_getElem? (i := 3) rfl) rfl rfl (tyX12_ok 21 (by decide)) rfl rfl (Nat.le_of_ble_eq_true rfl) s0 z_md dX12_element_43 (fun Z10 H locs eZ10 hG => ?_)
    replace hw := hw Z10 eZ10
    refine lv_aload_n hx hb dX12_element_46 rfl (lv_at hl 0 rfl) ?_
    refine z_get hF hG 97 (by decide) z_md rfl in12 21 (by decide) (List.mem_of_getElem? (i := 3) rfl) rfl rfl dX12_element_47 ?_
    refine lv_if_eq (tgt := 57) hx hb dX12_element_50 (by decide) (fun c11 => ?_) (fun c11 => ?_)
    · replace hw := hw.1 c11
      refine lv_aload_n hx hb dX12_element_57 rfl (lv_at hl 0 rfl) ?_
      refine z_get hF hG 97 (by decide) z_md rfl in12 17 (by decide) (List.mem_of_getElem? (i := 4) rfl) rfl rfl dX12_element_58 ?_
      refine lv_bipush (v := 100) hx hb dX12_element_61 (by decide) ?_
      refine lv_iload_n hx hb dX12_element_63 rfl (lv_at hl 1 rfl) ?_
      refine lv_imul hx hb dX12_element_64 ?_
      refine lv_iload_n hx hb dX12_element_65 rfl (lv_at hl 2 rfl) ?_
      refine lv_iadd hx hb dX12_element_66 ?_
      obtain ⟨q12, hw⟩ := hw
      refine z_iald hF hG 107 (by decide) z_m107 q12 dX12_element_67 ?_
      refine lv_i2l hx hb dX12_element_68 rfl ?_
      exact z_lret hF hG hr hlk hw dX12_element_69
    replace hw := hw.2 c11
    refine lv_lconst (v := 0) hx hb dX12_element_53 rfl ?_
    refine lv_goto (tgt := 69) hx hb dX12_element_54 (by decide) ?_
    exact z_lret hF hG hr hlk hw dX12_element_69
  have J38 : ∀ (Z : zS) (H : Heap) (locs : List Loc) (ls : Array Slot), zG E Z s H locs → lv_has ls 3 [(0, .ref (E.2.1 97)), (1, .int a1), (2, .int a2)] → wX12_element_38 a1 a2 Z K → W p l e R s m args below meth c H locs 0 0 (zQl E K below args s) (F0 m 38 ls [.ref (E.2.1 97)]) := by
    intro Z H locs ls hG hl hw
    unfold wX12_element_38 at hw
    refine lv_iconst (v := 2) hx hb dX12_element_38 (by decide) ?_
    refine lv_goto (tgt := 43) hx hb dX12_element_39 (by decide) ?_
    exact J43 2 Z _ _ _ hG (lv_sub hl [0, 1, 2] rfl) hw
  unfold wX12_element at hw
  refine lv_aload_n hx hb dX12_element_0 rfl (lv_at hl 0 rfl) ?_
  refine lv_iload_n hx hb dX12_element_1 rfl (lv_at hl 1 rfl) ?_
  refine z_ci (va_runS (rest := [.ref (E.2.1 97)]) hF.1 (kX12_isShelf l E Z a1  hw _) (va_cwS 1 hts gX12_element_X12_isShelf rfl rfl rfl hS_yX12_isShelf ⟨Nat.le_trans (Nat.le_of_ble_eq_true rfl) hfr, Nat.le_trans (Nat.le_of_ble_eq_true rfl) hlo⟩) (z_preS hF hG) rfl rfl hl.1 rfl (lv_room (Nat.le_of_ble_eq_true rfl)) dX12_element_2 ⟨Nat.zero_le _, Nat.zero_le _⟩) hG (fun r2 Z1 H locs hw hG => ?_)
  refine lv_if_ne (tgt := 12) hx hb dX12_element_5 (by decide) (fun c3 => ?_) (fun c3 => ?_)
  · replace hw := hw.1 c3
    refine lv_aload_n hx hb dX12_element_12 rfl (lv_at hl 0 rfl) ?_
    refine z_get hF hG 97 (by decide) z_md rfl in12 14 (by decide) (List.mem_of_getElem? (i := 1) rfl) rfl rfl dX12_element_13 ?_
    refine lv_iload_n hx hb dX12_element_16 rfl (lv_at hl 1 rfl) ?_
    obtain ⟨q4, hw⟩ := hw
    refine z_iald hF hG 104 (by decide) z_m104 q4 dX12_element_17 ?_
    refine lv_iconst (v := 2) hx hb dX12_element_18 (by decide) ?_
    refine lv_icmp_ne (tgt := 38) hx hb dX12_element_19 (by decide) (fun c5 => ?_) (fun c5 => ?_)
    · replace hw := hw.1 c5
      exact J38  Z1 _ _ _ hG (lv_sub hl [0, 1, 2] rfl) hw
    replace hw := hw.2 (fun h => h c5)
    refine lv_iload_n hx hb dX12_element_22 rfl (lv_at hl 2 rfl) ?_
    refine lv_iconst (v := 0) hx hb dX12_element_23 (by decide) ?_
    refine lv_aload_n hx hb dX12_element_24 rfl (lv_at hl 0 rfl) ?_
    refine z_get hF hG 97 (by decide) z_md rfl in12 16 (by decide) (List.mem_of_getElem? (i := 2) rfl) rfl rfl dX12_element_25 ?_
    refine lv_iload_n hx hb dX12_element_28 rfl (lv_at hl 1 rfl) ?_
    obtain ⟨q6, hw⟩ := hw
    refine z_iald hF hG 106 (by decide) z_m106 q6 dX12_element_29 ?_
    refine lv_iconst (v := 1) hx hb dX12_element_30 (by decide) ?_
    refine lv_isub hx hb dX12_element_31 ?_
    refine z_ci (va_runS (rest := [.ref (E.2.1 97)]) hF.1 (kX12_within l E Z1 a2 0 (((Z1 106 (a1 : Int32).toNatClampNeg) - 1))  hw _) (va_cwS 3 hts gX12_element_X12_within rfl rfl rfl hS_yX12_within ⟨Nat.le_trans (Nat.le_of_ble_eq_true rfl) hfr, Nat.le_trans (Nat.le_of_ble_eq_true rfl) hlo⟩) (z_preS hF hG) rfl rfl hl.1 rfl (lv_room (Nat.le_of_ble_eq_true rfl)) dX12_element_32 ⟨Nat.zero_le _, Nat.zero_le _⟩) hG (fun r8 Z7 H locs hw hG => ?_)
    refine lv_if_ne (tgt := 42) hx hb dX12_element_35 (by decide) (fun c9 => ?_) (fun c9 => ?_)
    · replace hw := hw.1 c9
      refine lv_iconst (v := 0) hx hb dX12_element_42 (by decide) ?_
      exact J43 0 Z7 _ _ _ hG (lv_sub hl [0, 1, 2] rfl) hw
    replace hw := hw.2 (fun h => h c9)
    exact J38  Z7 _ _ _ hG (lv_sub hl [0, 1, 2] rfl) hw
  replace hw := hw.2 (fun h => h c3)
  refine lv_iconst (v := 1) hx hb dX12_element_8 (by decide) ?_
  refine lv_goto (tgt := 43) hx hb dX12_element_9 (by decide) ?_
  exact J43 1 Z1 _ _ _ hG (lv_sub hl [0, 1, 2] rfl) hw
