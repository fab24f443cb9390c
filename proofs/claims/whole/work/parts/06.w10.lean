theorem hS_yX12_later : yX12_later.cls ≠ "java/lang/invoke/MethodHandle" ∧ yX12_later.cls ≠ "java/lang/invoke/VarHandle" ∧ (parseMethodDescriptor yX12_later.desc).map (fun d => d.parameters.length) = some 1 := by decide +kernel
set_option maxHeartbeats 4000000 in
set_option maxRecDepth 100000 in
theorem kX12_misses (l : Launch) (E : zE) (Z : zS) (a1 : Int32) {K : Int32 → zS → Prop} (hw : wX12_misses a1 Z K) : zCi l yX12_misses wsX12_misses ({ frames := 6, cells := 0, slots := 0, locals := 128 } : Room) E Z [.ref (E.2.1 97), .int a1] K := by
  refine z_bodyi (cc := cX12_misses) (nL := 5) (ret := .int) (by decide) rfl (Nat.le_of_ble_eq_true rfl) ?_
  intro p e R s m args below meth c ls hfr hlo hF hr hlk hG hl
  have hx := hF.1.1
  have hb := hF.1.2.1
  have hown := hF.1.2.2.2.1
  have hts := hF.1.2.2.2.2
  have in12 : ∀ w ∈ u_ws RX12 TX12 22, w ∈ wsX12_misses := fun _ h => List.mem_cons_of_mem _ (List.mem_append_right _ h)
  have hl : lv_has ls 5 [(0, .ref (E.2.1 97)), (1, .int a1)] := hl
  have J76 : ∀ (x2 : Int32) (Z : zS) (H : Heap) (locs : List Loc) (ls : Array Slot), zG E Z s H locs → lv_has ls 5 [(0, .ref (E.2.1 97)), (2, .int x2)] → wX12_misses_76 a1 x2 Z K → W p l e R s m args below meth c H locs 0 0 (zQi E K below args s) (F0 m 76 ls []) := by
    intro x2 Z H locs ls hG hl hw
    unfold wX12_misses_76 at hw
    refine lv_aload_n hx hb dX12_misses_76 rfl (lv_at hl 0 rfl) ?_
    refine lv_aload_n hx hb dX12_misses_77 rfl (lv_at hl 0 rfl) ?_
    refine z_get hF hG 97 (by decide) z_md rfl in12 10 (by decide) (List.mem_of_getElem? (i := 1) rfl) rfl rfl dX12_misses_78 ?_
    refine z_cv (va_runV (rest := []) hF.1 (kX12_again l E Z 102 122 (by decide) (fun _ => z_m102) hw _) (cwV 1 hts gX12_misses_X12_again rfl rfl rfl ⟨rfl, hS_yX12_again⟩ ⟨Nat.le_trans (Nat.le_of_ble_eq_true rfl) hfr, Nat.le_trans (Nat.le_of_ble_eq_true rfl) hlo⟩) (z_preV hF hG 97 (by decide) z_md rfl) rfl rfl hl.1 rfl (lv_room (Nat.le_of_ble_eq_true rfl)) dX12_misses_81 ⟨Nat.zero_le _, Nat.zero_le _⟩) hG (fun Z16 H locs hw hG => ?_)
    refine lv_iload_n hx hb dX12_misses_84 rfl (lv_at hl 1 rfl) ?_
    exact z_iret hF hG hr hlk hw dX12_misses_85
  have S28 : ∀ (L28 : Int32 → Int32 → zS → Prop), (∀ (x2 : Int32) (x3 : Int32) (Z : zS) (H : Heap) (locs : List Loc) (ls : Array Slot), zG E Z s H locs → lv_has ls 5 [(0, .ref (E.2.1 97)), (1, .int a1), (2, .int x2), (3, .int x3)] → L28 x2 x3 Z → W p l e R s m args below meth c H locs 0 0 (zQi E K below args s) (F0 m 28 ls [])) → ∀ (x2 : Int32) (x3 : Int32) (Z : zS) (H : Heap) (locs : List Loc) (ls : Array Slot), zG E Z s H locs → lv_has ls 5 [(0, .ref (E.2.1 97)), (1, .int a1), (2, .int x2), (3, .int x3)] → wX12_misses_28b L28 a1 x2 x3 Z K → W p l e R s m args below meth c H locs 0 0 (zQi E K below args s) (F0 m 28 ls []) := by
    intro L28 ih28
    have J70 : ∀ (x2 : Int32) (x3 : Int32) (Z : zS) (H : Heap) (locs : List Loc) (ls : Array Slot), zG E Z s H locs → lv_has ls 5 [(0, .ref (E.2.1 97)), (1, .int a1), (2, .int x2), (3, .int x3)] → wX12_misses_70 L28 a1 x2 x3 Z K → W p l e R s m args below meth c H locs 0 0 (zQi E K below args s) (F0 m 70 ls []) := by
      intro x2 x3 Z H locs ls hG hl hw
      unfold wX12_misses_70 at hw
      obtain ⟨y15, ey15⟩ : ∃ y : Int32, y = x3 + 1 := ⟨_, rfl⟩
      replace hw := hw y15 ey15
      refine lv_iinc (v := y15) (lv' := [(3, .int y15), (0, .ref (E.2.1 97)), (1, .int a1), (2, .int x2)]) hx hb dX12_misses_70 hl (k := 3) rfl (by rw [ey15]; rfl) (by decide) rfl (fun ls hl => ?_)
      refine lv_goto (tgt := 28) hx hb dX12_misses_73 (by decide) ?_
      exact ih28 x2 y15 Z _ _ _ hG (lv_sub hl [1, 2, 3, 0] rfl) hw
    have J69 : ∀ (x3 : Int32) (s0 : Int32) (Z : zS) (H : Heap) (locs : List Loc) (ls : Array Slot), zG E Z s H locs → lv_has ls 5 [(0, .ref (E.2.1 97)), (1, .int a1), (3, .int x3)] → wX12_misses_69 L28 a1 x3 s0 Z K → W p l e R s m args below meth c H locs 0 0 (zQi E K below args s) (F0 m 69 ls [.int s0]) := by
      intro x3 s0 Z H locs ls hG hl hw
      unfold wX12_misses_69 at hw
      refine lv_istore_n (lv' := [(2, .int s0), (0, .ref (E.2.1 97)), (1, .int a1), (3, .int x3)]) hx hb dX12_misses_69 rfl hl (by decide) rfl (fun ls hl => ?_)
      exact J70 s0 x3 Z _ _ _ hG (lv_sub hl [1, 2, 0, 3] rfl) hw
    intro x2 x3 Z H locs ls hG hl hw
    unfold wX12_misses_28b at hw
    refine lv_iload_n hx hb dX12_misses_28 rfl (lv_at hl 3 rfl) ?_
    refine lv_bipush (v := 100) hx hb dX12_misses_29 (by decide) ?_
    refine lv_icmp_ge (tgt := 76) hx hb dX12_misses_31 (by decide) (fun c8 => ?_) (fun c8 => ?_)
    · replace hw := hw.1 c8
      exact J76 x2 Z _ _ _ hG (lv_sub hl [0, 2] rfl) hw
    replace hw := hw.2 c8
    refine lv_iload_n hx hb dX12_misses_34 rfl (lv_at hl 2 rfl) ?_
    refine lv_bipush (v := (-4)) hx hb dX12_misses_35 (by decide) ?_
    refine lv_icmp_ne (tgt := 76) hx hb dX12_misses_37 (by decide) (fun c9 => ?_) (fun c9 => ?_)
    · replace hw := hw.1 c9
      exact J76 x2 Z _ _ _ hG (lv_sub hl [0, 2] rfl) hw
    replace hw := hw.2 (fun h => h c9)
    refine lv_aload_n hx hb dX12_misses_40 rfl (lv_at hl 0 rfl) ?_
    refine z_cv (va_runV (rest := []) hF.1 (kX12_goes l E Z   hw _) (cwV 0 hts gX12_misses_X12_goes rfl rfl rfl ⟨rfl, hS_yX12_goes⟩ ⟨Nat.le_trans (Nat.le_of_ble_eq_true rfl) hfr, Nat.le_trans (Nat.le_of_ble_eq_true rfl) hlo⟩) (z_preV hF hG 97 (by decide) z_md rfl) rfl rfl hl.1 rfl (lv_room (Nat.le_of_ble_eq_true rfl)) dX12_misses_41 ⟨Nat.zero_le _, Nat.zero_le _⟩) hG (fun Z10 H locs hw hG => ?_)
    refine lv_aload_n hx hb dX12_misses_44 rfl (lv_at hl 0 rfl) ?_
    refine lv_iload_n hx hb dX12_misses_45 rfl (lv_at hl 1 rfl) ?_
    refine z_ci (va_runV (rest := []) hF.1 (kX12_later l E Z10 a1  hw _) (cwV 1 hts gX12_misses_X12_later rfl rfl rfl ⟨rfl, hS_yX12_later⟩ ⟨Nat.le_trans (Nat.le_of_ble_eq_true rfl) hfr, Nat.le_trans (Nat.le_of_ble_eq_true rfl) hlo⟩) (z_preV hF hG 97 (by decide) z_md rfl) rfl rfl hl.1 rfl (lv_room (Nat.le_of_ble_eq_true rfl)) dX12_misses_46 ⟨Nat.zero_le _, Nat.zero_le _⟩) hG (fun r12 Z11 H locs hw hG => ?_)
    refine lv_istore (lv' := [(4, .int r12), (0, .ref (E.2.1 97)), (1, .int a1), (2, .int x2), (3, .int x3)]) hx hb dX12_misses_49 hl (by decide) rfl (fun ls hl => ?_)
    refine lv_iload hx hb dX12_misses_51 (lv_at hl 0 rfl) ?_
    refine lv_bipush (v := (-4)) hx hb dX12_misses_53 (by decide) ?_
    refine lv_icmp_eq (tgt := 70) hx hb dX12_misses_55 (by decide) (fun c13 => ?_) (fun c13 => ?_)
    · replace hw := hw.1 c13
      exact J70 x2 x3 Z11 _ _ _ hG (lv_sub hl [1, 2, 3, 4] rfl) hw
    replace hw := hw.2 c13
    refine lv_iload_n hx hb dX12_misses_58 rfl (lv_at hl 2 rfl) ?_
    refine lv_iconst (v := (-1)) hx hb dX12_misses_59 (by decide) ?_
    refine lv_icmp_ne (tgt := 68) hx hb dX12_misses_60 (by decide) (fun c14 => ?_) (fun c14 => ?_)
    · replace hw := hw.1 c14
      refine lv_iload_n hx hb dX12_misses_68 rfl (lv_at hl 4 rfl) ?_
      exact J69 x3 x3 Z11 _ _ _ hG (lv_sub hl [1, 2, 4] rfl) hw
    replace hw := hw.2 (fun h => h c14)
    refine lv_iload hx hb dX12_misses_63 (lv_at hl 0 rfl) ?_
    refine lv_goto (tgt := 69) hx hb dX12_misses_65 (by decide) ?_
    exact J69 x3 r12 Z11 _ _ _ hG (lv_sub hl [1, 2, 4] rfl) hw
  have J28 : ∀ n : Nat, ∀ (x2 : Int32) (x3 : Int32) (Z : zS) (H : Heap) (locs : List Loc) (ls : Array Slot), zG E Z s H locs → lv_has ls 5 [(0, .ref (E.2.1 97)), (1, .int a1), (2, .int x2), (3, .int x3)] → wX12_misses_28 a1 K n x2 x3 Z → W p l e R s m args below meth c H locs 0 0 (zQi E K below args s) (F0 m 28 ls []) := by
    intro n
    induction n with
    | zero => intro x2 x3 Z H locs ls hG hl hw; exact hw.elim
    | succ n ih => intro x2 x3 Z H locs ls hG hl hw; exact S28 _ ih x2 x3 Z H locs ls hG hl hw
  have J15 : ∀ (Z : zS) (H : Heap) (locs : List Loc) (ls : Array Slot), zG E Z s H locs → lv_has ls 5 [(0, .ref (E.2.1 97)), (1, .int a1)] → wX12_misses_15 a1 Z K → W p l e R s m args below meth c H locs 0 0 (zQi E K below args s) (F0 m 15 ls []) := by
    intro Z H locs ls hG hl hw
    unfold wX12_misses_15 at hw
    refine lv_aload_n hx hb dX12_misses_15 rfl (lv_at hl 0 rfl) ?_
    refine lv_aload_n hx hb dX12_misses_16 rfl (lv_at hl 0 rfl) ?_
    refine z_get hF hG 97 (by decide) z_md rfl in12 10 (by decide) (List.mem_of_getElem? (i := 1) rfl) rfl rfl dX12_misses_17 ?_
    refine z_cv (va_runV (rest := []) hF.1 (kX12_keep l E Z 102 122 (by decide) (fun _ => z_m102) hw _) (cwV 1 hts gX12_misses_X12_keep rfl rfl rfl ⟨rfl, hS_yX12_keep⟩ ⟨Nat.le_trans (Nat.le_of_ble_eq_true rfl) hfr, Nat.le_trans (Nat.le_of_ble_eq_true rfl) hlo⟩) (z_preV hF hG 97 (by decide) z_md rfl) rfl rfl hl.1 rfl (lv_room (Nat.le_of_ble_eq_true rfl)) dX12_misses_20 ⟨Nat.zero_le _, Nat.zero_le _⟩) hG (fun Z5 H locs hw hG => ?_)
    refine lv_bipush (v := (-4)) hx hb dX12_misses_23 (by decide) ?_
    refine lv_topi (fun y6 ey6 => ?_)
    replace hw := hw y6 ey6
    refine lv_istore_n (lv' := [(2, .int y6), (0, .ref (E.2.1 97)), (1, .int a1)]) hx hb dX12_misses_25 rfl hl (by decide) rfl (fun ls hl => ?_)
    refine lv_iconst (v := 1) hx hb dX12_misses_26 (by decide) ?_
    refine lv_topi (fun y7 ey7 => ?_)
    replace hw := hw y7 ey7
    refine lv_istore_n (lv' := [(3, .int y7), (2, .int y6), (0, .ref (E.2.1 97)), (1, .int a1)]) hx hb dX12_misses_27 rfl hl (by decide) rfl (fun ls hl => ?_)
    obtain ⟨n28, hw⟩ := hw
    exact J28 n28 y6 y7 Z5 _ _ _ hG (lv_sub hl [2, 3, 1, 0] rfl) hw
  unfold wX12_misses at hw
  refine lv_iload_n hx hb dX12_misses_0 rfl (lv_at hl 1 rfl) ?_
  refine lv_iconst (v := (-1)) hx hb dX12_misses_1 (by decide) ?_
  refine lv_icmp_eq (tgt := 15) hx hb dX12_misses_2 (by decide) (fun c1 => ?_) (fun c1 => ?_)
  · replace hw := hw.1 c1
    exact J15  Z _ _ _ hG (lv_sub hl [0, 1] rfl) hw
  replace hw := hw.2 c1
  refine lv_aload_n hx hb dX12_misses_5 rfl (lv_at hl 0 rfl) ?_
  refine lv_iload_n hx hb dX12_misses_6 rfl (lv_at hl 1 rfl) ?_
  refine z_ci (va_runV (rest := []) hF.1 (kX12_isServer l E Z a1  hw _) (cwV 1 hts gX12_misses_X12_isServer rfl rfl rfl ⟨rfl, hS_yX12_isServer⟩ ⟨Nat.le_trans (Nat.le_of_ble_eq_true rfl) hfr, Nat.le_trans (Nat.le_of_ble_eq_true rfl) hlo⟩) (z_preV hF hG 97 (by decide) z_md rfl) rfl rfl hl.1 rfl (lv_room (Nat.le_of_ble_eq_true rfl)) dX12_misses_7 ⟨Nat.zero_le _, Nat.zero_le _⟩) hG (fun r3 Z2 H locs hw hG => ?_)
  refine lv_if_ne (tgt := 15) hx hb dX12_misses_10 (by decide) (fun c4 => ?_) (fun c4 => ?_)
  · replace hw := hw.1 c4
    exact J15  Z2 _ _ _ hG (lv_sub hl [0, 1] rfl) hw
  replace hw := hw.2 (fun h => h c4)
  refine lv_iconst (v := (-1)) hx hb dX12_misses_13 (by decide) ?_
  exact z_iret hF hG hr hlk hw dX12_misses_14
set_option maxHeartbeats 4000000 in
set_option maxRecDepth 100000 in
theorem kX12_ran (l : Launch) (E : zE) (Z : zS) (a1 : Int32) (a2 : Int32) (a3 : Int32) {K : Int32 → zS → Prop} (hw : wX12_ran a1 a2 a3 Z K) : zCi l yX12_ran wsX12_ran ({ frames := 6, cells := 0, slots := 0, locals := 128 } : Room) E Z [.ref (E.2.1 97), .int a1, .int a2, .int a3] K := by
  refine z_bodyi (cc := cX12_ran) (nL := 6) (ret := .int) (by decide) rfl (Nat.le_of_ble_eq_true rfl) ?_
  intro p e R s m args below meth c ls hfr hlo hF hr hlk hG hl
  have hx := hF.1.1
  have hb := hF.1.2.1
  have hown := hF.1.2.2.2.1
  have hts := hF.1.2.2.2.2
  have in12 : ∀ w ∈ u_ws RX12 TX12 22, w ∈ wsX12_ran := fun _ h => List.mem_cons_of_mem _ (List.mem_append_right _ h)
  have hl : lv_has ls 6 [(0, .ref (E.2.1 97)), (1, .int a1), (2, .int a2), (3, .int a3)] := hl
  have S43 : ∀ (L43 : Int32 → Int32 → zS → Prop), (∀ (x4 : Int32) (x5 : Int32) (Z : zS) (H : Heap) (locs : List Loc) (ls : Array Slot), zG E Z s H locs → lv_has ls 6 [(0, .ref (E.2.1 97)), (1, .int a1), (2, .int a2), (3, .int a3), (4, .int x4), (5, .int x5)] → L43 x4 x5 Z → W p l e R s m args below meth c H locs 0 0 (zQi E K below args s) (F0 m 43 ls [])) → ∀ (x4 : Int32) (x5 : Int32) (Z : zS) (H : Heap) (locs : List Loc) (ls : Array Slot), zG E Z s H locs → lv_has ls 6 [(0, .ref (E.2.1 97)), (1, .int a1), (2, .int a2), (3, .int a3), (4, .int x4), (5, .int x5)] → wX12_ran_43b L43 a1 a2 a3 x4 x5 Z K → W p l e R s m args below meth c H locs 0 0 (zQi E K below args s) (F0 m 43 ls []) := by
    intro L43 ih43
    have J75 : ∀ (x4 : Int32) (x5 : Int32) (Z : zS) (H : Heap) (locs : List Loc) (ls : Array Slot), zG E Z s H locs → lv_has ls 6 [(0, .ref (E.2.1 97)), (1, .int a1), (2, .int a2), (3, .int a3), (4, .int x4), (5, .int x5)] → wX12_ran_75 L43 a1 a2 a3 x4 x5 Z K → W p l e R s m args below meth c H locs 0 0 (zQi E K below args s) (F0 m 75 ls []) := by
      intro x4 x5 Z H locs ls hG hl hw
      unfold wX12_ran_75 at hw
      obtain ⟨y19, ey19⟩ : ∃ y : Int32, y = x5 + 1 := ⟨_, rfl⟩
      replace hw := hw y19 ey19
      refine lv_iinc (v := y19) (lv' := [(5, .int y19), (0, .ref (E.2.1 97)), (1, .int a1), (2, .int a2), (3, .int a3), (4, .int x4)]) hx hb dX12_ran_75 hl (k := 5) rfl (by rw [ey19]; rfl) (by decide) rfl (fun ls hl => ?_)
      refine lv_goto (tgt := 43) hx hb dX12_ran_78 (by decide) ?_
      exact ih43 x4 y19 Z _ _ _ hG (lv_sub hl [1, 2, 3, 4, 5, 0] rfl) hw
    have J68 : ∀ (x4 : Int32) (x5 : Int32) (s0 : Int32) (Z : zS) (H : Heap) (locs : List Loc) (ls : Array Slot), zG E Z s H locs → lv_has ls 6 [(0, .ref (E.2.1 97)), (1, .int a1), (2, .int a2), (3, .int a3), (4, .int x4), (5, .int x5)] → wX12_ran_68 L43 a1 a2 a3 x4 x5 s0 Z K → W p l e R s m args below meth c H locs 0 0 (zQi E K below args s) (F0 m 68 ls [.int s0]) := by
      intro x4 x5 s0 Z H locs ls hG hl hw
      unfold wX12_ran_68 at hw
      refine lv_iload_n hx hb dX12_ran_68 rfl (lv_at hl 1 rfl) ?_
      refine lv_icmp_ne (tgt := 75) hx hb dX12_ran_69 (by decide) (fun c17 => ?_) (fun c17 => ?_)
      · replace hw := hw.1 c17
        exact J75 x4 x5 Z _ _ _ hG (lv_sub hl [0, 1, 2, 3, 4, 5] rfl) hw
      replace hw := hw.2 (fun h => h c17)
      obtain ⟨y18, ey18⟩ : ∃ y : Int32, y = x4 + 1 := ⟨_, rfl⟩
      replace hw := hw y18 ey18
      refine lv_iinc (v := y18) (lv' := [(4, .int y18), (0, .ref (E.2.1 97)), (1, .int a1), (2, .int a2), (3, .int a3), (5, .int x5)]) hx hb dX12_ran_72 hl (k := 4) rfl (by rw [ey18]; rfl) (by decide) rfl (fun ls hl => ?_)
      exact J75 y18 x5 Z _ _ _ hG (lv_sub hl [1, 2, 3, 4, 0, 5] rfl) hw
    intro x4 x5 Z H locs ls hG hl hw
    unfold wX12_ran_43b at hw
    refine lv_iload hx hb dX12_ran_43 (lv_at hl 5 rfl) ?_
    refine lv_iload_n hx hb dX12_ran_45 rfl (lv_at hl 2 rfl) ?_
    refine lv_icmp_ge (tgt := 81) hx hb dX12_ran_46 (by decide) (fun c13 => ?_) (fun c13 => ?_)
    · replace hw := hw.1 c13
      refine lv_aload_n hx hb dX12_ran_81 rfl (lv_at hl 0 rfl) ?_
      refine lv_aload_n hx hb dX12_ran_82 rfl (lv_at hl 0 rfl) ?_
      refine z_get hF hG 97 (by decide) z_md rfl in12 10 (by decide) (List.mem_of_getElem? (i := 1) rfl) rfl rfl dX12_ran_83 ?_
      refine z_cv (va_runV (rest := []) hF.1 (kX12_again l E Z 102 122 (by decide) (fun _ => z_m102) hw _) (cwV 1 hts gX12_ran_X12_again rfl rfl rfl ⟨rfl, hS_yX12_again⟩ ⟨Nat.le_trans (Nat.le_of_ble_eq_true rfl) hfr, Nat.le_trans (Nat.le_of_ble_eq_true rfl) hlo⟩) (z_preV hF hG 97 (by decide) z_md rfl) rfl rfl hl.1 rfl (lv_room (Nat.le_of_ble_eq_true rfl)) dX12_ran_86 ⟨Nat.zero_le _, Nat.zero_le _⟩) hG (fun Z14 H locs hw hG => ?_)
      refine lv_iload hx hb dX12_ran_89 (lv_at hl 4 rfl) ?_
      exact z_iret hF hG hr hlk hw dX12_ran_91
    replace hw := hw.2 c13
    refine lv_aload_n hx hb dX12_ran_49 rfl (lv_at hl 0 rfl) ?_
    refine z_cv (va_runV (rest := []) hF.1 (kX12_goes l E Z   hw _) (cwV 0 hts gX12_ran_X12_goes rfl rfl rfl ⟨rfl, hS_yX12_goes⟩ ⟨Nat.le_trans (Nat.le_of_ble_eq_true rfl) hfr, Nat.le_trans (Nat.le_of_ble_eq_true rfl) hlo⟩) (z_preV hF hG 97 (by decide) z_md rfl) rfl rfl hl.1 rfl (lv_room (Nat.le_of_ble_eq_true rfl)) dX12_ran_50 ⟨Nat.zero_le _, Nat.zero_le _⟩) hG (fun Z15 H locs hw hG => ?_)
    refine lv_iload_n hx hb dX12_ran_53 rfl (lv_at hl 3 rfl) ?_
    refine lv_if_ne (tgt := 64) hx hb dX12_ran_54 (by decide) (fun c16 => ?_) (fun c16 => ?_)
    · replace hw := hw.1 c16
      refine lv_aload_n hx hb dX12_ran_64 rfl (lv_at hl 0 rfl) ?_
      refine z_get hF hG 97 (by decide) z_md rfl in12 5 (by decide) (List.mem_of_getElem? (i := 3) rfl) rfl rfl dX12_ran_65 ?_
      exact J68 x4 x5 ((Z15 97 5)) Z15 _ _ _ hG (lv_sub hl [0, 1, 2, 3, 4, 5] rfl) hw
    replace hw := hw.2 (fun h => h c16)
    refine lv_aload_n hx hb dX12_ran_57 rfl (lv_at hl 0 rfl) ?_
    refine z_get hF hG 97 (by decide) z_md rfl in12 6 (by decide) (List.mem_of_getElem? (i := 2) rfl) rfl rfl dX12_ran_58 ?_
    refine lv_goto (tgt := 68) hx hb dX12_ran_61 (by decide) ?_
    exact J68 x4 x5 ((Z15 97 6)) Z15 _ _ _ hG (lv_sub hl [0, 1, 2, 3, 4, 5] rfl) hw
  have J43 : ∀ n : Nat, ∀ (x4 : Int32) (x5 : Int32) (Z : zS) (H : Heap) (locs : List Loc) (ls : Array Slot), zG E Z s H locs → lv_has ls 6 [(0, .ref (E.2.1 97)), (1, .int a1), (2, .int a2), (3, .int a3), (4, .int x4), (5, .int x5)] → wX12_ran_43 a1 a2 a3 K n x4 x5 Z → W p l e R s m args below meth c H locs 0 0 (zQi E K below args s) (F0 m 43 ls []) := by
    intro n
    induction n with
    | zero => intro x4 x5 Z H locs ls hG hl hw; exact hw.elim
    | succ n ih => intro x4 x5 Z H locs ls hG hl hw; exact S43 _ ih x4 x5 Z H locs ls hG hl hw
  unfold wX12_ran at hw
  refine lv_aload_n hx hb dX12_ran_0 rfl (lv_at hl 0 rfl) ?_
  refine lv_iload_n hx hb dX12_ran_1 rfl (lv_at hl 1 rfl) ?_
  refine z_ci (va_runV (rest := []) hF.1 (kX12_isServer l E Z a1  hw _) (cwV 1 hts gX12_ran_X12_isServer rfl rfl rfl ⟨rfl, hS_yX12_isServer⟩ ⟨Nat.le_trans (Nat.le_of_ble_eq_true rfl) hfr, Nat.le_trans (Nat.le_of_ble_eq_true rfl) hlo⟩) (z_preV hF hG 97 (by decide) z_md rfl) rfl rfl hl.1 rfl (lv_room (Nat.le_of_ble_eq_true rfl)) dX12_ran_2 ⟨Nat.zero_le _, Nat.zero_le _⟩) hG (fun r2 Z1 H locs hw hG => ?_)
  refine lv_if_eq (tgt := 27) hx hb dX12_ran_5 (by decide) (fun c3 => ?_) (fun c3 => ?_)
  · replace hw := hw.1 c3
    refine lv_iconst (v := (-1)) hx hb dX12_ran_27 (by decide) ?_
    exact z_iret hF hG hr hlk hw dX12_ran_28
  replace hw := hw.2 c3
  refine lv_iload_n hx hb dX12_ran_8 rfl (lv_at hl 2 rfl) ?_
  refine lv_iconst (v := 0) hx hb dX12_ran_9 (by decide) ?_
  refine lv_bipush (v := 99) hx hb dX12_ran_10 (by decide) ?_
  refine z_ci (va_runS (rest := []) hF.1 (kX12_within l E Z1 a2 0 99  hw _) (va_cwS 3 hts gX12_ran_X12_within rfl rfl rfl hS_yX12_within ⟨Nat.le_trans (Nat.le_of_ble_eq_true rfl) hfr, Nat.le_trans (Nat.le_of_ble_eq_true rfl) hlo⟩) (z_preS hF hG) rfl rfl hl.1 rfl (lv_room (Nat.le_of_ble_eq_true rfl)) dX12_ran_12 ⟨Nat.zero_le _, Nat.zero_le _⟩) hG (fun r5 Z4 H locs hw hG => ?_)
  refine lv_if_eq (tgt := 27) hx hb dX12_ran_15 (by decide) (fun c6 => ?_) (fun c6 => ?_)
  · replace hw := hw.1 c6
    refine lv_iconst (v := (-1)) hx hb dX12_ran_27 (by decide) ?_
    exact z_iret hF hG hr hlk hw dX12_ran_28
  replace hw := hw.2 c6
  refine lv_iload_n hx hb dX12_ran_18 rfl (lv_at hl 3 rfl) ?_
  refine lv_iconst (v := 0) hx hb dX12_ran_19 (by decide) ?_
  refine lv_iconst (v := 1) hx hb dX12_ran_20 (by decide) ?_
  refine z_ci (va_runS (rest := []) hF.1 (kX12_within l E Z4 a3 0 1  hw _) (va_cwS 3 hts gX12_ran_X12_within rfl rfl rfl hS_yX12_within ⟨Nat.le_trans (Nat.le_of_ble_eq_true rfl) hfr, Nat.le_trans (Nat.le_of_ble_eq_true rfl) hlo⟩) (z_preS hF hG) rfl rfl hl.1 rfl (lv_room (Nat.le_of_ble_eq_true rfl)) dX12_ran_21 ⟨Nat.zero_le _, Nat.zero_le _⟩) hG (fun r8 Z7 H locs hw hG => ?_)
  refine lv_if_ne (tgt := 29) hx hb dX12_ran_24 (by decide) (fun c9 => ?_) (fun c9 => ?_)
  · replace hw := hw.1 c9
    refine lv_aload_n hx hb dX12_ran_29 rfl (lv_at hl 0 rfl) ?_
    refine lv_aload_n hx hb dX12_ran_30 rfl (lv_at hl 0 rfl) ?_
    refine z_get hF hG 97 (by decide) z_md rfl in12 10 (by decide) (List.mem_of_getElem? (i := 1) rfl) rfl rfl dX12_ran_31 ?_
    refine z_cv (va_runV (rest := []) hF.1 (kX12_keep l E Z7 102 122 (by decide) (fun _ => z_m102) hw _) (cwV 1 hts gX12_ran_X12_keep rfl rfl rfl ⟨rfl, hS_yX12_keep⟩ ⟨Nat.le_trans (Nat.le_of_ble_eq_true rfl) hfr, Nat.le_trans (Nat.le_of_ble_eq_true rfl) hlo⟩) (z_preV hF hG 97 (by decide) z_md rfl) rfl rfl hl.1 rfl (lv_room (Nat.le_of_ble_eq_true rfl)) dX12_ran_34 ⟨Nat.zero_le _, Nat.zero_le _⟩) hG (fun Z10 H locs hw hG => ?_)
    refine lv_iconst (v := 0) hx hb dX12_ran_37 (by decide) ?_
    refine lv_topi (fun y11 ey11 => ?_)
    replace hw := hw y11 ey11
    refine lv_istore (lv' := [(4, .int y11), (0, .ref (E.2.1 97)), (1, .int a1), (2, .int a2), (3, .int a3)]) hx hb dX12_ran_38 hl (by decide) rfl (fun ls hl => ?_)
    refine lv_iconst (v := 0) hx hb dX12_ran_40 (by decide) ?_
    refine lv_topi (fun y12 ey12 => ?_)
    replace hw := hw y12 ey12
    refine lv_istore (lv' := [(5, .int y12), (4, .int y11), (0, .ref (E.2.1 97)), (1, .int a1), (2, .int a2), (3, .int a3)]) hx hb dX12_ran_41 hl (by decide) rfl (fun ls hl => ?_)
    obtain ⟨n43, hw⟩ := hw
    exact J43 n43 y11 y12 Z10 _ _ _ hG (lv_sub hl [2, 3, 4, 5, 1, 0] rfl) hw
  replace hw := hw.2 (fun h => h c9)
  refine lv_iconst (v := (-1)) hx hb dX12_ran_27 (by decide) ?_
  exact z_iret hF hG hr hlk hw dX12_ran_28
set_option maxHeartbeats 4000000 in
set_option maxRecDepth 100000 in
theorem kX12_admitted (l : Launch) (E : zE) (Z : zS) (a1 : Int32) (a2 : Int32) {K : Int32 → zS → Prop} (hw : wX12_admitted a1 a2 Z K) : zCi l yX12_admitted wsX12_admitted ({ frames := 2, cells := 0, slots := 0, locals := 43 } : Room) E Z [.ref (E.2.1 97), .int a1, .int a2] K := by
  refine z_bodyi (cc := cX12_admitted) (nL := 5) (ret := .int) (by decide) rfl (Nat.le_of_ble_eq_true rfl) ?_
  intro p e R s m args below meth c ls hfr hlo hF hr hlk hG hl
  have hx := hF.1.1
  have hb := hF.1.2.1
  have hown := hF.1.2.2.2.1
  have hts := hF.1.2.2.2.2
  have in12 : ∀ w ∈ u_ws RX12 TX12 22, w ∈ wsX12_admitted := fun _ h => List.mem_cons_of_mem _ (List.mem_append_right _ h)
  have hl : lv_has ls 5 [(0, .ref (E.2.1 97)), (1, .int a1), (2, .int a2)] := hl
  have S20 : ∀ (L20 : Int32 → Int32 → zS → Prop), (∀ (x3 : Int32) (x4 : Int32) (Z : zS) (H : Heap) (locs : List Loc) (ls : Array Slot), zG E Z s H locs → lv_has ls 5 [(0, .ref (E.2.1 97)), (3, .int x3), (4, .int x4)] → L20 x3 x4 Z → W p l e R s m args below meth c H locs 0 0 (zQi E K below args s) (F0 m 20 ls [])) → ∀ (x3 : Int32) (x4 : Int32) (Z : zS) (H : Heap) (locs : List Loc) (ls : Array Slot), zG E Z s H locs → lv_has ls 5 [(0, .ref (E.2.1 97)), (3, .int x3), (4, .int x4)] → wX12_admitted_20b L20 a1 a2 x3 x4 Z K → W p l e R s m args below meth c H locs 0 0 (zQi E K below args s) (F0 m 20 ls []) := by
    intro L20 ih20
    intro x3 x4 Z H locs ls hG hl hw
    unfold wX12_admitted_20b at hw
    refine lv_iload hx hb dX12_admitted_20 (lv_at hl 2 rfl) ?_
    refine lv_aload_n hx hb dX12_admitted_22 rfl (lv_at hl 0 rfl) ?_
    refine z_get hF hG 97 (by decide) z_md rfl in12 1 (by decide) (List.mem_of_getElem? (i := 1) rfl) rfl rfl dX12_admitted_23 ?_
    refine lv_icmp_ge (tgt := 44) hx hb dX12_admitted_26 (by decide) (fun c6 => ?_) (fun c6 => ?_)
    · replace hw := hw.1 c6
      refine lv_iload_n hx hb dX12_admitted_44 rfl (lv_at hl 1 rfl) ?_
      refine lv_bipush (v := 60) hx hb dX12_admitted_45 (by decide) ?_
      refine lv_icmp_gt (tgt := 54) hx hb dX12_admitted_47 (by decide) (fun c7 => ?_) (fun c7 => ?_)
      · replace hw := hw.1 c7
        refine lv_iconst (v := 0) hx hb dX12_admitted_54 (by decide) ?_
        exact z_iret hF hG hr hlk hw dX12_admitted_55
      replace hw := hw.2 c7
      refine lv_iconst (v := 1) hx hb dX12_admitted_50 (by decide) ?_
      refine lv_goto (tgt := 55) hx hb dX12_admitted_51 (by decide) ?_
      exact z_iret hF hG hr hlk hw dX12_admitted_55
    replace hw := hw.2 c6
    refine lv_iload_n hx hb dX12_admitted_29 rfl (lv_at hl 1 rfl) ?_
    refine lv_aload_n hx hb dX12_admitted_30 rfl (lv_at hl 0 rfl) ?_
    refine lv_iload hx hb dX12_admitted_31 (lv_at hl 2 rfl) ?_
    refine z_ci (va_runV (rest := [.int x3]) hF.1 (kX12_share l E Z x4  hw _) (cwV 1 hts gX12_admitted_X12_share rfl rfl rfl ⟨rfl, hS_yX12_share⟩ ⟨Nat.le_trans (Nat.le_of_ble_eq_true rfl) hfr, Nat.le_trans (Nat.le_of_ble_eq_true rfl) hlo⟩) (z_preV hF hG 97 (by decide) z_md rfl) rfl rfl hl.1 rfl (lv_room (Nat.le_of_ble_eq_true rfl)) dX12_admitted_33 ⟨Nat.zero_le _, Nat.zero_le _⟩) hG (fun r9 Z8 H locs hw hG => ?_)
    refine lv_iadd hx hb dX12_admitted_36 ?_
    refine lv_topi (fun y10 ey10 => ?_)
    replace hw := hw y10 ey10
    refine lv_istore_n (lv' := [(3, .int y10), (0, .ref (E.2.1 97)), (4, .int x4)]) hx hb dX12_admitted_37 rfl hl (by decide) rfl (fun ls hl => ?_)
    obtain ⟨y11, ey11⟩ : ∃ y : Int32, y = x4 + 1 := ⟨_, rfl⟩
    replace hw := hw y11 ey11
    refine lv_iinc (v := y11) (lv' := [(4, .int y11), (3, .int y10), (0, .ref (E.2.1 97))]) hx hb dX12_admitted_38 hl (k := 2) rfl (by rw [ey11]; rfl) (by decide) rfl (fun ls hl => ?_)
    refine lv_goto (tgt := 20) hx hb dX12_admitted_41 (by decide) ?_
    exact ih20 y10 y11 Z8 _ _ _ hG (lv_sub hl [2, 1, 0] rfl) hw
  have J20 : ∀ n : Nat, ∀ (x3 : Int32) (x4 : Int32) (Z : zS) (H : Heap) (locs : List Loc) (ls : Array Slot), zG E Z s H locs → lv_has ls 5 [(0, .ref (E.2.1 97)), (3, .int x3), (4, .int x4)] → wX12_admitted_20 a1 a2 K n x3 x4 Z → W p l e R s m args below meth c H locs 0 0 (zQi E K below args s) (F0 m 20 ls []) := by
    intro n
    induction n with
    | zero => intro x3 x4 Z H locs ls hG hl hw; exact hw.elim
    | succ n ih => intro x3 x4 Z H locs ls hG hl hw; exact S20 _ ih x3 x4 Z H locs ls hG hl hw
  unfold wX12_admitted at hw
  refine lv_iload_n hx hb dX12_admitted_0 rfl (lv_at hl 1 rfl) ?_
  refine lv_iload_n hx hb dX12_admitted_1 rfl (lv_at hl 2 rfl) ?_
  refine z_ci (va_runS (rest := []) hF.1 (kX12_isSize l E Z a1 a2  hw _) (va_cwS 2 hts gX12_admitted_X12_isSize rfl rfl rfl hS_yX12_isSize ⟨Nat.le_trans (Nat.le_of_ble_eq_true rfl) hfr, Nat.le_trans (Nat.le_of_ble_eq_true rfl) hlo⟩) (z_preS hF hG) rfl rfl hl.1 rfl (lv_room (Nat.le_of_ble_eq_true rfl)) dX12_admitted_2 ⟨Nat.zero_le _, Nat.zero_le _⟩) hG (fun r2 Z1 H locs hw hG => ?_)
  refine lv_if_ne (tgt := 10) hx hb dX12_admitted_5 (by decide) (fun c3 => ?_) (fun c3 => ?_)
  · replace hw := hw.1 c3
    refine lv_bipush (v := 60) hx hb dX12_admitted_10 (by decide) ?_
    refine lv_iload_n hx hb dX12_admitted_12 rfl (lv_at hl 1 rfl) ?_
    refine lv_imul hx hb dX12_admitted_13 ?_
    refine lv_iload_n hx hb dX12_admitted_14 rfl (lv_at hl 2 rfl) ?_
    refine lv_idiv hx hb dX12_admitted_15 hw.1 ?_
    replace hw := hw.2
    refine lv_topi (fun y4 ey4 => ?_)
    replace hw := hw y4 ey4
    refine lv_istore_n (lv' := [(3, .int y4), (0, .ref (E.2.1 97)), (1, .int a1), (2, .int a2)]) hx hb dX12_admitted_16 rfl hl (by decide) rfl (fun ls hl => ?_)
    refine lv_iconst (v := 0) hx hb dX12_admitted_17 (by decide) ?_
    refine lv_topi (fun y5 ey5 => ?_)
    replace hw := hw y5 ey5
    refine lv_istore (lv' := [(4, .int y5), (3, .int y4), (0, .ref (E.2.1 97)), (1, .int a1), (2, .int a2)]) hx hb dX12_admitted_18 hl (by decide) rfl (fun ls hl => ?_)
    obtain ⟨n20, hw⟩ := hw
    exact J20 n20 y4 y5 Z1 _ _ _ hG (lv_sub hl [2, 1, 0] rfl) hw
  replace hw := hw.2 (fun h => h c3)
  refine lv_iconst (v := (-1)) hx hb dX12_admitted_8 (by decide) ?_
  exact z_iret hF hG hr hlk hw dX12_admitted_9
set_option maxHeartbeats 4000000 in
set_option maxRecDepth 100000 in
theorem kX12_demandIn (l : Launch) (E : zE) (Z : zS) (a1 : Int32) {K : Int32 → zS → Prop} (hw : wX12_demandIn a1 Z K) : zCi l yX12_demandIn wsX12_demandIn ({ frames := 0, cells := 0, slots := 0, locals := 0 } : Room) E Z [.ref (E.2.1 97), .int a1] K := by
  refine z_bodyi (cc := cX12_demandIn) (nL := 4) (ret := .int) (by decide) rfl (Nat.le_of_ble_eq_true rfl) ?_
  intro p e R s m args below meth c ls hfr hlo hF hr hlk hG hl
  have hx := hF.1.1
  have hb := hF.1.2.1
  have hown := hF.1.2.2.2.1
  have hts := hF.1.2.2.2.2
  have in12 : ∀ w ∈ u_ws RX12 TX12 22, w ∈ wsX12_demandIn := fun _ h => List.mem_cons_of_mem _ (List.mem_append_right _ h)
  have hl : lv_has ls 4 [(0, .ref (E.2.1 97)), (1, .int a1)] := hl
  have S4 : ∀ (L4 : Int32 → Int32 → zS → Prop), (∀ (x2 : Int32) (x3 : Int32) (Z : zS) (H : Heap) (locs : List Loc) (ls : Array Slot), zG E Z s H locs → lv_has ls 4 [(0, .ref (E.2.1 97)), (1, .int a1), (2, .int x2), (3, .int x3)] → L4 x2 x3 Z → W p l e R s m args below meth c H locs 0 0 (zQi E K below args s) (F0 m 4 ls [])) → ∀ (x2 : Int32) (x3 : Int32) (Z : zS) (H : Heap) (locs : List Loc) (ls : Array Slot), zG E Z s H locs → lv_has ls 4 [(0, .ref (E.2.1 97)), (1, .int a1), (2, .int x2), (3, .int x3)] → wX12_demandIn_4b L4 a1 x2 x3 Z K → W p l e R s m args below meth c H locs 0 0 (zQi E K below args s) (F0 m 4 ls []) := by
    intro L4 ih4
    intro x2 x3 Z H locs ls hG hl hw
    unfold wX12_demandIn_4b at hw
    refine lv_iload_n hx hb dX12_demandIn_4 rfl (lv_at hl 3 rfl) ?_
    refine lv_aload_n hx hb dX12_demandIn_5 rfl (lv_at hl 0 rfl) ?_
    refine z_get hF hG 97 (by decide) z_md rfl in12 1 (by decide) (List.mem_of_getElem? (i := 1) rfl) rfl rfl dX12_demandIn_6 ?_
    refine lv_icmp_ge (tgt := 42) hx hb dX12_demandIn_9 (by decide) (fun c3 => ?_) (fun c3 => ?_)
    · replace hw := hw.1 c3
      refine lv_iload_n hx hb dX12_demandIn_42 rfl (lv_at hl 2 rfl) ?_
      exact z_iret hF hG hr hlk hw dX12_demandIn_43
    replace hw := hw.2 c3
    refine lv_iload_n hx hb dX12_demandIn_12 rfl (lv_at hl 2 rfl) ?_
    refine lv_aload_n hx hb dX12_demandIn_13 rfl (lv_at hl 0 rfl) ?_
    refine z_get hF hG 97 (by decide) z_md rfl in12 2 (by decide) (List.mem_of_getElem? (i := 2) rfl) rfl rfl dX12_demandIn_14 ?_
    refine lv_bipush (v := 12) hx hb dX12_demandIn_17 (by decide) ?_
    refine lv_iload_n hx hb dX12_demandIn_19 rfl (lv_at hl 3 rfl) ?_
    refine lv_iadd hx hb dX12_demandIn_20 ?_
    obtain ⟨q4, hw⟩ := hw
    refine z_iald hF hG 98 (by decide) z_m98 q4 dX12_demandIn_21 ?_
    refine lv_iload_n hx hb dX12_demandIn_22 rfl (lv_at hl 1 rfl) ?_
    refine lv_aload_n hx hb dX12_demandIn_23 rfl (lv_at hl 0 rfl) ?_
    refine z_get hF hG 97 (by decide) z_md rfl in12 2 (by decide) (List.mem_of_getElem? (i := 2) rfl) rfl rfl dX12_demandIn_24 ?_
    refine lv_bipush (v := 18) hx hb dX12_demandIn_27 (by decide) ?_
    refine lv_iload_n hx hb dX12_demandIn_29 rfl (lv_at hl 3 rfl) ?_
    refine lv_iadd hx hb dX12_demandIn_30 ?_
    obtain ⟨q5, hw⟩ := hw
    refine z_iald hF hG 98 (by decide) z_m98 q5 dX12_demandIn_31 ?_
    refine lv_idiv hx hb dX12_demandIn_32 hw.1 ?_
    replace hw := hw.2
    refine lv_imul hx hb dX12_demandIn_33 ?_
    refine lv_iadd hx hb dX12_demandIn_34 ?_
    refine lv_topi (fun y6 ey6 => ?_)
    replace hw := hw y6 ey6
    refine lv_istore_n (lv' := [(2, .int y6), (0, .ref (E.2.1 97)), (1, .int a1), (3, .int x3)]) hx hb dX12_demandIn_35 rfl hl (by decide) rfl (fun ls hl => ?_)
    obtain ⟨y7, ey7⟩ : ∃ y : Int32, y = x3 + 1 := ⟨_, rfl⟩
    replace hw := hw y7 ey7
    refine lv_iinc (v := y7) (lv' := [(3, .int y7), (2, .int y6), (0, .ref (E.2.1 97)), (1, .int a1)]) hx hb dX12_demandIn_36 hl (k := 3) rfl (by rw [ey7]; rfl) (by decide) rfl (fun ls hl => ?_)
    refine lv_goto (tgt := 4) hx hb dX12_demandIn_39 (by decide) ?_
    exact ih4 y6 y7 Z _ _ _ hG (lv_sub hl [2, 3, 1, 0] rfl) hw
  have J4 : ∀ n : Nat, ∀ (x2 : Int32) (x3 : Int32) (Z : zS) (H : Heap) (locs : List Loc) (ls : Array Slot), zG E Z s H locs → lv_has ls 4 [(0, .ref (E.2.1 97)), (1, .int a1), (2, .int x2), (3, .int x3)] → wX12_demandIn_4 a1 K n x2 x3 Z → W p l e R s m args below meth c H locs 0 0 (zQi E K below args s) (F0 m 4 ls []) := by
    intro n
    induction n with
    | zero => intro x2 x3 Z H locs ls hG hl hw; exact hw.elim
    | succ n ih => intro x2 x3 Z H locs ls hG hl hw; exact S4 _ ih x2 x3 Z H locs ls hG hl hw
  unfold wX12_demandIn at hw
  refine lv_iconst (v := 0) hx hb dX12_demandIn_0 (by decide) ?_
  refine lv_topi (fun y1 ey1 => ?_)
  replace hw := hw y1 ey1
  refine lv_istore_n (lv' := [(2, .int y1), (0, .ref (E.2.1 97)), (1, .int a1)]) hx hb dX12_demandIn_1 rfl hl (by decide) rfl (fun ls hl => ?_)
  refine lv_iconst (v := 0) hx hb dX12_demandIn_2 (by decide) ?_
  refine lv_topi (fun y2 ey2 => ?_)
  replace hw := hw y2 ey2
  refine lv_istore_n (lv' := [(3, .int y2), (2, .int y1), (0, .ref (E.2.1 97)), (1, .int a1)]) hx hb dX12_demandIn_3 rfl hl (by decide) rfl (fun ls hl => ?_)
  obtain ⟨n4, hw⟩ := hw
  exact J4 n4 y1 y2 Z _ _ _ hG (lv_sub hl [2, 3, 1, 0] rfl) hw
theorem hS_yX12_demandIn : yX12_demandIn.cls ≠ "java/lang/invoke/MethodHandle" ∧ yX12_demandIn.cls ≠ "java/lang/invoke/VarHandle" ∧ (parseMethodDescriptor yX12_demandIn.desc).map (fun d => d.parameters.length) = some 1 := by decide +kernel
set_option maxHeartbeats 4000000 in
set_option maxRecDepth 100000 in
theorem kX12_demand (l : Launch) (E : zE) (Z : zS) (a1 : Int32) (a2 : Int32) {K : Int32 → zS → Prop} (hw : wX12_demand a1 a2 Z K) : zCi l yX12_demand wsX12_demand ({ frames := 1, cells := 0, slots := 0, locals := 23 } : Room) E Z [.ref (E.2.1 97), .int a1, .int a2] K := by
  refine z_bodyi (cc := cX12_demand) (nL := 4) (ret := .int) (by decide) rfl (Nat.le_of_ble_eq_true rfl) ?_
  intro p e R s m args below meth c ls hfr hlo hF hr hlk hG hl
  have hx := hF.1.1
  have hb := hF.1.2.1
  have hown := hF.1.2.2.2.1
  have hts := hF.1.2.2.2.2
  have hl : lv_has ls 4 [(0, .ref (E.2.1 97)), (1, .int a1), (2, .int a2)] := hl
  have S33 : ∀ (L33 : Int32 → zS → Prop), (∀ (x3 : Int32) (Z : zS) (H : Heap) (locs : List Loc) (ls : Array Slot), zG E Z s H locs → lv_has ls 4 [(0, .ref (E.2.1 97)), (1, .int a1), (3, .int x3)] → L33 x3 Z → W p l e R s m args below meth c H locs 0 0 (zQi E K below args s) (F0 m 33 ls [])) → ∀ (x3 : Int32) (Z : zS) (H : Heap) (locs : List Loc) (ls : Array Slot), zG E Z s H locs → lv_has ls 4 [(0, .ref (E.2.1 97)), (1, .int a1), (3, .int x3)] → wX12_demand_33b L33 a1 a2 x3 Z K → W p l e R s m args below meth c H locs 0 0 (zQi E K below args s) (F0 m 33 ls []) := by
    intro L33 ih33
    intro x3 Z H locs ls hG hl hw
    unfold wX12_demand_33b at hw
    refine lv_iload_n hx hb dX12_demand_33 rfl (lv_at hl 2 rfl) ?_
    refine lv_iload_n hx hb dX12_demand_34 rfl (lv_at hl 1 rfl) ?_
    refine lv_icmp_gt (tgt := 55) hx hb dX12_demand_35 (by decide) (fun c11 => ?_) (fun c11 => ?_)
    · replace hw := hw.1 c11
      refine lv_iconst (v := 1) hx hb dX12_demand_55 (by decide) ?_
      exact z_iret hF hG hr hlk hw dX12_demand_56
    replace hw := hw.2 c11
    refine lv_aload_n hx hb dX12_demand_38 rfl (lv_at hl 0 rfl) ?_
    refine lv_iload_n hx hb dX12_demand_39 rfl (lv_at hl 2 rfl) ?_
    refine z_ci (va_runV (rest := []) hF.1 (kX12_demandIn l E Z x3  hw _) (cwV 1 hts gX12_demand_X12_demandIn rfl rfl rfl ⟨rfl, hS_yX12_demandIn⟩ ⟨Nat.le_trans (Nat.le_of_ble_eq_true rfl) hfr, Nat.le_trans (Nat.le_of_ble_eq_true rfl) hlo⟩) (z_preV hF hG 97 (by decide) z_md rfl) rfl rfl hl.1 rfl (lv_room (Nat.le_of_ble_eq_true rfl)) dX12_demand_40 ⟨Nat.zero_le _, Nat.zero_le _⟩) hG (fun r13 Z12 H locs hw hG => ?_)
    refine lv_iload_n hx hb dX12_demand_43 rfl (lv_at hl 2 rfl) ?_
    refine lv_icmp_le (tgt := 49) hx hb dX12_demand_44 (by decide) (fun c14 => ?_) (fun c14 => ?_)
    · replace hw := hw.1 c14
      obtain ⟨y15, ey15⟩ : ∃ y : Int32, y = x3 + 1 := ⟨_, rfl⟩
      replace hw := hw y15 ey15
      refine lv_iinc (v := y15) (lv' := [(3, .int y15), (0, .ref (E.2.1 97)), (1, .int a1)]) hx hb dX12_demand_49 hl (k := 2) rfl (by rw [ey15]; rfl) (by decide) rfl (fun ls hl => ?_)
      refine lv_goto (tgt := 33) hx hb dX12_demand_52 (by decide) ?_
      exact ih33 y15 Z12 _ _ _ hG (lv_sub hl [1, 2, 0] rfl) hw
    replace hw := hw.2 c14
    refine lv_iconst (v := 0) hx hb dX12_demand_47 (by decide) ?_
    exact z_iret hF hG hr hlk hw dX12_demand_48
  have J33 : ∀ n : Nat, ∀ (x3 : Int32) (Z : zS) (H : Heap) (locs : List Loc) (ls : Array Slot), zG E Z s H locs → lv_has ls 4 [(0, .ref (E.2.1 97)), (1, .int a1), (3, .int x3)] → wX12_demand_33 a1 a2 K n x3 Z → W p l e R s m args below meth c H locs 0 0 (zQi E K below args s) (F0 m 33 ls []) := by
    intro n
    induction n with
    | zero => intro x3 Z H locs ls hG hl hw; exact hw.elim
    | succ n ih => intro x3 Z H locs ls hG hl hw; exact S33 _ ih x3 Z H locs ls hG hl hw
  unfold wX12_demand at hw
  refine lv_iload_n hx hb dX12_demand_0 rfl (lv_at hl 1 rfl) ?_
  refine lv_iconst (v := 1) hx hb dX12_demand_1 (by decide) ?_
  refine lv_bipush (v := 99) hx hb dX12_demand_2 (by decide) ?_
  refine z_ci (va_runS (rest := []) hF.1 (kX12_within l E Z a1 1 99  hw _) (va_cwS 3 hts gX12_demand_X12_within rfl rfl rfl hS_yX12_within ⟨Nat.le_trans (Nat.le_of_ble_eq_true rfl) hfr, Nat.le_trans (Nat.le_of_ble_eq_true rfl) hlo⟩) (z_preS hF hG) rfl rfl hl.1 rfl (lv_room (Nat.le_of_ble_eq_true rfl)) dX12_demand_4 ⟨Nat.zero_le _, Nat.zero_le _⟩) hG (fun r2 Z1 H locs hw hG => ?_)
  refine lv_if_eq (tgt := 19) hx hb dX12_demand_7 (by decide) (fun c3 => ?_) (fun c3 => ?_)
  · replace hw := hw.1 c3
    refine lv_iconst (v := (-1)) hx hb dX12_demand_19 (by decide) ?_
    exact z_iret hF hG hr hlk hw dX12_demand_20
  replace hw := hw.2 c3
  refine lv_iload_n hx hb dX12_demand_10 rfl (lv_at hl 2 rfl) ?_
  refine lv_iconst (v := 0) hx hb dX12_demand_11 (by decide) ?_
  refine lv_iconst (v := 1) hx hb dX12_demand_12 (by decide) ?_
  refine z_ci (va_runS (rest := []) hF.1 (kX12_within l E Z1 a2 0 1  hw _) (va_cwS 3 hts gX12_demand_X12_within rfl rfl rfl hS_yX12_within ⟨Nat.le_trans (Nat.le_of_ble_eq_true rfl) hfr, Nat.le_trans (Nat.le_of_ble_eq_true rfl) hlo⟩) (z_preS hF hG) rfl rfl hl.1 rfl (lv_room (Nat.le_of_ble_eq_true rfl)) dX12_demand_13 ⟨Nat.zero_le _, Nat.zero_le _⟩) hG (fun r5 Z4 H locs hw hG => ?_)
  refine lv_if_ne (tgt := 21) hx hb dX12_demand_16 (by decide) (fun c6 => ?_) (fun c6 => ?_)
  · replace hw := hw.1 c6
    refine lv_iload_n hx hb dX12_demand_21 rfl (lv_at hl 2 rfl) ?_
    refine lv_if_ne (tgt := 31) hx hb dX12_demand_22 (by decide) (fun c7 => ?_) (fun c7 => ?_)
    · replace hw := hw.1 c7
      refine lv_iconst (v := 1) hx hb dX12_demand_31 (by decide) ?_
      refine lv_topi (fun y8 ey8 => ?_)
      replace hw := hw y8 ey8
      refine lv_istore_n (lv' := [(3, .int y8), (0, .ref (E.2.1 97)), (1, .int a1), (2, .int a2)]) hx hb dX12_demand_32 rfl hl (by decide) rfl (fun ls hl => ?_)
      obtain ⟨n33, hw⟩ := hw
      exact J33 n33 y8 Z4 _ _ _ hG (lv_sub hl [1, 2, 0] rfl) hw
    replace hw := hw.2 (fun h => h c7)
    refine lv_aload_n hx hb dX12_demand_25 rfl (lv_at hl 0 rfl) ?_
    refine lv_iload_n hx hb dX12_demand_26 rfl (lv_at hl 1 rfl) ?_
    refine z_ci (va_runV (rest := []) hF.1 (kX12_demandIn l E Z4 a1  hw _) (cwV 1 hts gX12_demand_X12_demandIn rfl rfl rfl ⟨rfl, hS_yX12_demandIn⟩ ⟨Nat.le_trans (Nat.le_of_ble_eq_true rfl) hfr, Nat.le_trans (Nat.le_of_ble_eq_true rfl) hlo⟩) (z_preV hF hG 97 (by decide) z_md rfl) rfl rfl hl.1 rfl (lv_room (Nat.le_of_ble_eq_true rfl)) dX12_demand_27 ⟨Nat.zero_le _, Nat.zero_le _⟩) hG (fun r10 Z9 H locs hw hG => ?_)
    exact z_iret hF hG hr hlk hw dX12_demand_30
  replace hw := hw.2 (fun h => h c6)
  refine lv_iconst (v := (-1)) hx hb dX12_demand_19 (by decide) ?_
  exact z_iret hF hG hr hlk hw dX12_demand_20
set_option maxHeartbeats 4000000 in
set_option maxRecDepth 100000 in
theorem kX12_needs (l : Launch) (E : zE) (Z : zS) (a1 : Int32) (a2 : Int32) {K : Int32 → zS → Prop} (hw : wX12_needs a1 a2 Z K) : zCi l yX12_needs wsX12_needs ({ frames := 7, cells := 0, slots := 0, locals := 150 } : Room) E Z [.ref (E.2.1 97), .int a1, .int a2] K := by
  refine z_bodyi (cc := cX12_needs) (nL := 5) (ret := .int) (by decide) rfl (Nat.le_of_ble_eq_true rfl) ?_
  intro p e R s m args below meth c ls hfr hlo hF hr hlk hG hl
  have hx := hF.1.1
  have hb := hF.1.2.1
  have hown := hF.1.2.2.2.1
  have hts := hF.1.2.2.2.2
  have in12 : ∀ w ∈ u_ws RX12 TX12 22, w ∈ wsX12_needs := fun _ h => List.mem_cons_of_mem _ (List.mem_append_right _ h)
  have hl : lv_has ls 5 [(0, .ref (E.2.1 97)), (1, .int a1), (2, .int a2)] := hl
  have S34 : ∀ (L34 : Int32 → Int32 → zS → Prop), (∀ (x3 : Int32) (x4 : Int32) (Z : zS) (H : Heap) (locs : List Loc) (ls : Array Slot), zG E Z s H locs → lv_has ls 5 [(0, .ref (E.2.1 97)), (1, .int a1), (2, .int a2), (3, .int x3), (4, .int x4)] → L34 x3 x4 Z → W p l e R s m args below meth c H locs 0 0 (zQi E K below args s) (F0 m 34 ls [])) → ∀ (x3 : Int32) (x4 : Int32) (Z : zS) (H : Heap) (locs : List Loc) (ls : Array Slot), zG E Z s H locs → lv_has ls 5 [(0, .ref (E.2.1 97)), (1, .int a1), (2, .int a2), (3, .int x3), (4, .int x4)] → wX12_needs_34b L34 a1 a2 x3 x4 Z K → W p l e R s m args below meth c H locs 0 0 (zQi E K below args s) (F0 m 34 ls []) := by
    intro L34 ih34
    have J99 : ∀ (x3 : Int32) (x4 : Int32) (Z : zS) (H : Heap) (locs : List Loc) (ls : Array Slot), zG E Z s H locs → lv_has ls 5 [(0, .ref (E.2.1 97)), (1, .int a1), (2, .int a2), (3, .int x3), (4, .int x4)] → wX12_needs_99 L34 a1 a2 x3 x4 Z K → W p l e R s m args below meth c H locs 0 0 (zQi E K below args s) (F0 m 99 ls []) := by
      intro x3 x4 Z H locs ls hG hl hw
      unfold wX12_needs_99 at hw
      refine lv_aload_n hx hb dX12_needs_99 rfl (lv_at hl 0 rfl) ?_
      refine lv_aload_n hx hb dX12_needs_100 rfl (lv_at hl 0 rfl) ?_
      refine z_get hF hG 97 (by decide) z_md rfl in12 10 (by decide) (List.mem_of_getElem? (i := 1) rfl) rfl rfl dX12_needs_101 ?_
      refine z_cv (va_runV (rest := []) hF.1 (kX12_again l E Z 102 122 (by decide) (fun _ => z_m102) hw _) (cwV 1 hts gX12_needs_X12_again rfl rfl rfl ⟨rfl, hS_yX12_again⟩ ⟨Nat.le_trans (Nat.le_of_ble_eq_true rfl) hfr, Nat.le_trans (Nat.le_of_ble_eq_true rfl) hlo⟩) (z_preV hF hG 97 (by decide) z_md rfl) rfl rfl hl.1 rfl (lv_room (Nat.le_of_ble_eq_true rfl)) dX12_needs_104 ⟨Nat.zero_le _, Nat.zero_le _⟩) hG (fun Z19 H locs hw hG => ?_)
      obtain ⟨y20, ey20⟩ : ∃ y : Int32, y = x4 + 1 := ⟨_, rfl⟩
      replace hw := hw y20 ey20
      refine lv_iinc (v := y20) (lv' := [(4, .int y20), (0, .ref (E.2.1 97)), (1, .int a1), (2, .int a2), (3, .int x3)]) hx hb dX12_needs_107 hl (k := 4) rfl (by rw [ey20]; rfl) (by decide) rfl (fun ls hl => ?_)
      refine lv_goto (tgt := 34) hx hb dX12_needs_110 (by decide) ?_
      exact ih34 x3 y20 Z19 _ _ _ hG (lv_sub hl [1, 2, 3, 4, 0] rfl) hw
    intro x3 x4 Z H locs ls hG hl hw
    unfold wX12_needs_34b at hw
    refine lv_iload hx hb dX12_needs_34 (lv_at hl 4 rfl) ?_
    refine lv_bipush (v := 30) hx hb dX12_needs_36 (by decide) ?_
    refine lv_aload_n hx hb dX12_needs_38 rfl (lv_at hl 0 rfl) ?_
    refine z_get hF hG 97 (by decide) z_md rfl in12 2 (by decide) (List.mem_of_getElem? (i := 2) rfl) rfl rfl dX12_needs_39 ?_
    refine lv_bipush (v := 18) hx hb dX12_needs_42 (by decide) ?_
    refine lv_iload_n hx hb dX12_needs_44 rfl (lv_at hl 1 rfl) ?_
    refine lv_iadd hx hb dX12_needs_45 ?_
    obtain ⟨q10, hw⟩ := hw
    refine z_iald hF hG 98 (by decide) z_m98 q10 dX12_needs_46 ?_
    refine va_mmin hx hb (hF.1.2.2.1.trans hl.1.symm) hown (hts (.methodLink RX12 76 Lib.Math.min.name) (List.mem_of_getElem? (i := 3) rfl)) (hts (.static Lib.Math.min.name) (List.mem_of_getElem? (i := 4) rfl)) (hts (.initialized "java/lang/Math") (List.mem_of_getElem? (i := 5) rfl)) (hts (.code Lib.Math.min.name Lib.Math.min.code 2 (some .int)) (List.mem_of_getElem? (i := 6) rfl)) (Nat.le_trans (Nat.le_of_ble_eq_true rfl) hfr) (Nat.le_trans (Nat.le_of_ble_eq_true rfl) hlo) (Nat.zero_le _) (Nat.zero_le _) dX12_needs_47 ?_
    refine lv_icmp_gt (tgt := 113) hx hb dX12_needs_50 (by decide) (fun c11 => ?_) (fun c11 => ?_)
    · replace hw := hw.1 c11
      refine lv_iload_n hx hb dX12_needs_113 rfl (lv_at hl 3 rfl) ?_
      exact z_iret hF hG hr hlk hw dX12_needs_114
    replace hw := hw.2 c11
    refine lv_iload_n hx hb dX12_needs_53 rfl (lv_at hl 3 rfl) ?_
    refine lv_bipush (v := (-4)) hx hb dX12_needs_54 (by decide) ?_
    refine lv_icmp_ne (tgt := 113) hx hb dX12_needs_56 (by decide) (fun c12 => ?_) (fun c12 => ?_)
    · replace hw := hw.1 c12
      refine lv_iload_n hx hb dX12_needs_113 rfl (lv_at hl 3 rfl) ?_
      exact z_iret hF hG hr hlk hw dX12_needs_114
    replace hw := hw.2 (fun h => h c12)
    refine lv_aload_n hx hb dX12_needs_59 rfl (lv_at hl 0 rfl) ?_
    refine z_get hF hG 97 (by decide) z_md rfl in12 2 (by decide) (List.mem_of_getElem? (i := 2) rfl) rfl rfl dX12_needs_60 ?_
    refine lv_bipush (v := 12) hx hb dX12_needs_63 (by decide) ?_
    refine lv_iload_n hx hb dX12_needs_65 rfl (lv_at hl 1 rfl) ?_
    refine lv_iadd hx hb dX12_needs_66 ?_
    refine lv_iload hx hb dX12_needs_67 (lv_at hl 4 rfl) ?_
    obtain ⟨q13, hw⟩ := hw
    refine z_iast hF hG 98 (by decide) (fun _ => z_m98) q13 dX12_needs_69 (fun Z14 H locs eZ14 hG => ?_)
    replace hw := hw Z14 eZ14
    refine lv_aload_n hx hb dX12_needs_70 rfl (lv_at hl 0 rfl) ?_
    refine lv_iload_n hx hb dX12_needs_71 rfl (lv_at hl 2 rfl) ?_
    refine z_cv (va_runV (rest := []) hF.1 (kX12_goesOn l E Z14 a2  hw _) (cwV 1 hts gX12_needs_X12_goesOn rfl rfl rfl ⟨rfl, hS_yX12_goesOn⟩ ⟨Nat.le_trans (Nat.le_of_ble_eq_true rfl) hfr, Nat.le_trans (Nat.le_of_ble_eq_true rfl) hlo⟩) (z_preV hF hG 97 (by decide) z_md rfl) rfl rfl hl.1 rfl (lv_room (Nat.le_of_ble_eq_true rfl)) dX12_needs_72 ⟨Nat.zero_le _, Nat.zero_le _⟩) hG (fun Z15 H locs hw hG => ?_)
    refine lv_aload_n hx hb dX12_needs_75 rfl (lv_at hl 0 rfl) ?_
    refine z_get hF hG 97 (by decide) z_md rfl in12 2 (by decide) (List.mem_of_getElem? (i := 2) rfl) rfl rfl dX12_needs_76 ?_
    refine lv_bipush (v := 48) hx hb dX12_needs_79 (by decide) ?_
    refine lv_iload_n hx hb dX12_needs_81 rfl (lv_at hl 1 rfl) ?_
    refine lv_iadd hx hb dX12_needs_82 ?_
    obtain ⟨q16, hw⟩ := hw
    refine z_iald hF hG 98 (by decide) z_m98 q16 dX12_needs_83 ?_
    refine lv_aload_n hx hb dX12_needs_84 rfl (lv_at hl 0 rfl) ?_
    refine z_get hF hG 97 (by decide) z_md rfl in12 10 (by decide) (List.mem_of_getElem? (i := 1) rfl) rfl rfl dX12_needs_85 ?_
    refine lv_bipush (v := 48) hx hb dX12_needs_88 (by decide) ?_
    refine lv_iload_n hx hb dX12_needs_90 rfl (lv_at hl 1 rfl) ?_
    refine lv_iadd hx hb dX12_needs_91 ?_
    obtain ⟨q17, hw⟩ := hw
    refine z_iald hF hG 102 (by decide) z_m102 q17 dX12_needs_92 ?_
    refine lv_icmp_ne (tgt := 99) hx hb dX12_needs_93 (by decide) (fun c18 => ?_) (fun c18 => ?_)
    · replace hw := hw.1 c18
      exact J99 x3 x4 Z15 _ _ _ hG (lv_sub hl [0, 1, 2, 3, 4] rfl) hw
    replace hw := hw.2 (fun h => h c18)
    refine lv_iload hx hb dX12_needs_96 (lv_at hl 4 rfl) ?_
    refine lv_istore_n (lv' := [(3, .int x4), (0, .ref (E.2.1 97)), (1, .int a1), (2, .int a2), (4, .int x4)]) hx hb dX12_needs_98 rfl hl (by decide) rfl (fun ls hl => ?_)
    exact J99 x4 x4 Z15 _ _ _ hG (lv_sub hl [1, 2, 3, 0, 4] rfl) hw
  have J34 : ∀ n : Nat, ∀ (x3 : Int32) (x4 : Int32) (Z : zS) (H : Heap) (locs : List Loc) (ls : Array Slot), zG E Z s H locs → lv_has ls 5 [(0, .ref (E.2.1 97)), (1, .int a1), (2, .int a2), (3, .int x3), (4, .int x4)] → wX12_needs_34 a1 a2 K n x3 x4 Z → W p l e R s m args below meth c H locs 0 0 (zQi E K below args s) (F0 m 34 ls []) := by
    intro n
    induction n with
    | zero => intro x3 x4 Z H locs ls hG hl hw; exact hw.elim
    | succ n ih => intro x3 x4 Z H locs ls hG hl hw; exact S34 _ ih x3 x4 Z H locs ls hG hl hw
  unfold wX12_needs at hw
  refine lv_aload_n hx hb dX12_needs_0 rfl (lv_at hl 0 rfl) ?_
  refine lv_iload_n hx hb dX12_needs_1 rfl (lv_at hl 1 rfl) ?_
  refine z_ci (va_runV (rest := []) hF.1 (kX12_isServer l E Z a1  hw _) (cwV 1 hts gX12_needs_X12_isServer rfl rfl rfl ⟨rfl, hS_yX12_isServer⟩ ⟨Nat.le_trans (Nat.le_of_ble_eq_true rfl) hfr, Nat.le_trans (Nat.le_of_ble_eq_true rfl) hlo⟩) (z_preV hF hG 97 (by decide) z_md rfl) rfl rfl hl.1 rfl (lv_room (Nat.le_of_ble_eq_true rfl)) dX12_needs_2 ⟨Nat.zero_le _, Nat.zero_le _⟩) hG (fun r2 Z1 H locs hw hG => ?_)
  refine lv_if_eq (tgt := 18) hx hb dX12_needs_5 (by decide) (fun c3 => ?_) (fun c3 => ?_)
  · replace hw := hw.1 c3
    refine lv_iconst (v := (-1)) hx hb dX12_needs_18 (by decide) ?_
    exact z_iret hF hG hr hlk hw dX12_needs_19
  replace hw := hw.2 c3
  refine lv_iload_n hx hb dX12_needs_8 rfl (lv_at hl 2 rfl) ?_
  refine lv_iconst (v := 0) hx hb dX12_needs_9 (by decide) ?_
  refine lv_bipush (v := 60) hx hb dX12_needs_10 (by decide) ?_
  refine z_ci (va_runS (rest := []) hF.1 (kX12_within l E Z1 a2 0 60  hw _) (va_cwS 3 hts gX12_needs_X12_within rfl rfl rfl hS_yX12_within ⟨Nat.le_trans (Nat.le_of_ble_eq_true rfl) hfr, Nat.le_trans (Nat.le_of_ble_eq_true rfl) hlo⟩) (z_preS hF hG) rfl rfl hl.1 rfl (lv_room (Nat.le_of_ble_eq_true rfl)) dX12_needs_12 ⟨Nat.zero_le _, Nat.zero_le _⟩) hG (fun r5 Z4 H locs hw hG => ?_)
  refine lv_if_ne (tgt := 20) hx hb dX12_needs_15 (by decide) (fun c6 => ?_) (fun c6 => ?_)
  · replace hw := hw.1 c6
    refine lv_aload_n hx hb dX12_needs_20 rfl (lv_at hl 0 rfl) ?_
    refine lv_aload_n hx hb dX12_needs_21 rfl (lv_at hl 0 rfl) ?_
    refine z_get hF hG 97 (by decide) z_md rfl in12 10 (by decide) (List.mem_of_getElem? (i := 1) rfl) rfl rfl dX12_needs_22 ?_
    refine z_cv (va_runV (rest := []) hF.1 (kX12_keep l E Z4 102 122 (by decide) (fun _ => z_m102) hw _) (cwV 1 hts gX12_needs_X12_keep rfl rfl rfl ⟨rfl, hS_yX12_keep⟩ ⟨Nat.le_trans (Nat.le_of_ble_eq_true rfl) hfr, Nat.le_trans (Nat.le_of_ble_eq_true rfl) hlo⟩) (z_preV hF hG 97 (by decide) z_md rfl) rfl rfl hl.1 rfl (lv_room (Nat.le_of_ble_eq_true rfl)) dX12_needs_25 ⟨Nat.zero_le _, Nat.zero_le _⟩) hG (fun Z7 H locs hw hG => ?_)
    refine lv_bipush (v := (-4)) hx hb dX12_needs_28 (by decide) ?_
    refine lv_topi (fun y8 ey8 => ?_)
    replace hw := hw y8 ey8
    refine lv_istore_n (lv' := [(3, .int y8), (0, .ref (E.2.1 97)), (1, .int a1), (2, .int a2)]) hx hb dX12_needs_30 rfl hl (by decide) rfl (fun ls hl => ?_)
    refine lv_iconst (v := 1) hx hb dX12_needs_31 (by decide) ?_
    refine lv_topi (fun y9 ey9 => ?_)
    replace hw := hw y9 ey9
    refine lv_istore (lv' := [(4, .int y9), (3, .int y8), (0, .ref (E.2.1 97)), (1, .int a1), (2, .int a2)]) hx hb dX12_needs_32 hl (by decide) rfl (fun ls hl => ?_)
    obtain ⟨n34, hw⟩ := hw
    exact J34 n34 y8 y9 Z7 _ _ _ hG (lv_sub hl [2, 3, 4, 1, 0] rfl) hw
  replace hw := hw.2 (fun h => h c6)
  refine lv_iconst (v := (-1)) hx hb dX12_needs_18 (by decide) ?_
  exact z_iret hF hG hr hlk hw dX12_needs_19
set_option maxHeartbeats 4000000 in
set_option maxRecDepth 100000 in
theorem kX12_alone (l : Launch) (E : zE) (Z : zS) (a1 : Int32) (a2 : Int32) {K : Int32 → zS → Prop} (hw : wX12_alone a1 a2 Z K) : zCi l yX12_alone wsX12_alone ({ frames := 7, cells := 0, slots := 0, locals := 150 } : Room) E Z [.ref (E.2.1 97), .int a1, .int a2] K := by
  refine z_bodyi (cc := cX12_alone) (nL := 4) (ret := .int) (by decide) rfl (Nat.le_of_ble_eq_true rfl) ?_
  intro p e R s m args below meth c ls hfr hlo hF hr hlk hG hl
  have hx := hF.1.1
  have hb := hF.1.2.1
  have hown := hF.1.2.2.2.1
  have hts := hF.1.2.2.2.2
  have in12 : ∀ w ∈ u_ws RX12 TX12 22, w ∈ wsX12_alone := fun _ h => List.mem_cons_of_mem _ (List.mem_append_right _ h)
  have hl : lv_has ls 4 [(0, .ref (E.2.1 97)), (1, .int a1), (2, .int a2)] := hl
  have S30 : ∀ (L30 : Int32 → zS → Prop), (∀ (x3 : Int32) (Z : zS) (H : Heap) (locs : List Loc) (ls : Array Slot), zG E Z s H locs → lv_has ls 4 [(0, .ref (E.2.1 97)), (1, .int a1), (2, .int a2), (3, .int x3)] → L30 x3 Z → W p l e R s m args below meth c H locs 0 0 (zQi E K below args s) (F0 m 30 ls [])) → ∀ (x3 : Int32) (Z : zS) (H : Heap) (locs : List Loc) (ls : Array Slot), zG E Z s H locs → lv_has ls 4 [(0, .ref (E.2.1 97)), (1, .int a1), (2, .int a2), (3, .int x3)] → wX12_alone_30b L30 a1 a2 x3 Z K → W p l e R s m args below meth c H locs 0 0 (zQi E K below args s) (F0 m 30 ls []) := by
    intro L30 ih30
    have J49 : ∀ (x3 : Int32) (Z : zS) (H : Heap) (locs : List Loc) (ls : Array Slot), zG E Z s H locs → lv_has ls 4 [(0, .ref (E.2.1 97)), (1, .int a1), (2, .int a2), (3, .int x3)] → wX12_alone_49 L30 a1 a2 x3 Z K → W p l e R s m args below meth c H locs 0 0 (zQi E K below args s) (F0 m 49 ls []) := by
      intro x3 Z H locs ls hG hl hw
      unfold wX12_alone_49 at hw
      obtain ⟨y18, ey18⟩ : ∃ y : Int32, y = x3 + 1 := ⟨_, rfl⟩
      replace hw := hw y18 ey18
      refine lv_iinc (v := y18) (lv' := [(3, .int y18), (0, .ref (E.2.1 97)), (1, .int a1), (2, .int a2)]) hx hb dX12_alone_49 hl (k := 3) rfl (by rw [ey18]; rfl) (by decide) rfl (fun ls hl => ?_)
      refine lv_goto (tgt := 30) hx hb dX12_alone_52 (by decide) ?_
      exact ih30 y18 Z _ _ _ hG (lv_sub hl [1, 2, 3, 0] rfl) hw
    intro x3 Z H locs ls hG hl hw
    unfold wX12_alone_30b at hw
    refine lv_iload_n hx hb dX12_alone_30 rfl (lv_at hl 3 rfl) ?_
    refine lv_aload_n hx hb dX12_alone_31 rfl (lv_at hl 0 rfl) ?_
    refine z_get hF hG 97 (by decide) z_md rfl in12 1 (by decide) (List.mem_of_getElem? (i := 2) rfl) rfl rfl dX12_alone_32 ?_
    refine lv_icmp_ge (tgt := 55) hx hb dX12_alone_35 (by decide) (fun c9 => ?_) (fun c9 => ?_)
    · replace hw := hw.1 c9
      refine lv_aload_n hx hb dX12_alone_55 rfl (lv_at hl 0 rfl) ?_
      refine lv_iload_n hx hb dX12_alone_56 rfl (lv_at hl 2 rfl) ?_
      refine z_cv (va_runV (rest := []) hF.1 (kX12_goesOn l E Z a2  hw _) (cwV 1 hts gX12_alone_X12_goesOn rfl rfl rfl ⟨rfl, hS_yX12_goesOn⟩ ⟨Nat.le_trans (Nat.le_of_ble_eq_true rfl) hfr, Nat.le_trans (Nat.le_of_ble_eq_true rfl) hlo⟩) (z_preV hF hG 97 (by decide) z_md rfl) rfl rfl hl.1 rfl (lv_room (Nat.le_of_ble_eq_true rfl)) dX12_alone_57 ⟨Nat.zero_le _, Nat.zero_le _⟩) hG (fun Z10 H locs hw hG => ?_)
      refine lv_aload_n hx hb dX12_alone_60 rfl (lv_at hl 0 rfl) ?_
      refine z_get hF hG 97 (by decide) z_md rfl in12 2 (by decide) (List.mem_of_getElem? (i := 3) rfl) rfl rfl dX12_alone_61 ?_
      refine lv_bipush (v := 48) hx hb dX12_alone_64 (by decide) ?_
      refine lv_iload_n hx hb dX12_alone_66 rfl (lv_at hl 1 rfl) ?_
      refine lv_iadd hx hb dX12_alone_67 ?_
      obtain ⟨q11, hw⟩ := hw
      refine z_iald hF hG 98 (by decide) z_m98 q11 dX12_alone_68 ?_
      refine lv_aload_n hx hb dX12_alone_69 rfl (lv_at hl 0 rfl) ?_
      refine z_get hF hG 97 (by decide) z_md rfl in12 10 (by decide) (List.mem_of_getElem? (i := 1) rfl) rfl rfl dX12_alone_70 ?_
      refine lv_bipush (v := 48) hx hb dX12_alone_73 (by decide) ?_
      refine lv_iload_n hx hb dX12_alone_75 rfl (lv_at hl 1 rfl) ?_
      refine lv_iadd hx hb dX12_alone_76 ?_
      obtain ⟨q12, hw⟩ := hw
      refine z_iald hF hG 102 (by decide) z_m102 q12 dX12_alone_77 ?_
      refine lv_isub hx hb dX12_alone_78 ?_
      refine lv_topi (fun y13 ey13 => ?_)
      replace hw := hw y13 ey13
      refine lv_istore_n (lv' := [(3, .int y13), (0, .ref (E.2.1 97)), (1, .int a1), (2, .int a2)]) hx hb dX12_alone_79 rfl hl (by decide) rfl (fun ls hl => ?_)
      refine lv_aload_n hx hb dX12_alone_80 rfl (lv_at hl 1 rfl) ?_
      refine lv_aload_n hx hb dX12_alone_81 rfl (lv_at hl 1 rfl) ?_
      refine z_get hF hG 97 (by decide) z_md rfl in12 10 (by decide) (List.mem_of_getElem? (i := 1) rfl) rfl rfl dX12_alone_82 ?_
      refine z_cv (va_runV (rest := []) hF.1 (kX12_again l E Z10 102 122 (by decide) (fun _ => z_m102) hw _) (cwV 1 hts gX12_alone_X12_again rfl rfl rfl ⟨rfl, hS_yX12_again⟩ ⟨Nat.le_trans (Nat.le_of_ble_eq_true rfl) hfr, Nat.le_trans (Nat.le_of_ble_eq_true rfl) hlo⟩) (z_preV hF hG 97 (by decide) z_md rfl) rfl rfl hl.1 rfl (lv_room (Nat.le_of_ble_eq_true rfl)) dX12_alone_85 ⟨Nat.zero_le _, Nat.zero_le _⟩) hG (fun Z14 H locs hw hG => ?_)
      refine lv_iload_n hx hb dX12_alone_88 rfl (lv_at hl 0 rfl) ?_
      exact z_iret hF hG hr hlk hw dX12_alone_89
    replace hw := hw.2 c9
    refine lv_iload_n hx hb dX12_alone_38 rfl (lv_at hl 3 rfl) ?_
    refine lv_iload_n hx hb dX12_alone_39 rfl (lv_at hl 1 rfl) ?_
    refine lv_icmp_eq (tgt := 49) hx hb dX12_alone_40 (by decide) (fun c15 => ?_) (fun c15 => ?_)
    · replace hw := hw.1 c15
      exact J49 x3 Z _ _ _ hG (lv_sub hl [0, 1, 2, 3] rfl) hw
    replace hw := hw.2 c15
    refine lv_aload_n hx hb dX12_alone_43 rfl (lv_at hl 0 rfl) ?_
    refine lv_iload_n hx hb dX12_alone_44 rfl (lv_at hl 3 rfl) ?_
    refine z_ci (va_runV (rest := []) hF.1 (kX12_goesOff l E Z x3  hw _) (cwV 1 hts gX12_alone_X12_goesOff rfl rfl rfl ⟨rfl, hS_yX12_goesOff⟩ ⟨Nat.le_trans (Nat.le_of_ble_eq_true rfl) hfr, Nat.le_trans (Nat.le_of_ble_eq_true rfl) hlo⟩) (z_preV hF hG 97 (by decide) z_md rfl) rfl rfl hl.1 rfl (lv_room (Nat.le_of_ble_eq_true rfl)) dX12_alone_45 ⟨Nat.zero_le _, Nat.zero_le _⟩) hG (fun r17 Z16 H locs hw hG => ?_)
    refine lv_pop hx hb dX12_alone_48 rfl ?_
    exact J49 x3 Z16 _ _ _ hG (lv_sub hl [0, 1, 2, 3] rfl) hw
  have J30 : ∀ n : Nat, ∀ (x3 : Int32) (Z : zS) (H : Heap) (locs : List Loc) (ls : Array Slot), zG E Z s H locs → lv_has ls 4 [(0, .ref (E.2.1 97)), (1, .int a1), (2, .int a2), (3, .int x3)] → wX12_alone_30 a1 a2 K n x3 Z → W p l e R s m args below meth c H locs 0 0 (zQi E K below args s) (F0 m 30 ls []) := by
    intro n
    induction n with
    | zero => intro x3 Z H locs ls hG hl hw; exact hw.elim
    | succ n ih => intro x3 Z H locs ls hG hl hw; exact S30 _ ih x3 Z H locs ls hG hl hw
  unfold wX12_alone at hw
  refine lv_aload_n hx hb dX12_alone_0 rfl (lv_at hl 0 rfl) ?_
  refine lv_iload_n hx hb dX12_alone_1 rfl (lv_at hl 1 rfl) ?_
  refine z_ci (va_runV (rest := []) hF.1 (kX12_isServer l E Z a1  hw _) (cwV 1 hts gX12_alone_X12_isServer rfl rfl rfl ⟨rfl, hS_yX12_isServer⟩ ⟨Nat.le_trans (Nat.le_of_ble_eq_true rfl) hfr, Nat.le_trans (Nat.le_of_ble_eq_true rfl) hlo⟩) (z_preV hF hG 97 (by decide) z_md rfl) rfl rfl hl.1 rfl (lv_room (Nat.le_of_ble_eq_true rfl)) dX12_alone_2 ⟨Nat.zero_le _, Nat.zero_le _⟩) hG (fun r2 Z1 H locs hw hG => ?_)
  refine lv_if_eq (tgt := 18) hx hb dX12_alone_5 (by decide) (fun c3 => ?_) (fun c3 => ?_)
  · replace hw := hw.1 c3
    refine lv_iconst (v := (-1)) hx hb dX12_alone_18 (by decide) ?_
    exact z_iret hF hG hr hlk hw dX12_alone_19
  replace hw := hw.2 c3
  refine lv_iload_n hx hb dX12_alone_8 rfl (lv_at hl 2 rfl) ?_
  refine lv_iconst (v := 0) hx hb dX12_alone_9 (by decide) ?_
  refine lv_bipush (v := 60) hx hb dX12_alone_10 (by decide) ?_
  refine z_ci (va_runS (rest := []) hF.1 (kX12_within l E Z1 a2 0 60  hw _) (va_cwS 3 hts gX12_alone_X12_within rfl rfl rfl hS_yX12_within ⟨Nat.le_trans (Nat.le_of_ble_eq_true rfl) hfr, Nat.le_trans (Nat.le_of_ble_eq_true rfl) hlo⟩) (z_preS hF hG) rfl rfl hl.1 rfl (lv_room (Nat.le_of_ble_eq_true rfl)) dX12_alone_12 ⟨Nat.zero_le _, Nat.zero_le _⟩) hG (fun r5 Z4 H locs hw hG => ?_)
  refine lv_if_ne (tgt := 20) hx hb dX12_alone_15 (by decide) (fun c6 => ?_) (fun c6 => ?_)
  · replace hw := hw.1 c6
    refine lv_aload_n hx hb dX12_alone_20 rfl (lv_at hl 0 rfl) ?_
    refine lv_aload_n hx hb dX12_alone_21 rfl (lv_at hl 0 rfl) ?_
    refine z_get hF hG 97 (by decide) z_md rfl in12 10 (by decide) (List.mem_of_getElem? (i := 1) rfl) rfl rfl dX12_alone_22 ?_
    refine z_cv (va_runV (rest := []) hF.1 (kX12_keep l E Z4 102 122 (by decide) (fun _ => z_m102) hw _) (cwV 1 hts gX12_alone_X12_keep rfl rfl rfl ⟨rfl, hS_yX12_keep⟩ ⟨Nat.le_trans (Nat.le_of_ble_eq_true rfl) hfr, Nat.le_trans (Nat.le_of_ble_eq_true rfl) hlo⟩) (z_preV hF hG 97 (by decide) z_md rfl) rfl rfl hl.1 rfl (lv_room (Nat.le_of_ble_eq_true rfl)) dX12_alone_25 ⟨Nat.zero_le _, Nat.zero_le _⟩) hG (fun Z7 H locs hw hG => ?_)
    refine lv_iconst (v := 0) hx hb dX12_alone_28 (by decide) ?_
    refine lv_topi (fun y8 ey8 => ?_)
    replace hw := hw y8 ey8
    refine lv_istore_n (lv' := [(3, .int y8), (0, .ref (E.2.1 97)), (1, .int a1), (2, .int a2)]) hx hb dX12_alone_29 rfl hl (by decide) rfl (fun ls hl => ?_)
    obtain ⟨n30, hw⟩ := hw
    exact J30 n30 y8 Z7 _ _ _ hG (lv_sub hl [1, 2, 3, 0] rfl) hw
  replace hw := hw.2 (fun h => h c6)
  refine lv_iconst (v := (-1)) hx hb dX12_alone_18 (by decide) ?_
  exact z_iret hF hG hr hlk hw dX12_alone_19
set_option maxHeartbeats 4000000 in
set_option maxRecDepth 100000 in
theorem kX12_kindBest (l : Launch) (E : zE) (Z : zS) (a1 : Int32) (a2 : Int32) (a3 : Int32) {K : Int32 → zS → Prop} (hw : wX12_kindBest a1 a2 a3 Z K) : zCi l yX12_kindBest wsX12_kindBest ({ frames := 7, cells := 0, slots := 0, locals := 150 } : Room) E Z [.ref (E.2.1 97), .int a1, .int a2, .int a3] K := by
  refine z_bodyi (cc := cX12_kindBest) (nL := 7) (ret := .int) (by decide) rfl (Nat.le_of_ble_eq_true rfl) ?_
  intro p e R s m args below meth c ls hfr hlo hF hr hlk hG hl
  have hx := hF.1.1
  have hb := hF.1.2.1
  have hown := hF.1.2.2.2.1
  have hts := hF.1.2.2.2.2
  have in12 : ∀ w ∈ u_ws RX12 TX12 22, w ∈ wsX12_kindBest := fun _ h => List.mem_cons_of_mem _ (List.mem_append_right _ h)
  have hl : lv_has ls 7 [(0, .ref (E.2.1 97)), (1, .int a1), (2, .int a2), (3, .int a3)] := hl
  have S46 : ∀ (L46 : Int32 → Int32 → Int32 → zS → Prop), (∀ (x4 : Int32) (x5 : Int32) (x6 : Int32) (Z : zS) (H : Heap) (locs : List Loc) (ls : Array Slot), zG E Z s H locs → lv_has ls 7 [(0, .ref (E.2.1 97)), (1, .int a1), (2, .int a2), (3, .int a3), (4, .int x4), (5, .int x5), (6, .int x6)] → L46 x4 x5 x6 Z → W p l e R s m args below meth c H locs 0 0 (zQi E K below args s) (F0 m 46 ls [])) → ∀ (x4 : Int32) (x5 : Int32) (x6 : Int32) (Z : zS) (H : Heap) (locs : List Loc) (ls : Array Slot), zG E Z s H locs → lv_has ls 7 [(0, .ref (E.2.1 97)), (1, .int a1), (2, .int a2), (3, .int a3), (4, .int x4), (5, .int x5), (6, .int x6)] → wX12_kindBest_46b L46 a1 a2 a3 x4 x5 x6 Z K → W p l e R s m args below meth c H locs 0 0 (zQi E K below args s) (F0 m 46 ls []) := by
    intro L46 ih46
    have J92 : ∀ (x4 : Int32) (x5 : Int32) (x6 : Int32) (Z : zS) (H : Heap) (locs : List Loc) (ls : Array Slot), zG E Z s H locs → lv_has ls 7 [(0, .ref (E.2.1 97)), (1, .int a1), (2, .int a2), (3, .int a3), (4, .int x4), (5, .int x5), (6, .int x6)] → wX12_kindBest_92 L46 a1 a2 a3 x4 x5 x6 Z K → W p l e R s m args below meth c H locs 0 0 (zQi E K below args s) (F0 m 92 ls []) := by
      intro x4 x5 x6 Z H locs ls hG hl hw
      unfold wX12_kindBest_92 at hw
      refine lv_aload_n hx hb dX12_kindBest_92 rfl (lv_at hl 0 rfl) ?_
      refine lv_aload_n hx hb dX12_kindBest_93 rfl (lv_at hl 0 rfl) ?_
      refine z_get hF hG 97 (by decide) z_md rfl in12 10 (by decide) (List.mem_of_getElem? (i := 1) rfl) rfl rfl dX12_kindBest_94 ?_
      refine z_cv (va_runV (rest := []) hF.1 (kX12_again l E Z 102 122 (by decide) (fun _ => z_m102) hw _) (cwV 1 hts gX12_kindBest_X12_again rfl rfl rfl ⟨rfl, hS_yX12_again⟩ ⟨Nat.le_trans (Nat.le_of_ble_eq_true rfl) hfr, Nat.le_trans (Nat.le_of_ble_eq_true rfl) hlo⟩) (z_preV hF hG 97 (by decide) z_md rfl) rfl rfl hl.1 rfl (lv_room (Nat.le_of_ble_eq_true rfl)) dX12_kindBest_97 ⟨Nat.zero_le _, Nat.zero_le _⟩) hG (fun Z23 H locs hw hG => ?_)
      obtain ⟨y24, ey24⟩ : ∃ y : Int32, y = x6 + 1 := ⟨_, rfl⟩
      replace hw := hw y24 ey24
      refine lv_iinc (v := y24) (lv' := [(6, .int y24), (0, .ref (E.2.1 97)), (1, .int a1), (2, .int a2), (3, .int a3), (4, .int x4), (5, .int x5)]) hx hb dX12_kindBest_100 hl (k := 6) rfl (by rw [ey24]; rfl) (by decide) rfl (fun ls hl => ?_)
      refine lv_goto (tgt := 46) hx hb dX12_kindBest_103 (by decide) ?_
      exact ih46 x4 x5 y24 Z23 _ _ _ hG (lv_sub hl [1, 2, 3, 4, 5, 6, 0] rfl) hw
    have J82 : ∀ (x6 : Int32) (Z : zS) (H : Heap) (locs : List Loc) (ls : Array Slot), zG E Z s H locs → lv_has ls 7 [(0, .ref (E.2.1 97)), (1, .int a1), (2, .int a2), (3, .int a3), (6, .int x6)] → wX12_kindBest_82 L46 a1 a2 a3 x6 Z K → W p l e R s m args below meth c H locs 0 0 (zQi E K below args s) (F0 m 82 ls []) := by
      intro x6 Z H locs ls hG hl hw
      unfold wX12_kindBest_82 at hw
      refine lv_iload hx hb dX12_kindBest_82 (lv_at hl 4 rfl) ?_
      refine lv_istore (lv' := [(4, .int x6), (0, .ref (E.2.1 97)), (1, .int a1), (2, .int a2), (3, .int a3), (6, .int x6)]) hx hb dX12_kindBest_84 hl (by decide) rfl (fun ls hl => ?_)
      refine lv_aload_n hx hb dX12_kindBest_86 rfl (lv_at hl 1 rfl) ?_
      refine z_ci (va_runV (rest := []) hF.1 (kX12_allLate l E Z   hw _) (cwV 0 hts gX12_kindBest_X12_allLate rfl rfl rfl ⟨rfl, hS_yX12_allLate⟩ ⟨Nat.le_trans (Nat.le_of_ble_eq_true rfl) hfr, Nat.le_trans (Nat.le_of_ble_eq_true rfl) hlo⟩) (z_preV hF hG 97 (by decide) z_md rfl) rfl rfl hl.1 rfl (lv_room (Nat.le_of_ble_eq_true rfl)) dX12_kindBest_87 ⟨Nat.zero_le _, Nat.zero_le _⟩) hG (fun r26 Z25 H locs hw hG => ?_)
      refine lv_istore (lv' := [(5, .int r26), (4, .int x6), (0, .ref (E.2.1 97)), (1, .int a1), (2, .int a2), (3, .int a3), (6, .int x6)]) hx hb dX12_kindBest_90 hl (by decide) rfl (fun ls hl => ?_)
      exact J92 x6 r26 x6 Z25 _ _ _ hG (lv_sub hl [2, 3, 4, 5, 1, 0, 6] rfl) hw
    intro x4 x5 x6 Z H locs ls hG hl hw
    unfold wX12_kindBest_46b at hw
    refine lv_iload hx hb dX12_kindBest_46 (lv_at hl 6 rfl) ?_
    refine lv_bipush (v := 6) hx hb dX12_kindBest_48 (by decide) ?_
    refine lv_icmp_ge (tgt := 106) hx hb dX12_kindBest_50 (by decide) (fun c14 => ?_) (fun c14 => ?_)
    · replace hw := hw.1 c14
      refine lv_iload_n hx hb dX12_kindBest_106 rfl (lv_at hl 3 rfl) ?_
      refine lv_if_ne (tgt := 115) hx hb dX12_kindBest_107 (by decide) (fun c15 => ?_) (fun c15 => ?_)
      · replace hw := hw.1 c15
        refine lv_iload hx hb dX12_kindBest_115 (lv_at hl 5 rfl) ?_
        exact z_iret hF hG hr hlk hw dX12_kindBest_117
      replace hw := hw.2 (fun h => h c15)
      refine lv_iload hx hb dX12_kindBest_110 (lv_at hl 4 rfl) ?_
      refine lv_goto (tgt := 117) hx hb dX12_kindBest_112 (by decide) ?_
      exact z_iret hF hG hr hlk hw dX12_kindBest_117
    replace hw := hw.2 c14
    refine lv_aload_n hx hb dX12_kindBest_53 rfl (lv_at hl 0 rfl) ?_
    refine z_get hF hG 97 (by decide) z_md rfl in12 2 (by decide) (List.mem_of_getElem? (i := 2) rfl) rfl rfl dX12_kindBest_54 ?_
    refine lv_iconst (v := 0) hx hb dX12_kindBest_57 (by decide) ?_
    refine lv_iload_n hx hb dX12_kindBest_58 rfl (lv_at hl 1 rfl) ?_
    refine lv_iadd hx hb dX12_kindBest_59 ?_
    refine lv_iload hx hb dX12_kindBest_60 (lv_at hl 6 rfl) ?_
    obtain ⟨q16, hw⟩ := hw
    refine z_iast hF hG 98 (by decide) (fun _ => z_m98) q16 dX12_kindBest_62 (fun Z17 H locs eZ17 hG => ?_)
    replace hw := hw Z17 eZ17
    refine lv_aload_n hx hb dX12_kindBest_63 rfl (lv_at hl 0 rfl) ?_
    refine lv_iload_n hx hb dX12_kindBest_64 rfl (lv_at hl 2 rfl) ?_
    refine z_cv (va_runV (rest := []) hF.1 (kX12_goesOn l E Z17 a2  hw _) (cwV 1 hts gX12_kindBest_X12_goesOn rfl rfl rfl ⟨rfl, hS_yX12_goesOn⟩ ⟨Nat.le_trans (Nat.le_of_ble_eq_true rfl) hfr, Nat.le_trans (Nat.le_of_ble_eq_true rfl) hlo⟩) (z_preV hF hG 97 (by decide) z_md rfl) rfl rfl hl.1 rfl (lv_room (Nat.le_of_ble_eq_true rfl)) dX12_kindBest_65 ⟨Nat.zero_le _, Nat.zero_le _⟩) hG (fun Z18 H locs hw hG => ?_)
    refine lv_iload hx hb dX12_kindBest_68 (lv_at hl 6 rfl) ?_
    refine lv_if_eq (tgt := 82) hx hb dX12_kindBest_70 (by decide) (fun c19 => ?_) (fun c19 => ?_)
    · replace hw := hw.1 c19
      exact J82 x6 Z18 _ _ _ hG (lv_sub hl [0, 1, 2, 3, 6] rfl) hw
    replace hw := hw.2 c19
    refine lv_aload_n hx hb dX12_kindBest_73 rfl (lv_at hl 0 rfl) ?_
    refine z_ci (va_runV (rest := []) hF.1 (kX12_allLate l E Z18   hw _) (cwV 0 hts gX12_kindBest_X12_allLate rfl rfl rfl ⟨rfl, hS_yX12_allLate⟩ ⟨Nat.le_trans (Nat.le_of_ble_eq_true rfl) hfr, Nat.le_trans (Nat.le_of_ble_eq_true rfl) hlo⟩) (z_preV hF hG 97 (by decide) z_md rfl) rfl rfl hl.1 rfl (lv_room (Nat.le_of_ble_eq_true rfl)) dX12_kindBest_74 ⟨Nat.zero_le _, Nat.zero_le _⟩) hG (fun r21 Z20 H locs hw hG => ?_)
    refine lv_iload hx hb dX12_kindBest_77 (lv_at hl 5 rfl) ?_
    refine lv_icmp_ge (tgt := 92) hx hb dX12_kindBest_79 (by decide) (fun c22 => ?_) (fun c22 => ?_)
    · replace hw := hw.1 c22
      exact J92 x4 x5 x6 Z20 _ _ _ hG (lv_sub hl [0, 1, 2, 3, 4, 5, 6] rfl) hw
    replace hw := hw.2 c22
    exact J82 x6 Z20 _ _ _ hG (lv_sub hl [0, 1, 2, 3, 6] rfl) hw
  have J46 : ∀ n : Nat, ∀ (x4 : Int32) (x5 : Int32) (x6 : Int32) (Z : zS) (H : Heap) (locs : List Loc) (ls : Array Slot), zG E Z s H locs → lv_has ls 7 [(0, .ref (E.2.1 97)), (1, .int a1), (2, .int a2), (3, .int a3), (4, .int x4), (5, .int x5), (6, .int x6)] → wX12_kindBest_46 a1 a2 a3 K n x4 x5 x6 Z → W p l e R s m args below meth c H locs 0 0 (zQi E K below args s) (F0 m 46 ls []) := by
    intro n
    induction n with
    | zero => intro x4 x5 x6 Z H locs ls hG hl hw; exact hw.elim
    | succ n ih => intro x4 x5 x6 Z H locs ls hG hl hw; exact S46 _ ih x4 x5 x6 Z H locs ls hG hl hw
  unfold wX12_kindBest at hw
  refine lv_aload_n hx hb dX12_kindBest_0 rfl (lv_at hl 0 rfl) ?_
  refine lv_iload_n hx hb dX12_kindBest_1 rfl (lv_at hl 1 rfl) ?_
  refine z_ci (va_runV (rest := []) hF.1 (kX12_isServer l E Z a1  hw _) (cwV 1 hts gX12_kindBest_X12_isServer rfl rfl rfl ⟨rfl, hS_yX12_isServer⟩ ⟨Nat.le_trans (Nat.le_of_ble_eq_true rfl) hfr, Nat.le_trans (Nat.le_of_ble_eq_true rfl) hlo⟩) (z_preV hF hG 97 (by decide) z_md rfl) rfl rfl hl.1 rfl (lv_room (Nat.le_of_ble_eq_true rfl)) dX12_kindBest_2 ⟨Nat.zero_le _, Nat.zero_le _⟩) hG (fun r2 Z1 H locs hw hG => ?_)
  refine lv_if_eq (tgt := 27) hx hb dX12_kindBest_5 (by decide) (fun c3 => ?_) (fun c3 => ?_)
  · replace hw := hw.1 c3
    refine lv_iconst (v := (-1)) hx hb dX12_kindBest_27 (by decide) ?_
    exact z_iret hF hG hr hlk hw dX12_kindBest_28
  replace hw := hw.2 c3
  refine lv_iload_n hx hb dX12_kindBest_8 rfl (lv_at hl 2 rfl) ?_
  refine lv_iconst (v := 0) hx hb dX12_kindBest_9 (by decide) ?_
  refine lv_bipush (v := 60) hx hb dX12_kindBest_10 (by decide) ?_
  refine z_ci (va_runS (rest := []) hF.1 (kX12_within l E Z1 a2 0 60  hw _) (va_cwS 3 hts gX12_kindBest_X12_within rfl rfl rfl hS_yX12_within ⟨Nat.le_trans (Nat.le_of_ble_eq_true rfl) hfr, Nat.le_trans (Nat.le_of_ble_eq_true rfl) hlo⟩) (z_preS hF hG) rfl rfl hl.1 rfl (lv_room (Nat.le_of_ble_eq_true rfl)) dX12_kindBest_12 ⟨Nat.zero_le _, Nat.zero_le _⟩) hG (fun r5 Z4 H locs hw hG => ?_)
  refine lv_if_eq (tgt := 27) hx hb dX12_kindBest_15 (by decide) (fun c6 => ?_) (fun c6 => ?_)
  · replace hw := hw.1 c6
    refine lv_iconst (v := (-1)) hx hb dX12_kindBest_27 (by decide) ?_
    exact z_iret hF hG hr hlk hw dX12_kindBest_28
  replace hw := hw.2 c6
  refine lv_iload_n hx hb dX12_kindBest_18 rfl (lv_at hl 3 rfl) ?_
  refine lv_iconst (v := 0) hx hb dX12_kindBest_19 (by decide) ?_
  refine lv_iconst (v := 1) hx hb dX12_kindBest_20 (by decide) ?_
  refine z_ci (va_runS (rest := []) hF.1 (kX12_within l E Z4 a3 0 1  hw _) (va_cwS 3 hts gX12_kindBest_X12_within rfl rfl rfl hS_yX12_within ⟨Nat.le_trans (Nat.le_of_ble_eq_true rfl) hfr, Nat.le_trans (Nat.le_of_ble_eq_true rfl) hlo⟩) (z_preS hF hG) rfl rfl hl.1 rfl (lv_room (Nat.le_of_ble_eq_true rfl)) dX12_kindBest_21 ⟨Nat.zero_le _, Nat.zero_le _⟩) hG (fun r8 Z7 H locs hw hG => ?_)
  refine lv_if_ne (tgt := 29) hx hb dX12_kindBest_24 (by decide) (fun c9 => ?_) (fun c9 => ?_)
  · replace hw := hw.1 c9
    refine lv_aload_n hx hb dX12_kindBest_29 rfl (lv_at hl 0 rfl) ?_
    refine lv_aload_n hx hb dX12_kindBest_30 rfl (lv_at hl 0 rfl) ?_
    refine z_get hF hG 97 (by decide) z_md rfl in12 10 (by decide) (List.mem_of_getElem? (i := 1) rfl) rfl rfl dX12_kindBest_31 ?_
    refine z_cv (va_runV (rest := []) hF.1 (kX12_keep l E Z7 102 122 (by decide) (fun _ => z_m102) hw _) (cwV 1 hts gX12_kindBest_X12_keep rfl rfl rfl ⟨rfl, hS_yX12_keep⟩ ⟨Nat.le_trans (Nat.le_of_ble_eq_true rfl) hfr, Nat.le_trans (Nat.le_of_ble_eq_true rfl) hlo⟩) (z_preV hF hG 97 (by decide) z_md rfl) rfl rfl hl.1 rfl (lv_room (Nat.le_of_ble_eq_true rfl)) dX12_kindBest_34 ⟨Nat.zero_le _, Nat.zero_le _⟩) hG (fun Z10 H locs hw hG => ?_)
    refine lv_iconst (v := 0) hx hb dX12_kindBest_37 (by decide) ?_
    refine lv_topi (fun y11 ey11 => ?_)
    replace hw := hw y11 ey11
    refine lv_istore (lv' := [(4, .int y11), (0, .ref (E.2.1 97)), (1, .int a1), (2, .int a2), (3, .int a3)]) hx hb dX12_kindBest_38 hl (by decide) rfl (fun ls hl => ?_)
    refine lv_iconst (v := 0) hx hb dX12_kindBest_40 (by decide) ?_
    refine lv_topi (fun y12 ey12 => ?_)
    replace hw := hw y12 ey12
    refine lv_istore (lv' := [(5, .int y12), (4, .int y11), (0, .ref (E.2.1 97)), (1, .int a1), (2, .int a2), (3, .int a3)]) hx hb dX12_kindBest_41 hl (by decide) rfl (fun ls hl => ?_)
    refine lv_iconst (v := 0) hx hb dX12_kindBest_43 (by decide) ?_
    refine lv_topi (fun y13 ey13 => ?_)
    replace hw := hw y13 ey13
    refine lv_istore (lv' := [(6, .int y13), (5, .int y12), (4, .int y11), (0, .ref (E.2.1 97)), (1, .int a1), (2, .int a2), (3, .int a3)]) hx hb dX12_kindBest_44 hl (by decide) rfl (fun ls hl => ?_)
    obtain ⟨n46, hw⟩ := hw
    exact J46 n46 y11 y12 y13 Z10 _ _ _ hG (lv_sub hl [3, 4, 5, 6, 2, 1, 0] rfl) hw
  replace hw := hw.2 (fun h => h c9)
  refine lv_iconst (v := (-1)) hx hb dX12_kindBest_27 (by decide) ?_
  exact z_iret hF hG hr hlk hw dX12_kindBest_28
set_option maxHeartbeats 4000000 in
set_option maxRecDepth 100000 in
theorem kX12_others (l : Launch) (E : zE) (Z : zS) (a1 : Int32) (a2 : Int32) (a3 : Int32) {K : Int32 → zS → Prop} (hw : wX12_others a1 a2 a3 Z K) : zCi l yX12_others wsX12_others ({ frames := 7, cells := 0, slots := 0, locals := 150 } : Room) E Z [.ref (E.2.1 97), .int a1, .int a2, .int a3] K := by
  refine z_bodyi (cc := cX12_others) (nL := 5) (ret := .int) (by decide) rfl (Nat.le_of_ble_eq_true rfl) ?_
  intro p e R s m args below meth c ls hfr hlo hF hr hlk hG hl
  have hx := hF.1.1
  have hb := hF.1.2.1
  have hown := hF.1.2.2.2.1
  have hts := hF.1.2.2.2.2
  have in12 : ∀ w ∈ u_ws RX12 TX12 22, w ∈ wsX12_others := fun _ h => List.mem_cons_of_mem _ (List.mem_append_right _ h)
  have hl : lv_has ls 5 [(0, .ref (E.2.1 97)), (1, .int a1), (2, .int a2), (3, .int a3)] := hl
  have J10 : ∀ (Z : zS) (H : Heap) (locs : List Loc) (ls : Array Slot), zG E Z s H locs → lv_has ls 5 [(0, .ref (E.2.1 97)), (1, .int a1), (2, .int a2)] → wX12_others_10 a1 a2 a3 Z K → W p l e R s m args below meth c H locs 0 0 (zQi E K below args s) (F0 m 10 ls []) := by
    intro Z H locs ls hG hl hw
    unfold wX12_others_10 at hw
    refine lv_aload_n hx hb dX12_others_10 rfl (lv_at hl 0 rfl) ?_
    refine lv_iload_n hx hb dX12_others_11 rfl (lv_at hl 2 rfl) ?_
    refine z_cv (va_runV (rest := []) hF.1 (kX12_goesOn l E Z a2  hw _) (cwV 1 hts gX12_others_X12_goesOn rfl rfl rfl ⟨rfl, hS_yX12_goesOn⟩ ⟨Nat.le_trans (Nat.le_of_ble_eq_true rfl) hfr, Nat.le_trans (Nat.le_of_ble_eq_true rfl) hlo⟩) (z_preV hF hG 97 (by decide) z_md rfl) rfl rfl hl.1 rfl (lv_room (Nat.le_of_ble_eq_true rfl)) dX12_others_12 ⟨Nat.zero_le _, Nat.zero_le _⟩) hG (fun Z4 H locs hw hG => ?_)
    refine lv_aload_n hx hb dX12_others_15 rfl (lv_at hl 0 rfl) ?_
    refine z_ci (va_runV (rest := []) hF.1 (kX12_allLate l E Z4   hw _) (cwV 0 hts gX12_others_X12_allLate rfl rfl rfl ⟨rfl, hS_yX12_allLate⟩ ⟨Nat.le_trans (Nat.le_of_ble_eq_true rfl) hfr, Nat.le_trans (Nat.le_of_ble_eq_true rfl) hlo⟩) (z_preV hF hG 97 (by decide) z_md rfl) rfl rfl hl.1 rfl (lv_room (Nat.le_of_ble_eq_true rfl)) dX12_others_16 ⟨Nat.zero_le _, Nat.zero_le _⟩) hG (fun r6 Z5 H locs hw hG => ?_)
    refine lv_aload_n hx hb dX12_others_19 rfl (lv_at hl 0 rfl) ?_
    refine z_get hF hG 97 (by decide) z_md rfl in12 2 (by decide) (List.mem_of_getElem? (i := 1) rfl) rfl rfl dX12_others_20 ?_
    refine lv_bipush (v := 48) hx hb dX12_others_23 (by decide) ?_
    refine lv_iload_n hx hb dX12_others_25 rfl (lv_at hl 1 rfl) ?_
    refine lv_iadd hx hb dX12_others_26 ?_
    obtain ⟨q7, hw⟩ := hw
    refine z_iald hF hG 98 (by decide) z_m98 q7 dX12_others_27 ?_
    refine lv_isub hx hb dX12_others_28 ?_
    refine lv_topi (fun y8 ey8 => ?_)
    replace hw := hw y8 ey8
    refine lv_istore (lv' := [(4, .int y8), (0, .ref (E.2.1 97)), (1, .int a1), (2, .int a2)]) hx hb dX12_others_29 hl (by decide) rfl (fun ls hl => ?_)
    refine lv_aload_n hx hb dX12_others_31 rfl (lv_at hl 1 rfl) ?_
    refine lv_aload_n hx hb dX12_others_32 rfl (lv_at hl 1 rfl) ?_
    refine z_get hF hG 97 (by decide) z_md rfl in12 10 (by decide) (List.mem_of_getElem? (i := 2) rfl) rfl rfl dX12_others_33 ?_
    refine z_cv (va_runV (rest := []) hF.1 (kX12_again l E Z5 102 122 (by decide) (fun _ => z_m102) hw _) (cwV 1 hts gX12_others_X12_again rfl rfl rfl ⟨rfl, hS_yX12_again⟩ ⟨Nat.le_trans (Nat.le_of_ble_eq_true rfl) hfr, Nat.le_trans (Nat.le_of_ble_eq_true rfl) hlo⟩) (z_preV hF hG 97 (by decide) z_md rfl) rfl rfl hl.1 rfl (lv_room (Nat.le_of_ble_eq_true rfl)) dX12_others_36 ⟨Nat.zero_le _, Nat.zero_le _⟩) hG (fun Z9 H locs hw hG => ?_)
    refine lv_iload hx hb dX12_others_39 (lv_at hl 0 rfl) ?_
    exact z_iret hF hG hr hlk hw dX12_others_41
  unfold wX12_others at hw
  refine lv_iload_n hx hb dX12_others_0 rfl (lv_at hl 3 rfl) ?_
  refine lv_if_ne (tgt := 10) hx hb dX12_others_1 (by decide) (fun c1 => ?_) (fun c1 => ?_)
  · replace hw := hw.1 c1
    exact J10  Z _ _ _ hG (lv_sub hl [0, 1, 2] rfl) hw
  replace hw := hw.2 (fun h => h c1)
  refine lv_aload_n hx hb dX12_others_4 rfl (lv_at hl 0 rfl) ?_
  refine lv_iload_n hx hb dX12_others_5 rfl (lv_at hl 1 rfl) ?_
  refine z_ci (va_runV (rest := []) hF.1 (kX12_goesOff l E Z a1  hw _) (cwV 1 hts gX12_others_X12_goesOff rfl rfl rfl ⟨rfl, hS_yX12_goesOff⟩ ⟨Nat.le_trans (Nat.le_of_ble_eq_true rfl) hfr, Nat.le_trans (Nat.le_of_ble_eq_true rfl) hlo⟩) (z_preV hF hG 97 (by decide) z_md rfl) rfl rfl hl.1 rfl (lv_room (Nat.le_of_ble_eq_true rfl)) dX12_others_6 ⟨Nat.zero_le _, Nat.zero_le _⟩) hG (fun r3 Z2 H locs hw hG => ?_)
  refine lv_pop hx hb dX12_others_9 rfl ?_
  exact J10  Z2 _ _ _ hG (lv_sub hl [0, 1, 2] rfl) hw
theorem hS_yX12_others : yX12_others.cls ≠ "java/lang/invoke/MethodHandle" ∧ yX12_others.cls ≠ "java/lang/invoke/VarHandle" ∧ (parseMethodDescriptor yX12_others.desc).map (fun d => d.parameters.length) = some 3 := by decide +kernel
set_option maxHeartbeats 4000000 in
set_option maxRecDepth 100000 in
theorem kX12_send (l : Launch) (E : zE) (Z : zS) (a1 : Int32) {K : Int32 → zS → Prop} (hw : wX12_send a1 Z K) : zCi l yX12_send wsX12_send ({ frames := 8, cells := 0, slots := 0, locals := 174 } : Room) E Z [.ref (E.2.1 97), .int a1] K := by
  refine z_bodyi (cc := cX12_send) (nL := 6) (ret := .int) (by decide) rfl (Nat.le_of_ble_eq_true rfl) ?_
  intro p e R s m args below meth c ls hfr hlo hF hr hlk hG hl
  have hx := hF.1.1
  have hb := hF.1.2.1
  have hown := hF.1.2.2.2.1
  have hts := hF.1.2.2.2.2
  have in12 : ∀ w ∈ u_ws RX12 TX12 22, w ∈ wsX12_send := fun _ h => List.mem_cons_of_mem _ (List.mem_append_right _ h)
  have hl : lv_has ls 6 [(0, .ref (E.2.1 97)), (1, .int a1)] := hl
  have S28 : ∀ (L28 : Int32 → Int32 → Int32 → zS → Prop), (∀ (x2 : Int32) (x3 : Int32) (x4 : Int32) (Z : zS) (H : Heap) (locs : List Loc) (ls : Array Slot), zG E Z s H locs → lv_has ls 6 [(0, .ref (E.2.1 97)), (1, .int a1), (2, .int x2), (3, .int x3), (4, .int x4)] → L28 x2 x3 x4 Z → W p l e R s m args below meth c H locs 0 0 (zQi E K below args s) (F0 m 28 ls [])) → ∀ (x2 : Int32) (x3 : Int32) (x4 : Int32) (Z : zS) (H : Heap) (locs : List Loc) (ls : Array Slot), zG E Z s H locs → lv_has ls 6 [(0, .ref (E.2.1 97)), (1, .int a1), (2, .int x2), (3, .int x3), (4, .int x4)] → wX12_send_28b L28 a1 x2 x3 x4 Z K → W p l e R s m args below meth c H locs 0 0 (zQi E K below args s) (F0 m 28 ls []) := by
    intro L28 ih28
    have J81 : ∀ (x2 : Int32) (x3 : Int32) (x4 : Int32) (Z : zS) (H : Heap) (locs : List Loc) (ls : Array Slot), zG E Z s H locs → lv_has ls 6 [(0, .ref (E.2.1 97)), (1, .int a1), (2, .int x2), (3, .int x3), (4, .int x4)] → wX12_send_81 L28 a1 x2 x3 x4 Z K → W p l e R s m args below meth c H locs 0 0 (zQi E K below args s) (F0 m 81 ls []) := by
      intro x2 x3 x4 Z H locs ls hG hl hw
      unfold wX12_send_81 at hw
      obtain ⟨y16, ey16⟩ : ∃ y : Int32, y = x4 + 1 := ⟨_, rfl⟩
      replace hw := hw y16 ey16
      refine lv_iinc (v := y16) (lv' := [(4, .int y16), (0, .ref (E.2.1 97)), (1, .int a1), (2, .int x2), (3, .int x3)]) hx hb dX12_send_81 hl (k := 4) rfl (by rw [ey16]; rfl) (by decide) rfl (fun ls hl => ?_)
      refine lv_goto (tgt := 28) hx hb dX12_send_84 (by decide) ?_
      exact ih28 x2 x3 y16 Z _ _ _ hG (lv_sub hl [1, 2, 3, 4, 0] rfl) hw
    have J75 : ∀ (x4 : Int32) (x5 : Int32) (Z : zS) (H : Heap) (locs : List Loc) (ls : Array Slot), zG E Z s H locs → lv_has ls 6 [(0, .ref (E.2.1 97)), (1, .int a1), (4, .int x4), (5, .int x5)] → wX12_send_75 L28 a1 x4 x5 Z K → W p l e R s m args below meth c H locs 0 0 (zQi E K below args s) (F0 m 75 ls []) := by
      intro x4 x5 Z H locs ls hG hl hw
      unfold wX12_send_75 at hw
      refine lv_iload hx hb dX12_send_75 (lv_at hl 2 rfl) ?_
      refine lv_istore_n (lv' := [(2, .int x4), (0, .ref (E.2.1 97)), (1, .int a1), (4, .int x4), (5, .int x5)]) hx hb dX12_send_77 rfl hl (by decide) rfl (fun ls hl => ?_)
      refine lv_iload hx hb dX12_send_78 (lv_at hl 4 rfl) ?_
      refine lv_istore_n (lv' := [(3, .int x5), (2, .int x4), (0, .ref (E.2.1 97)), (1, .int a1), (4, .int x4), (5, .int x5)]) hx hb dX12_send_80 rfl hl (by decide) rfl (fun ls hl => ?_)
      exact J81 x4 x5 x4 Z _ _ _ hG (lv_sub hl [2, 3, 1, 0, 4] rfl) hw
    intro x2 x3 x4 Z H locs ls hG hl hw
    unfold wX12_send_28b at hw
    refine lv_iload hx hb dX12_send_28 (lv_at hl 4 rfl) ?_
    refine lv_aload_n hx hb dX12_send_30 rfl (lv_at hl 0 rfl) ?_
    refine z_get hF hG 97 (by decide) z_md rfl in12 1 (by decide) (List.mem_of_getElem? (i := 2) rfl) rfl rfl dX12_send_31 ?_
    refine lv_icmp_ge (tgt := 87) hx hb dX12_send_34 (by decide) (fun c8 => ?_) (fun c8 => ?_)
    · replace hw := hw.1 c8
      refine lv_iload_n hx hb dX12_send_87 rfl (lv_at hl 2 rfl) ?_
      exact z_iret hF hG hr hlk hw dX12_send_88
    replace hw := hw.2 c8
    refine lv_aload_n hx hb dX12_send_37 rfl (lv_at hl 0 rfl) ?_
    refine lv_iload hx hb dX12_send_38 (lv_at hl 4 rfl) ?_
    refine lv_iload_n hx hb dX12_send_40 rfl (lv_at hl 1 rfl) ?_
    refine lv_iconst (v := 0) hx hb dX12_send_41 (by decide) ?_
    refine z_ci (va_runV (rest := []) hF.1 (kX12_others l E Z x4 a1 0  hw _) (cwV 3 hts gX12_send_X12_others rfl rfl rfl ⟨rfl, hS_yX12_others⟩ ⟨Nat.le_trans (Nat.le_of_ble_eq_true rfl) hfr, Nat.le_trans (Nat.le_of_ble_eq_true rfl) hlo⟩) (z_preV hF hG 97 (by decide) z_md rfl) rfl rfl hl.1 rfl (lv_room (Nat.le_of_ble_eq_true rfl)) dX12_send_42 ⟨Nat.zero_le _, Nat.zero_le _⟩) hG (fun r10 Z9 H locs hw hG => ?_)
    refine lv_istore (lv' := [(5, .int r10), (0, .ref (E.2.1 97)), (1, .int a1), (2, .int x2), (3, .int x3), (4, .int x4)]) hx hb dX12_send_45 hl (by decide) rfl (fun ls hl => ?_)
    refine lv_iload hx hb dX12_send_47 (lv_at hl 0 rfl) ?_
    refine lv_aload_n hx hb dX12_send_49 rfl (lv_at hl 1 rfl) ?_
    refine lv_iload hx hb dX12_send_50 (lv_at hl 5 rfl) ?_
    refine lv_iload_n hx hb dX12_send_52 rfl (lv_at hl 2 rfl) ?_
    refine lv_iconst (v := 1) hx hb dX12_send_53 (by decide) ?_
    refine z_ci (va_runV (rest := [.int r10]) hF.1 (kX12_others l E Z9 x4 a1 1  hw _) (cwV 3 hts gX12_send_X12_others rfl rfl rfl ⟨rfl, hS_yX12_others⟩ ⟨Nat.le_trans (Nat.le_of_ble_eq_true rfl) hfr, Nat.le_trans (Nat.le_of_ble_eq_true rfl) hlo⟩) (z_preV hF hG 97 (by decide) z_md rfl) rfl rfl hl.1 rfl (lv_room (Nat.le_of_ble_eq_true rfl)) dX12_send_54 ⟨Nat.zero_le _, Nat.zero_le _⟩) hG (fun r12 Z11 H locs hw hG => ?_)
    refine lv_icmp_ge (tgt := 81) hx hb dX12_send_57 (by decide) (fun c13 => ?_) (fun c13 => ?_)
    · replace hw := hw.1 c13
      exact J81 x2 x3 x4 Z11 _ _ _ hG (lv_sub hl [1, 2, 3, 4, 5] rfl) hw
    replace hw := hw.2 c13
    refine lv_iload_n hx hb dX12_send_60 rfl (lv_at hl 3 rfl) ?_
    refine lv_bipush (v := (-4)) hx hb dX12_send_61 (by decide) ?_
    refine lv_icmp_eq (tgt := 75) hx hb dX12_send_63 (by decide) (fun c14 => ?_) (fun c14 => ?_)
    · replace hw := hw.1 c14
      exact J75 x4 r10 Z11 _ _ _ hG (lv_sub hl [1, 2, 5, 0] rfl) hw
    replace hw := hw.2 c14
    refine lv_iload hx hb dX12_send_66 (lv_at hl 0 rfl) ?_
    refine lv_iload_n hx hb dX12_send_68 rfl (lv_at hl 4 rfl) ?_
    refine lv_icmp_lt (tgt := 75) hx hb dX12_send_69 (by decide) (fun c15 => ?_) (fun c15 => ?_)
    · replace hw := hw.1 c15
      exact J75 x4 r10 Z11 _ _ _ hG (lv_sub hl [1, 2, 5, 0] rfl) hw
    replace hw := hw.2 c15
    refine lv_goto (tgt := 81) hx hb dX12_send_72 (by decide) ?_
    exact J81 x2 x3 x4 Z11 _ _ _ hG (lv_sub hl [1, 2, 3, 4, 5] rfl) hw
  have J28 : ∀ n : Nat, ∀ (x2 : Int32) (x3 : Int32) (x4 : Int32) (Z : zS) (H : Heap) (locs : List Loc) (ls : Array Slot), zG E Z s H locs → lv_has ls 6 [(0, .ref (E.2.1 97)), (1, .int a1), (2, .int x2), (3, .int x3), (4, .int x4)] → wX12_send_28 a1 K n x2 x3 x4 Z → W p l e R s m args below meth c H locs 0 0 (zQi E K below args s) (F0 m 28 ls []) := by
    intro n
    induction n with
    | zero => intro x2 x3 x4 Z H locs ls hG hl hw; exact hw.elim
    | succ n ih => intro x2 x3 x4 Z H locs ls hG hl hw; exact S28 _ ih x2 x3 x4 Z H locs ls hG hl hw
  unfold wX12_send at hw
  refine lv_iload_n hx hb dX12_send_0 rfl (lv_at hl 1 rfl) ?_
  refine lv_iconst (v := 0) hx hb dX12_send_1 (by decide) ?_
  refine lv_bipush (v := 60) hx hb dX12_send_2 (by decide) ?_
  refine z_ci (va_runS (rest := []) hF.1 (kX12_within l E Z a1 0 60  hw _) (va_cwS 3 hts gX12_send_X12_within rfl rfl rfl hS_yX12_within ⟨Nat.le_trans (Nat.le_of_ble_eq_true rfl) hfr, Nat.le_trans (Nat.le_of_ble_eq_true rfl) hlo⟩) (z_preS hF hG) rfl rfl hl.1 rfl (lv_room (Nat.le_of_ble_eq_true rfl)) dX12_send_4 ⟨Nat.zero_le _, Nat.zero_le _⟩) hG (fun r2 Z1 H locs hw hG => ?_)
  refine lv_if_ne (tgt := 12) hx hb dX12_send_7 (by decide) (fun c3 => ?_) (fun c3 => ?_)
  · replace hw := hw.1 c3
    refine lv_aload_n hx hb dX12_send_12 rfl (lv_at hl 0 rfl) ?_
    refine lv_aload_n hx hb dX12_send_13 rfl (lv_at hl 0 rfl) ?_
    refine z_get hF hG 97 (by decide) z_md rfl in12 10 (by decide) (List.mem_of_getElem? (i := 1) rfl) rfl rfl dX12_send_14 ?_
    refine z_cv (va_runV (rest := []) hF.1 (kX12_keep l E Z1 102 122 (by decide) (fun _ => z_m102) hw _) (cwV 1 hts gX12_send_X12_keep rfl rfl rfl ⟨rfl, hS_yX12_keep⟩ ⟨Nat.le_trans (Nat.le_of_ble_eq_true rfl) hfr, Nat.le_trans (Nat.le_of_ble_eq_true rfl) hlo⟩) (z_preV hF hG 97 (by decide) z_md rfl) rfl rfl hl.1 rfl (lv_room (Nat.le_of_ble_eq_true rfl)) dX12_send_17 ⟨Nat.zero_le _, Nat.zero_le _⟩) hG (fun Z4 H locs hw hG => ?_)
    refine lv_bipush (v := (-4)) hx hb dX12_send_20 (by decide) ?_
    refine lv_topi (fun y5 ey5 => ?_)
    replace hw := hw y5 ey5
    refine lv_istore_n (lv' := [(2, .int y5), (0, .ref (E.2.1 97)), (1, .int a1)]) hx hb dX12_send_22 rfl hl (by decide) rfl (fun ls hl => ?_)
    refine lv_iconst (v := 0) hx hb dX12_send_23 (by decide) ?_
    refine lv_topi (fun y6 ey6 => ?_)
    replace hw := hw y6 ey6
    refine lv_istore_n (lv' := [(3, .int y6), (2, .int y5), (0, .ref (E.2.1 97)), (1, .int a1)]) hx hb dX12_send_24 rfl hl (by decide) rfl (fun ls hl => ?_)
    refine lv_iconst (v := 0) hx hb dX12_send_25 (by decide) ?_
    refine lv_topi (fun y7 ey7 => ?_)
    replace hw := hw y7 ey7
    refine lv_istore (lv' := [(4, .int y7), (3, .int y6), (2, .int y5), (0, .ref (E.2.1 97)), (1, .int a1)]) hx hb dX12_send_26 hl (by decide) rfl (fun ls hl => ?_)
    obtain ⟨n28, hw⟩ := hw
    exact J28 n28 y5 y6 y7 Z4 _ _ _ hG (lv_sub hl [3, 4, 2, 1, 0] rfl) hw
  replace hw := hw.2 (fun h => h c3)
  refine lv_iconst (v := (-1)) hx hb dX12_send_10 (by decide) ?_
  exact z_iret hF hG hr hlk hw dX12_send_11
set_option maxHeartbeats 4000000 in
set_option maxRecDepth 100000 in
theorem kX12_load_ (l : Launch) (E : zE) (Z : zS) (a1 : Int32) {K : Int32 → zS → Prop} (hw : wX12_load_ a1 Z K) : zCi l yX12_load_ wsX12_load_ ({ frames := 6, cells := 0, slots := 0, locals := 128 } : Room) E Z [.ref (E.2.1 97), .int a1] K := by
  refine z_bodyi (cc := cX12_load_) (nL := 4) (ret := .int) (by decide) rfl (Nat.le_of_ble_eq_true rfl) ?_
  intro p e R s m args below meth c ls hfr hlo hF hr hlk hG hl
  have hx := hF.1.1
  have hb := hF.1.2.1
  have hown := hF.1.2.2.2.1
  have hts := hF.1.2.2.2.2
  have in12 : ∀ w ∈ u_ws RX12 TX12 22, w ∈ wsX12_load_ := fun _ h => List.mem_cons_of_mem _ (List.mem_append_right _ h)
  have hl : lv_has ls 4 [(0, .ref (E.2.1 97)), (1, .int a1)] := hl
  have S27 : ∀ (L27 : Int32 → Int32 → zS → Prop), (∀ (x2 : Int32) (x3 : Int32) (Z : zS) (H : Heap) (locs : List Loc) (ls : Array Slot), zG E Z s H locs → lv_has ls 4 [(0, .ref (E.2.1 97)), (1, .int a1), (2, .int x2), (3, .int x3)] → L27 x2 x3 Z → W p l e R s m args below meth c H locs 0 0 (zQi E K below args s) (F0 m 27 ls [])) → ∀ (x2 : Int32) (x3 : Int32) (Z : zS) (H : Heap) (locs : List Loc) (ls : Array Slot), zG E Z s H locs → lv_has ls 4 [(0, .ref (E.2.1 97)), (1, .int a1), (2, .int x2), (3, .int x3)] → wX12_load__27b L27 a1 x2 x3 Z K → W p l e R s m args below meth c H locs 0 0 (zQi E K below args s) (F0 m 27 ls []) := by
    intro L27 ih27
    intro x2 x3 Z H locs ls hG hl hw
    unfold wX12_load__27b at hw
    refine lv_iload_n hx hb dX12_load__27 rfl (lv_at hl 3 rfl) ?_
    refine lv_iload_n hx hb dX12_load__28 rfl (lv_at hl 1 rfl) ?_
    refine lv_icmp_ge (tgt := 51) hx hb dX12_load__29 (by decide) (fun c8 => ?_) (fun c8 => ?_)
    · replace hw := hw.1 c8
      refine lv_aload_n hx hb dX12_load__51 rfl (lv_at hl 0 rfl) ?_
      refine lv_aload_n hx hb dX12_load__52 rfl (lv_at hl 0 rfl) ?_
      refine z_get hF hG 97 (by decide) z_md rfl in12 10 (by decide) (List.mem_of_getElem? (i := 1) rfl) rfl rfl dX12_load__53 ?_
      refine z_cv (va_runV (rest := []) hF.1 (kX12_again l E Z 102 122 (by decide) (fun _ => z_m102) hw _) (cwV 1 hts gX12_load__X12_again rfl rfl rfl ⟨rfl, hS_yX12_again⟩ ⟨Nat.le_trans (Nat.le_of_ble_eq_true rfl) hfr, Nat.le_trans (Nat.le_of_ble_eq_true rfl) hlo⟩) (z_preV hF hG 97 (by decide) z_md rfl) rfl rfl hl.1 rfl (lv_room (Nat.le_of_ble_eq_true rfl)) dX12_load__56 ⟨Nat.zero_le _, Nat.zero_le _⟩) hG (fun Z9 H locs hw hG => ?_)
      refine lv_iload_n hx hb dX12_load__59 rfl (lv_at hl 2 rfl) ?_
      exact z_iret hF hG hr hlk hw dX12_load__60
    replace hw := hw.2 c8
    refine lv_aload_n hx hb dX12_load__32 rfl (lv_at hl 0 rfl) ?_
    refine z_cv (va_runV (rest := []) hF.1 (kX12_goes l E Z   hw _) (cwV 0 hts gX12_load__X12_goes rfl rfl rfl ⟨rfl, hS_yX12_goes⟩ ⟨Nat.le_trans (Nat.le_of_ble_eq_true rfl) hfr, Nat.le_trans (Nat.le_of_ble_eq_true rfl) hlo⟩) (z_preV hF hG 97 (by decide) z_md rfl) rfl rfl hl.1 rfl (lv_room (Nat.le_of_ble_eq_true rfl)) dX12_load__33 ⟨Nat.zero_le _, Nat.zero_le _⟩) hG (fun Z10 H locs hw hG => ?_)
    refine lv_iload_n hx hb dX12_load__36 rfl (lv_at hl 2 rfl) ?_
    refine lv_aload_n hx hb dX12_load__37 rfl (lv_at hl 0 rfl) ?_
    refine z_ci (va_runV (rest := [.int x2]) hF.1 (kX12_load l E Z10   hw _) (cwV 0 hts gX12_load__X12_load rfl rfl rfl ⟨rfl, hS_yX12_load⟩ ⟨Nat.le_trans (Nat.le_of_ble_eq_true rfl) hfr, Nat.le_trans (Nat.le_of_ble_eq_true rfl) hlo⟩) (z_preV hF hG 97 (by decide) z_md rfl) rfl rfl hl.1 rfl (lv_room (Nat.le_of_ble_eq_true rfl)) dX12_load__38 ⟨Nat.zero_le _, Nat.zero_le _⟩) hG (fun r12 Z11 H locs hw hG => ?_)
    refine va_mmin hx hb (hF.1.2.2.1.trans hl.1.symm) hown (hts (.methodLink RX12 76 Lib.Math.min.name) (List.mem_of_getElem? (i := 2) rfl)) (hts (.static Lib.Math.min.name) (List.mem_of_getElem? (i := 3) rfl)) (hts (.initialized "java/lang/Math") (List.mem_of_getElem? (i := 4) rfl)) (hts (.code Lib.Math.min.name Lib.Math.min.code 2 (some .int)) (List.mem_of_getElem? (i := 5) rfl)) (Nat.le_trans (Nat.le_of_ble_eq_true rfl) hfr) (Nat.le_trans (Nat.le_of_ble_eq_true rfl) hlo) (Nat.zero_le _) (Nat.zero_le _) dX12_load__41 ?_
    refine lv_topi (fun y13 ey13 => ?_)
    replace hw := hw y13 ey13
    refine lv_istore_n (lv' := [(2, .int y13), (0, .ref (E.2.1 97)), (1, .int a1), (3, .int x3)]) hx hb dX12_load__44 rfl hl (by decide) rfl (fun ls hl => ?_)
    obtain ⟨y14, ey14⟩ : ∃ y : Int32, y = x3 + 1 := ⟨_, rfl⟩
    replace hw := hw y14 ey14
    refine lv_iinc (v := y14) (lv' := [(3, .int y14), (2, .int y13), (0, .ref (E.2.1 97)), (1, .int a1)]) hx hb dX12_load__45 hl (k := 3) rfl (by rw [ey14]; rfl) (by decide) rfl (fun ls hl => ?_)
    refine lv_goto (tgt := 27) hx hb dX12_load__48 (by decide) ?_
    exact ih27 y13 y14 Z11 _ _ _ hG (lv_sub hl [2, 3, 1, 0] rfl) hw
  have J27 : ∀ n : Nat, ∀ (x2 : Int32) (x3 : Int32) (Z : zS) (H : Heap) (locs : List Loc) (ls : Array Slot), zG E Z s H locs → lv_has ls 4 [(0, .ref (E.2.1 97)), (1, .int a1), (2, .int x2), (3, .int x3)] → wX12_load__27 a1 K n x2 x3 Z → W p l e R s m args below meth c H locs 0 0 (zQi E K below args s) (F0 m 27 ls []) := by
    intro n
    induction n with
    | zero => intro x2 x3 Z H locs ls hG hl hw; exact hw.elim
    | succ n ih => intro x2 x3 Z H locs ls hG hl hw; exact S27 _ ih x2 x3 Z H locs ls hG hl hw
  unfold wX12_load_ at hw
  refine lv_iload_n hx hb dX12_load__0 rfl (lv_at hl 1 rfl) ?_
  refine lv_iconst (v := 0) hx hb dX12_load__1 (by decide) ?_
  refine lv_bipush (v := 99) hx hb dX12_load__2 (by decide) ?_
  refine z_ci (va_runS (rest := []) hF.1 (kX12_within l E Z a1 0 99  hw _) (va_cwS 3 hts gX12_load__X12_within rfl rfl rfl hS_yX12_within ⟨Nat.le_trans (Nat.le_of_ble_eq_true rfl) hfr, Nat.le_trans (Nat.le_of_ble_eq_true rfl) hlo⟩) (z_preS hF hG) rfl rfl hl.1 rfl (lv_room (Nat.le_of_ble_eq_true rfl)) dX12_load__4 ⟨Nat.zero_le _, Nat.zero_le _⟩) hG (fun r2 Z1 H locs hw hG => ?_)
  refine lv_if_ne (tgt := 12) hx hb dX12_load__7 (by decide) (fun c3 => ?_) (fun c3 => ?_)
  · replace hw := hw.1 c3
    refine lv_aload_n hx hb dX12_load__12 rfl (lv_at hl 0 rfl) ?_
    refine lv_aload_n hx hb dX12_load__13 rfl (lv_at hl 0 rfl) ?_
    refine z_get hF hG 97 (by decide) z_md rfl in12 10 (by decide) (List.mem_of_getElem? (i := 1) rfl) rfl rfl dX12_load__14 ?_
    refine z_cv (va_runV (rest := []) hF.1 (kX12_keep l E Z1 102 122 (by decide) (fun _ => z_m102) hw _) (cwV 1 hts gX12_load__X12_keep rfl rfl rfl ⟨rfl, hS_yX12_keep⟩ ⟨Nat.le_trans (Nat.le_of_ble_eq_true rfl) hfr, Nat.le_trans (Nat.le_of_ble_eq_true rfl) hlo⟩) (z_preV hF hG 97 (by decide) z_md rfl) rfl rfl hl.1 rfl (lv_room (Nat.le_of_ble_eq_true rfl)) dX12_load__17 ⟨Nat.zero_le _, Nat.zero_le _⟩) hG (fun Z4 H locs hw hG => ?_)
    refine lv_aload_n hx hb dX12_load__20 rfl (lv_at hl 0 rfl) ?_
    refine z_ci (va_runV (rest := []) hF.1 (kX12_load l E Z4   hw _) (cwV 0 hts gX12_load__X12_load rfl rfl rfl ⟨rfl, hS_yX12_load⟩ ⟨Nat.le_trans (Nat.le_of_ble_eq_true rfl) hfr, Nat.le_trans (Nat.le_of_ble_eq_true rfl) hlo⟩) (z_preV hF hG 97 (by decide) z_md rfl) rfl rfl hl.1 rfl (lv_room (Nat.le_of_ble_eq_true rfl)) dX12_load__21 ⟨Nat.zero_le _, Nat.zero_le _⟩) hG (fun r6 Z5 H locs hw hG => ?_)
    refine lv_istore_n (lv' := [(2, .int r6), (0, .ref (E.2.1 97)), (1, .int a1)]) hx hb dX12_load__24 rfl hl (by decide) rfl (fun ls hl => ?_)
    refine lv_iconst (v := 1) hx hb dX12_load__25 (by decide) ?_
    refine lv_topi (fun y7 ey7 => ?_)
    replace hw := hw y7 ey7
    refine lv_istore_n (lv' := [(3, .int y7), (2, .int r6), (0, .ref (E.2.1 97)), (1, .int a1)]) hx hb dX12_load__26 rfl hl (by decide) rfl (fun ls hl => ?_)
    obtain ⟨n27, hw⟩ := hw
    exact J27 n27 r6 y7 Z5 _ _ _ hG (lv_sub hl [2, 3, 1, 0] rfl) hw
  replace hw := hw.2 (fun h => h c3)
  refine lv_iconst (v := (-1)) hx hb dX12_load__10 (by decide) ?_
  exact z_iret hF hG hr hlk hw dX12_load__11
set_option maxHeartbeats 4000000 in
set_option maxRecDepth 100000 in
theorem kX12_isSkipped (l : Launch) (E : zE) (Z : zS) (a1 : Int32) (a2 : Int32) {K : Int32 → zS → Prop} (hw : wX12_isSkipped a1 a2 Z K) : zCi l yX12_isSkipped wsX12_isSkipped ({ frames := 0, cells := 0, slots := 0, locals := 0 } : Room) E Z [.ref (E.2.1 97), .int a1, .int a2] K := by
  refine z_bodyi (cc := cX12_isSkipped) (nL := 3) (ret := .boolean) (by decide) rfl (Nat.le_of_ble_eq_true rfl) ?_
  intro p e R s m args below meth c ls hfr hlo hF hr hlk hG hl
  have hx := hF.1.1
  have hb := hF.1.2.1
  have hown := hF.1.2.2.2.1
  have hts := hF.1.2.2.2.2
  have in12 : ∀ w ∈ u_ws RX12 TX12 22, w ∈ wsX12_isSkipped := fun _ h => List.mem_cons_of_mem _ (List.mem_append_right _ h)
  have hl : lv_has ls 3 [(0, .ref (E.2.1 97)), (1, .int a1), (2, .int a2)] := hl
  have J33 : ∀ (s0 : Int32) (s1 : Int32) (Z : zS) (H : Heap) (locs : List Loc) (ls : Array Slot), zG E Z s H locs → lv_has ls 3 [] → wX12_isSkipped_33 a1 a2 s0 s1 Z K → W p l e R s m args below meth c H locs 0 0 (zQi E K below args s) (F0 m 33 ls [.int s0, .int s1]) := by
    intro s0 s1 Z H locs ls hG hl hw
    unfold wX12_isSkipped_33 at hw
    refine lv_icmp_ne (tgt := 40) hx hb dX12_isSkipped_33 (by decide) (fun c5 => ?_) (fun c5 => ?_)
    · replace hw := hw.1 c5
      refine lv_iconst (v := 0) hx hb dX12_isSkipped_40 (by decide) ?_
      exact z_zret hF hG hr hlk (by decide) hw dX12_isSkipped_41
    replace hw := hw.2 (fun h => h c5)
    refine lv_iconst (v := 1) hx hb dX12_isSkipped_36 (by decide) ?_
    refine lv_goto (tgt := 41) hx hb dX12_isSkipped_37 (by decide) ?_
    exact z_zret hF hG hr hlk (by decide) hw dX12_isSkipped_41
  unfold wX12_isSkipped at hw
  refine lv_iload_n hx hb dX12_isSkipped_0 rfl (lv_at hl 2 rfl) ?_
  refine lv_aload_n hx hb dX12_isSkipped_1 rfl (lv_at hl 0 rfl) ?_
  refine z_get hF hG 97 (by decide) z_md rfl in12 15 (by decide) (List.mem_of_getElem? (i := 1) rfl) rfl rfl dX12_isSkipped_2 ?_
  refine lv_iload_n hx hb dX12_isSkipped_5 rfl (lv_at hl 1 rfl) ?_
  obtain ⟨q1, hw⟩ := hw
  refine z_iald hF hG 105 (by decide) z_m105 q1 dX12_isSkipped_6 ?_
  refine lv_if_ne (tgt := 15) hx hb dX12_isSkipped_7 (by decide) (fun c2 => ?_) (fun c2 => ?_)
  · replace hw := hw.1 c2
    refine lv_aload_n hx hb dX12_isSkipped_15 rfl (lv_at hl 0 rfl) ?_
    refine z_get hF hG 97 (by decide) z_md rfl in12 15 (by decide) (List.mem_of_getElem? (i := 1) rfl) rfl rfl dX12_isSkipped_16 ?_
    refine lv_iload_n hx hb dX12_isSkipped_19 rfl (lv_at hl 1 rfl) ?_
    obtain ⟨q3, hw⟩ := hw
    refine z_iald hF hG 105 (by decide) z_m105 q3 dX12_isSkipped_20 ?_
    refine lv_iconst (v := 1) hx hb dX12_isSkipped_21 (by decide) ?_
    refine lv_icmp_ne (tgt := 31) hx hb dX12_isSkipped_22 (by decide) (fun c4 => ?_) (fun c4 => ?_)
    · replace hw := hw.1 c4
      refine lv_ldc hx hb hown (hts (.constant RX12 216 (-2147483648)) (List.mem_of_getElem? (i := 2) rfl)) dX12_isSkipped_31 ?_
      exact J33 ((-2147483648)) a2 Z _ _ _ hG (lv_sub hl [] rfl) hw
    replace hw := hw.2 (fun h => h c4)
    refine lv_sipush (v := (-32768)) hx hb dX12_isSkipped_25 (by decide) ?_
    refine lv_goto (tgt := 33) hx hb dX12_isSkipped_28 (by decide) ?_
    exact J33 ((-32768)) a2 Z _ _ _ hG (lv_sub hl [] rfl) hw
  replace hw := hw.2 (fun h => h c2)
  refine lv_bipush (v := (-128)) hx hb dX12_isSkipped_10 (by decide) ?_
  refine lv_goto (tgt := 33) hx hb dX12_isSkipped_12 (by decide) ?_
  exact J33 ((-128)) a2 Z _ _ _ hG (lv_sub hl [] rfl) hw
theorem hS_yX12_isSkipped : yX12_isSkipped.cls ≠ "java/lang/invoke/MethodHandle" ∧ yX12_isSkipped.cls ≠ "java/lang/invoke/VarHandle" ∧ (parseMethodDescriptor yX12_isSkipped.desc).map (fun d => d.parameters.length) = some 2 := by decide +kernel
set_option maxHeartbeats 4000000 in
set_option maxRecDepth 100000 in
theorem kX12_isSo (l : Launch) (E : zE) (Z : zS) (a1 : Int32) {K : Int32 → zS → Prop} (hw : wX12_isSo a1 Z K) : zCi l yX12_isSo wsX12_isSo ({ frames := 6, cells := 0, slots := 0, locals := 128 } : Room) E Z [.ref (E.2.1 97), .int a1] K := by
  refine z_bodyi (cc := cX12_isSo) (nL := 5) (ret := .boolean) (by decide) rfl (Nat.le_of_ble_eq_true rfl) ?_
  intro p e R s m args below meth c ls hfr hlo hF hr hlk hG hl
  have hx := hF.1.1
  have hb := hF.1.2.1
  have hown := hF.1.2.2.2.1
  have hts := hF.1.2.2.2.2
  have in12 : ∀ w ∈ u_ws RX12 TX12 22, w ∈ wsX12_isSo := fun _ h => List.mem_cons_of_mem _ (List.mem_append_right _ h)
  have hl : lv_has ls 5 [(0, .ref (E.2.1 97)), (1, .int a1)] := hl
  have J80 : ∀ (x2 : Int32) (Z : zS) (H : Heap) (locs : List Loc) (ls : Array Slot), zG E Z s H locs → lv_has ls 5 [(0, .ref (E.2.1 97)), (2, .int x2)] → wX12_isSo_80 a1 x2 Z K → W p l e R s m args below meth c H locs 0 0 (zQi E K below args s) (F0 m 80 ls []) := by
    intro x2 Z H locs ls hG hl hw
    unfold wX12_isSo_80 at hw
    refine lv_aload_n hx hb dX12_isSo_80 rfl (lv_at hl 0 rfl) ?_
    refine lv_aload_n hx hb dX12_isSo_81 rfl (lv_at hl 0 rfl) ?_
    refine z_get hF hG 97 (by decide) z_md rfl in12 10 (by decide) (List.mem_of_getElem? (i := 4) rfl) rfl rfl dX12_isSo_82 ?_
    refine z_cv (va_runV (rest := []) hF.1 (kX12_again l E Z 102 122 (by decide) (fun _ => z_m102) hw _) (cwV 1 hts gX12_isSo_X12_again rfl rfl rfl ⟨rfl, hS_yX12_again⟩ ⟨Nat.le_trans (Nat.le_of_ble_eq_true rfl) hfr, Nat.le_trans (Nat.le_of_ble_eq_true rfl) hlo⟩) (z_preV hF hG 97 (by decide) z_md rfl) rfl rfl hl.1 rfl (lv_room (Nat.le_of_ble_eq_true rfl)) dX12_isSo_85 ⟨Nat.zero_le _, Nat.zero_le _⟩) hG (fun Z15 H locs hw hG => ?_)
    refine lv_iload_n hx hb dX12_isSo_88 rfl (lv_at hl 1 rfl) ?_
    exact z_zret hF hG hr hlk (zBo.n hw.1) hw.2 dX12_isSo_89
  have S4 : ∀ (L4 : Int32 → Int32 → zS → Prop), (∀ (x2 : Int32) (x3 : Int32) (Z : zS) (H : Heap) (locs : List Loc) (ls : Array Slot), zG E Z s H locs → lv_has ls 5 [(0, .ref (E.2.1 97)), (1, .int a1), (2, .int x2), (3, .int x3)] → L4 x2 x3 Z → W p l e R s m args below meth c H locs 0 0 (zQi E K below args s) (F0 m 4 ls [])) → ∀ (x2 : Int32) (x3 : Int32) (Z : zS) (H : Heap) (locs : List Loc) (ls : Array Slot), zG E Z s H locs → lv_has ls 5 [(0, .ref (E.2.1 97)), (1, .int a1), (2, .int x2), (3, .int x3)] → wX12_isSo_4b L4 a1 x2 x3 Z K → W p l e R s m args below meth c H locs 0 0 (zQi E K below args s) (F0 m 4 ls []) := by
    intro L4 ih4
    have J73 : ∀ (x3 : Int32) (s0 : Int32) (Z : zS) (H : Heap) (locs : List Loc) (ls : Array Slot), zG E Z s H locs → lv_has ls 5 [(0, .ref (E.2.1 97)), (1, .int a1), (3, .int x3)] → wX12_isSo_73 L4 a1 x3 s0 Z K → W p l e R s m args below meth c H locs 0 0 (zQi E K below args s) (F0 m 73 ls [.int s0]) := by
      intro x3 s0 Z H locs ls hG hl hw
      unfold wX12_isSo_73 at hw
      refine lv_istore_n (lv' := [(2, .int s0), (0, .ref (E.2.1 97)), (1, .int a1), (3, .int x3)]) hx hb dX12_isSo_73 rfl hl (by decide) rfl (fun ls hl => ?_)
      obtain ⟨y14, ey14⟩ : ∃ y : Int32, y = x3 + 1 := ⟨_, rfl⟩
      replace hw := hw y14 ey14
      refine lv_iinc (v := y14) (lv' := [(3, .int y14), (2, .int s0), (0, .ref (E.2.1 97)), (1, .int a1)]) hx hb dX12_isSo_74 hl (k := 3) rfl (by rw [ey14]; rfl) (by decide) rfl (fun ls hl => ?_)
      refine lv_goto (tgt := 4) hx hb dX12_isSo_77 (by decide) ?_
      exact ih4 s0 y14 Z _ _ _ hG (lv_sub hl [2, 3, 1, 0] rfl) hw
    have J68 : ∀ (x3 : Int32) (Z : zS) (H : Heap) (locs : List Loc) (ls : Array Slot), zG E Z s H locs → lv_has ls 5 [(0, .ref (E.2.1 97)), (1, .int a1), (3, .int x3)] → wX12_isSo_68 L4 a1 x3 Z K → W p l e R s m args below meth c H locs 0 0 (zQi E K below args s) (F0 m 68 ls []) := by
      intro x3 Z H locs ls hG hl hw
      unfold wX12_isSo_68 at hw
      refine lv_iconst (v := 1) hx hb dX12_isSo_68 (by decide) ?_
      refine lv_goto (tgt := 73) hx hb dX12_isSo_69 (by decide) ?_
      exact J73 x3 1 Z _ _ _ hG (lv_sub hl [0, 1, 2] rfl) hw
    have J65 : ∀ (x3 : Int32) (s0 : Int32) (s1 : Int32) (Z : zS) (H : Heap) (locs : List Loc) (ls : Array Slot), zG E Z s H locs → lv_has ls 5 [(0, .ref (E.2.1 97)), (1, .int a1), (3, .int x3)] → wX12_isSo_65 L4 a1 x3 s0 s1 Z K → W p l e R s m args below meth c H locs 0 0 (zQi E K below args s) (F0 m 65 ls [.int s0, .int s1]) := by
      intro x3 s0 s1 Z H locs ls hG hl hw
      unfold wX12_isSo_65 at hw
      refine lv_icmp_ne (tgt := 72) hx hb dX12_isSo_65 (by decide) (fun c13 => ?_) (fun c13 => ?_)
      · replace hw := hw.1 c13
        refine lv_iconst (v := 0) hx hb dX12_isSo_72 (by decide) ?_
        exact J73 x3 0 Z _ _ _ hG (lv_sub hl [0, 1, 2] rfl) hw
      replace hw := hw.2 (fun h => h c13)
      exact J68 x3 Z _ _ _ hG (lv_sub hl [0, 1, 2] rfl) hw
    intro x2 x3 Z H locs ls hG hl hw
    unfold wX12_isSo_4b at hw
    refine lv_iload_n hx hb dX12_isSo_4 rfl (lv_at hl 3 rfl) ?_
    refine lv_aload_n hx hb dX12_isSo_5 rfl (lv_at hl 0 rfl) ?_
    refine z_get hF hG 97 (by decide) z_md rfl in12 16 (by decide) (List.mem_of_getElem? (i := 1) rfl) rfl rfl dX12_isSo_6 ?_
    refine lv_iload_n hx hb dX12_isSo_9 rfl (lv_at hl 1 rfl) ?_
    obtain ⟨q3, hw⟩ := hw
    refine z_iald hF hG 106 (by decide) z_m106 q3 dX12_isSo_10 ?_
    refine lv_icmp_ge (tgt := 80) hx hb dX12_isSo_11 (by decide) (fun c4 => ?_) (fun c4 => ?_)
    · replace hw := hw.1 c4
      exact J80 x2 Z _ _ _ hG (lv_sub hl [0, 2] rfl) hw
    replace hw := hw.2 c4
    refine lv_iload_n hx hb dX12_isSo_14 rfl (lv_at hl 2 rfl) ?_
    refine lv_if_eq (tgt := 80) hx hb dX12_isSo_15 (by decide) (fun c5 => ?_) (fun c5 => ?_)
    · replace hw := hw.1 c5
      exact J80 x2 Z _ _ _ hG (lv_sub hl [0, 2] rfl) hw
    replace hw := hw.2 c5
    refine lv_aload_n hx hb dX12_isSo_18 rfl (lv_at hl 0 rfl) ?_
    refine z_cv (va_runV (rest := []) hF.1 (kX12_goes l E Z   hw _) (cwV 0 hts gX12_isSo_X12_goes rfl rfl rfl ⟨rfl, hS_yX12_goes⟩ ⟨Nat.le_trans (Nat.le_of_ble_eq_true rfl) hfr, Nat.le_trans (Nat.le_of_ble_eq_true rfl) hlo⟩) (z_preV hF hG 97 (by decide) z_md rfl) rfl rfl hl.1 rfl (lv_room (Nat.le_of_ble_eq_true rfl)) dX12_isSo_19 ⟨Nat.zero_le _, Nat.zero_le _⟩) hG (fun Z6 H locs hw hG => ?_)
    refine lv_aload_n hx hb dX12_isSo_22 rfl (lv_at hl 0 rfl) ?_
    refine z_get hF hG 97 (by decide) z_md rfl in12 17 (by decide) (List.mem_of_getElem? (i := 2) rfl) rfl rfl dX12_isSo_23 ?_
    refine lv_bipush (v := 100) hx hb dX12_isSo_26 (by decide) ?_
    refine lv_iload_n hx hb dX12_isSo_28 rfl (lv_at hl 1 rfl) ?_
    refine lv_imul hx hb dX12_isSo_29 ?_
    refine lv_iload_n hx hb dX12_isSo_30 rfl (lv_at hl 3 rfl) ?_
    refine lv_iadd hx hb dX12_isSo_31 ?_
    obtain ⟨q7, hw⟩ := hw
    refine z_iald hF hG 107 (by decide) z_m107 q7 dX12_isSo_32 ?_
    refine lv_topi (fun y8 ey8 => ?_)
    replace hw := hw y8 ey8
    refine lv_istore (lv' := [(4, .int y8), (0, .ref (E.2.1 97)), (1, .int a1), (2, .int x2), (3, .int x3)]) hx hb dX12_isSo_33 hl (by decide) rfl (fun ls hl => ?_)
    refine lv_aload_n hx hb dX12_isSo_35 rfl (lv_at hl 1 rfl) ?_
    refine lv_iload_n hx hb dX12_isSo_36 rfl (lv_at hl 2 rfl) ?_
    refine lv_iload hx hb dX12_isSo_37 (lv_at hl 0 rfl) ?_
    refine z_ci (va_runV (rest := []) hF.1 (kX12_isSkipped l E Z6 a1 y8  hw _) (cwV 2 hts gX12_isSo_X12_isSkipped rfl rfl rfl ⟨rfl, hS_yX12_isSkipped⟩ ⟨Nat.le_trans (Nat.le_of_ble_eq_true rfl) hfr, Nat.le_trans (Nat.le_of_ble_eq_true rfl) hlo⟩) (z_preV hF hG 97 (by decide) z_md rfl) rfl rfl hl.1 rfl (lv_room (Nat.le_of_ble_eq_true rfl)) dX12_isSo_39 ⟨Nat.zero_le _, Nat.zero_le _⟩) hG (fun r10 Z9 H locs hw hG => ?_)
    refine lv_if_ne (tgt := 68) hx hb dX12_isSo_42 (by decide) (fun c11 => ?_) (fun c11 => ?_)
    · replace hw := hw.1 c11
      exact J68 x3 Z9 _ _ _ hG (lv_sub hl [1, 2, 4] rfl) hw
    replace hw := hw.2 (fun h => h c11)
    refine lv_iload hx hb dX12_isSo_45 (lv_at hl 0 rfl) ?_
    refine lv_aload_n hx hb dX12_isSo_47 rfl (lv_at hl 1 rfl) ?_
    refine z_get hF hG 97 (by decide) z_md rfl in12 6 (by decide) (List.mem_of_getElem? (i := 3) rfl) rfl rfl dX12_isSo_48 ?_
    refine lv_bipush (v := (-4)) hx hb dX12_isSo_51 (by decide) ?_
    refine lv_icmp_ne (tgt := 61) hx hb dX12_isSo_53 (by decide) (fun c12 => ?_) (fun c12 => ?_)
    · replace hw := hw.1 c12
      refine lv_aload_n hx hb dX12_isSo_61 rfl (lv_at hl 1 rfl) ?_
      refine z_get hF hG 97 (by decide) z_md rfl in12 6 (by decide) (List.mem_of_getElem? (i := 3) rfl) rfl rfl dX12_isSo_62 ?_
      exact J65 x3 ((Z9 97 6)) y8 Z9 _ _ _ hG (lv_sub hl [1, 2, 4] rfl) hw
    replace hw := hw.2 (fun h => h c12)
    refine lv_bipush (v := 6) hx hb dX12_isSo_56 (by decide) ?_
    refine lv_goto (tgt := 65) hx hb dX12_isSo_58 (by decide) ?_
    exact J65 x3 6 y8 Z9 _ _ _ hG (lv_sub hl [1, 2, 4] rfl) hw
  have J4 : ∀ n : Nat, ∀ (x2 : Int32) (x3 : Int32) (Z : zS) (H : Heap) (locs : List Loc) (ls : Array Slot), zG E Z s H locs → lv_has ls 5 [(0, .ref (E.2.1 97)), (1, .int a1), (2, .int x2), (3, .int x3)] → wX12_isSo_4 a1 K n x2 x3 Z → W p l e R s m args below meth c H locs 0 0 (zQi E K below args s) (F0 m 4 ls []) := by
    intro n
    induction n with
    | zero => intro x2 x3 Z H locs ls hG hl hw; exact hw.elim
    | succ n ih => intro x2 x3 Z H locs ls hG hl hw; exact S4 _ ih x2 x3 Z H locs ls hG hl hw
  unfold wX12_isSo at hw
  refine lv_iconst (v := 1) hx hb dX12_isSo_0 (by decide) ?_
  refine lv_topi (fun y1 ey1 => ?_)
  replace hw := hw y1 ey1
  refine lv_istore_n (lv' := [(2, .int y1), (0, .ref (E.2.1 97)), (1, .int a1)]) hx hb dX12_isSo_1 rfl hl (by decide) rfl (fun ls hl => ?_)
  refine lv_iconst (v := 0) hx hb dX12_isSo_2 (by decide) ?_
  refine lv_topi (fun y2 ey2 => ?_)
  replace hw := hw y2 ey2
  refine lv_istore_n (lv' := [(3, .int y2), (2, .int y1), (0, .ref (E.2.1 97)), (1, .int a1)]) hx hb dX12_isSo_3 rfl hl (by decide) rfl (fun ls hl => ?_)
  obtain ⟨n4, hw⟩ := hw
  exact J4 n4 y1 y2 Z _ _ _ hG (lv_sub hl [2, 3, 1, 0] rfl) hw
theorem hS_yX12_isSo : yX12_isSo.cls ≠ "java/lang/invoke/MethodHandle" ∧ yX12_isSo.cls ≠ "java/lang/invoke/VarHandle" ∧ (parseMethodDescriptor yX12_isSo.desc).map (fun d => d.parameters.length) = some 1 := by decide +kernel
set_option maxHeartbeats 4000000 in
set_option maxRecDepth 100000 in
theorem kX12_whoRan (l : Launch) (E : zE) (Z : zS) (a1 : Int32) (a2 : Int32) (a3 : Int32) {K : Int32 → zS → Prop} (hw : wX12_whoRan a1 a2 a3 Z K) : zCi l yX12_whoRan wsX12_whoRan ({ frames := 7, cells := 0, slots := 0, locals := 152 } : Room) E Z [.ref (E.2.1 97), .int a1, .int a2, .int a3] K := by
  refine z_bodyi (cc := cX12_whoRan) (nL := 7) (ret := .int) (by decide) rfl (Nat.le_of_ble_eq_true rfl) ?_
  intro p e R s m args below meth c ls hfr hlo hF hr hlk hG hl
  have hx := hF.1.1
  have hb := hF.1.2.1
  have hown := hF.1.2.2.2.1
  have hts := hF.1.2.2.2.2
  have in12 : ∀ w ∈ u_ws RX12 TX12 22, w ∈ wsX12_whoRan := fun _ h => List.mem_cons_of_mem _ (List.mem_append_right _ h)
  have hl : lv_has ls 7 [(0, .ref (E.2.1 97)), (1, .int a1), (2, .int a2), (3, .int a3)] := hl
  have S55 : ∀ (L55 : Int32 → Int32 → zS → Prop), (∀ (x5 : Int32) (x6 : Int32) (Z : zS) (H : Heap) (locs : List Loc) (ls : Array Slot), zG E Z s H locs → lv_has ls 7 [(0, .ref (E.2.1 97)), (1, .int a1), (2, .int a2), (3, .int a3), (5, .int x5), (6, .int x6)] → L55 x5 x6 Z → W p l e R s m args below meth c H locs 0 0 (zQi E K below args s) (F0 m 55 ls [])) → ∀ (x5 : Int32) (x6 : Int32) (Z : zS) (H : Heap) (locs : List Loc) (ls : Array Slot), zG E Z s H locs → lv_has ls 7 [(0, .ref (E.2.1 97)), (1, .int a1), (2, .int a2), (3, .int a3), (5, .int x5), (6, .int x6)] → wX12_whoRan_55b L55 a1 a2 a3 x5 x6 Z K → W p l e R s m args below meth c H locs 0 0 (zQi E K below args s) (F0 m 55 ls []) := by
    intro L55 ih55
    have J107 : ∀ (x5 : Int32) (x6 : Int32) (Z : zS) (H : Heap) (locs : List Loc) (ls : Array Slot), zG E Z s H locs → lv_has ls 7 [(0, .ref (E.2.1 97)), (1, .int a1), (2, .int a2), (3, .int a3), (5, .int x5), (6, .int x6)] → wX12_whoRan_107 L55 a1 a2 a3 x5 x6 Z K → W p l e R s m args below meth c H locs 0 0 (zQi E K below args s) (F0 m 107 ls []) := by
      intro x5 x6 Z H locs ls hG hl hw
      unfold wX12_whoRan_107 at hw
      obtain ⟨y25, ey25⟩ : ∃ y : Int32, y = x6 + 1 := ⟨_, rfl⟩
      replace hw := hw y25 ey25
      refine lv_iinc (v := y25) (lv' := [(6, .int y25), (0, .ref (E.2.1 97)), (1, .int a1), (2, .int a2), (3, .int a3), (5, .int x5)]) hx hb dX12_whoRan_107 hl (k := 5) rfl (by rw [ey25]; rfl) (by decide) rfl (fun ls hl => ?_)
      refine lv_goto (tgt := 55) hx hb dX12_whoRan_110 (by decide) ?_
      exact ih55 x5 y25 Z _ _ _ hG (lv_sub hl [1, 2, 3, 4, 5, 0] rfl) hw
    have J85 : ∀ (x5 : Int32) (x6 : Int32) (s0 : Int32) (Z : zS) (H : Heap) (locs : List Loc) (ls : Array Slot), zG E Z s H locs → lv_has ls 7 [(0, .ref (E.2.1 97)), (1, .int a1), (2, .int a2), (3, .int a3), (5, .int x5), (6, .int x6)] → wX12_whoRan_85 L55 a1 a2 a3 x5 x6 s0 Z K → W p l e R s m args below meth c H locs 0 0 (zQi E K below args s) (F0 m 85 ls [.int s0, .ref (E.2.1 98)]) := by
      intro x5 x6 s0 Z H locs ls hG hl hw
      unfold wX12_whoRan_85 at hw
      refine lv_iload_n hx hb dX12_whoRan_85 rfl (lv_at hl 2 rfl) ?_
      refine lv_iadd hx hb dX12_whoRan_86 ?_
      refine lv_iload hx hb dX12_whoRan_87 (lv_at hl 5 rfl) ?_
      obtain ⟨q19, hw⟩ := hw
      refine z_iast hF hG 98 (by decide) (fun _ => z_m98) q19 dX12_whoRan_89 (fun Z20 H locs eZ20 hG => ?_)
      replace hw := hw Z20 eZ20
      refine lv_aload_n hx hb dX12_whoRan_90 rfl (lv_at hl 0 rfl) ?_
      refine lv_iload_n hx hb dX12_whoRan_91 rfl (lv_at hl 1 rfl) ?_
      refine z_ci (va_runV (rest := []) hF.1 (kX12_isSo l E Z20 a1  hw _) (cwV 1 hts gX12_whoRan_X12_isSo rfl rfl rfl ⟨rfl, hS_yX12_isSo⟩ ⟨Nat.le_trans (Nat.le_of_ble_eq_true rfl) hfr, Nat.le_trans (Nat.le_of_ble_eq_true rfl) hlo⟩) (z_preV hF hG 97 (by decide) z_md rfl) rfl rfl hl.1 rfl (lv_room (Nat.le_of_ble_eq_true rfl)) dX12_whoRan_92 ⟨Nat.zero_le _, Nat.zero_le _⟩) hG (fun r22 Z21 H locs hw hG => ?_)
      refine lv_if_eq (tgt := 107) hx hb dX12_whoRan_95 (by decide) (fun c23 => ?_) (fun c23 => ?_)
      · replace hw := hw.1 c23
        exact J107 x5 x6 Z21 _ _ _ hG (lv_sub hl [0, 1, 2, 3, 4, 5] rfl) hw
      replace hw := hw.2 c23
      refine lv_iload hx hb dX12_whoRan_98 (lv_at hl 4 rfl) ?_
      refine lv_iconst (v := 1) hx hb dX12_whoRan_100 (by decide) ?_
      refine lv_iload hx hb dX12_whoRan_101 (lv_at hl 5 rfl) ?_
      refine lv_ishl hx hb dX12_whoRan_103 ?_
      refine lv_ior hx hb dX12_whoRan_104 ?_
      refine lv_topi (fun y24 ey24 => ?_)
      replace hw := hw y24 ey24
      refine lv_istore (lv' := [(5, .int y24), (0, .ref (E.2.1 97)), (1, .int a1), (2, .int a2), (3, .int a3), (6, .int x6)]) hx hb dX12_whoRan_105 hl (by decide) rfl (fun ls hl => ?_)
      exact J107 y24 x6 Z21 _ _ _ hG (lv_sub hl [1, 2, 3, 4, 0, 5] rfl) hw
    have J68 : ∀ (x5 : Int32) (x6 : Int32) (s0 : Int32) (s1 : Int32) (Z : zS) (H : Heap) (locs : List Loc) (ls : Array Slot), zG E Z s H locs → lv_has ls 7 [(0, .ref (E.2.1 97)), (1, .int a1), (2, .int a2), (3, .int a3), (5, .int x5), (6, .int x6)] → wX12_whoRan_68 L55 a1 a2 a3 x5 x6 s0 s1 Z K → W p l e R s m args below meth c H locs 0 0 (zQi E K below args s) (F0 m 68 ls [.int s0, .int s1]) := by
      intro x5 x6 s0 s1 Z H locs ls hG hl hw
      unfold wX12_whoRan_68 at hw
      refine lv_icmp_ge (tgt := 113) hx hb dX12_whoRan_68 (by decide) (fun c17 => ?_) (fun c17 => ?_)
      · replace hw := hw.1 c17
        refine lv_iload hx hb dX12_whoRan_113 (lv_at hl 4 rfl) ?_
        exact z_iret hF hG hr hlk hw dX12_whoRan_115
      replace hw := hw.2 c17
      refine lv_aload_n hx hb dX12_whoRan_71 rfl (lv_at hl 0 rfl) ?_
      refine z_get hF hG 97 (by decide) z_md rfl in12 2 (by decide) (List.mem_of_getElem? (i := 2) rfl) rfl rfl dX12_whoRan_72 ?_
      refine lv_iload_n hx hb dX12_whoRan_75 rfl (lv_at hl 3 rfl) ?_
      refine lv_if_ne (tgt := 83) hx hb dX12_whoRan_76 (by decide) (fun c18 => ?_) (fun c18 => ?_)
      · replace hw := hw.1 c18
        refine lv_bipush (v := 6) hx hb dX12_whoRan_83 (by decide) ?_
        exact J85 x5 x6 6 Z _ _ _ hG (lv_sub hl [0, 1, 2, 3, 4, 5] rfl) hw
      replace hw := hw.2 (fun h => h c18)
      refine lv_iconst (v := 0) hx hb dX12_whoRan_79 (by decide) ?_
      refine lv_goto (tgt := 85) hx hb dX12_whoRan_80 (by decide) ?_
      exact J85 x5 x6 0 Z _ _ _ hG (lv_sub hl [0, 1, 2, 3, 4, 5] rfl) hw
    intro x5 x6 Z H locs ls hG hl hw
    unfold wX12_whoRan_55b at hw
    refine lv_iload hx hb dX12_whoRan_55 (lv_at hl 5 rfl) ?_
    refine lv_iload_n hx hb dX12_whoRan_57 rfl (lv_at hl 3 rfl) ?_
    refine lv_if_ne (tgt := 66) hx hb dX12_whoRan_58 (by decide) (fun c16 => ?_) (fun c16 => ?_)
    · replace hw := hw.1 c16
      refine lv_bipush (v := 10) hx hb dX12_whoRan_66 (by decide) ?_
      exact J68 x5 x6 10 x6 Z _ _ _ hG (lv_sub hl [0, 1, 2, 3, 4, 5] rfl) hw
    replace hw := hw.2 (fun h => h c16)
    refine lv_bipush (v := 6) hx hb dX12_whoRan_61 (by decide) ?_
    refine lv_goto (tgt := 68) hx hb dX12_whoRan_63 (by decide) ?_
    exact J68 x5 x6 6 x6 Z _ _ _ hG (lv_sub hl [0, 1, 2, 3, 4, 5] rfl) hw
  have J55 : ∀ n : Nat, ∀ (x5 : Int32) (x6 : Int32) (Z : zS) (H : Heap) (locs : List Loc) (ls : Array Slot), zG E Z s H locs → lv_has ls 7 [(0, .ref (E.2.1 97)), (1, .int a1), (2, .int a2), (3, .int a3), (5, .int x5), (6, .int x6)] → wX12_whoRan_55 a1 a2 a3 K n x5 x6 Z → W p l e R s m args below meth c H locs 0 0 (zQi E K below args s) (F0 m 55 ls []) := by
    intro n
    induction n with
    | zero => intro x5 x6 Z H locs ls hG hl hw; exact hw.elim
    | succ n ih => intro x5 x6 Z H locs ls hG hl hw; exact S55 _ ih x5 x6 Z H locs ls hG hl hw
  unfold wX12_whoRan at hw
  refine lv_iload_n hx hb dX12_whoRan_0 rfl (lv_at hl 1 rfl) ?_
  refine z_ci (va_runS (rest := []) hF.1 (kX12_isShelf l E Z a1  hw _) (va_cwS 1 hts gX12_whoRan_X12_isShelf rfl rfl rfl hS_yX12_isShelf ⟨Nat.le_trans (Nat.le_of_ble_eq_true rfl) hfr, Nat.le_trans (Nat.le_of_ble_eq_true rfl) hlo⟩) (z_preS hF hG) rfl rfl hl.1 rfl (lv_room (Nat.le_of_ble_eq_true rfl)) dX12_whoRan_1 ⟨Nat.zero_le _, Nat.zero_le _⟩) hG (fun r2 Z1 H locs hw hG => ?_)
  refine lv_if_eq (tgt := 24) hx hb dX12_whoRan_4 (by decide) (fun c3 => ?_) (fun c3 => ?_)
  · replace hw := hw.1 c3
    refine lv_iconst (v := (-1)) hx hb dX12_whoRan_24 (by decide) ?_
    exact z_iret hF hG hr hlk hw dX12_whoRan_25
  replace hw := hw.2 c3
  refine lv_aload_n hx hb dX12_whoRan_7 rfl (lv_at hl 0 rfl) ?_
  refine lv_iload_n hx hb dX12_whoRan_8 rfl (lv_at hl 2 rfl) ?_
  refine z_ci (va_runV (rest := []) hF.1 (kX12_isServer l E Z1 a2  hw _) (cwV 1 hts gX12_whoRan_X12_isServer rfl rfl rfl ⟨rfl, hS_yX12_isServer⟩ ⟨Nat.le_trans (Nat.le_of_ble_eq_true rfl) hfr, Nat.le_trans (Nat.le_of_ble_eq_true rfl) hlo⟩) (z_preV hF hG 97 (by decide) z_md rfl) rfl rfl hl.1 rfl (lv_room (Nat.le_of_ble_eq_true rfl)) dX12_whoRan_9 ⟨Nat.zero_le _, Nat.zero_le _⟩) hG (fun r5 Z4 H locs hw hG => ?_)
  refine lv_if_eq (tgt := 24) hx hb dX12_whoRan_12 (by decide) (fun c6 => ?_) (fun c6 => ?_)
  · replace hw := hw.1 c6
    refine lv_iconst (v := (-1)) hx hb dX12_whoRan_24 (by decide) ?_
    exact z_iret hF hG hr hlk hw dX12_whoRan_25
  replace hw := hw.2 c6
  refine lv_iload_n hx hb dX12_whoRan_15 rfl (lv_at hl 3 rfl) ?_
  refine lv_iconst (v := 0) hx hb dX12_whoRan_16 (by decide) ?_
  refine lv_iconst (v := 1) hx hb dX12_whoRan_17 (by decide) ?_
  refine z_ci (va_runS (rest := []) hF.1 (kX12_within l E Z4 a3 0 1  hw _) (va_cwS 3 hts gX12_whoRan_X12_within rfl rfl rfl hS_yX12_within ⟨Nat.le_trans (Nat.le_of_ble_eq_true rfl) hfr, Nat.le_trans (Nat.le_of_ble_eq_true rfl) hlo⟩) (z_preS hF hG) rfl rfl hl.1 rfl (lv_room (Nat.le_of_ble_eq_true rfl)) dX12_whoRan_18 ⟨Nat.zero_le _, Nat.zero_le _⟩) hG (fun r8 Z7 H locs hw hG => ?_)
  refine lv_if_ne (tgt := 26) hx hb dX12_whoRan_21 (by decide) (fun c9 => ?_) (fun c9 => ?_)
  · replace hw := hw.1 c9
    refine lv_aload_n hx hb dX12_whoRan_26 rfl (lv_at hl 0 rfl) ?_
    refine lv_iload_n hx hb dX12_whoRan_27 rfl (lv_at hl 1 rfl) ?_
    refine z_ci (va_runV (rest := []) hF.1 (kX12_noRow l E Z7 a1  hw _) (cwV 1 hts gX12_whoRan_X12_noRow rfl rfl rfl ⟨rfl, hS_yX12_noRow⟩ ⟨Nat.le_trans (Nat.le_of_ble_eq_true rfl) hfr, Nat.le_trans (Nat.le_of_ble_eq_true rfl) hlo⟩) (z_preV hF hG 97 (by decide) z_md rfl) rfl rfl hl.1 rfl (lv_room (Nat.le_of_ble_eq_true rfl)) dX12_whoRan_28 ⟨Nat.zero_le _, Nat.zero_le _⟩) hG (fun r11 Z10 H locs hw hG => ?_)
    refine lv_istore (lv' := [(4, .int r11), (0, .ref (E.2.1 97)), (1, .int a1), (2, .int a2), (3, .int a3)]) hx hb dX12_whoRan_31 hl (by decide) rfl (fun ls hl => ?_)
    refine lv_iload hx hb dX12_whoRan_33 (lv_at hl 0 rfl) ?_
    refine lv_if_ge (tgt := 41) hx hb dX12_whoRan_35 (by decide) (fun c12 => ?_) (fun c12 => ?_)
    · replace hw := hw.1 c12
      refine lv_aload_n hx hb dX12_whoRan_41 rfl (lv_at hl 1 rfl) ?_
      refine lv_aload_n hx hb dX12_whoRan_42 rfl (lv_at hl 1 rfl) ?_
      refine z_get hF hG 97 (by decide) z_md rfl in12 10 (by decide) (List.mem_of_getElem? (i := 1) rfl) rfl rfl dX12_whoRan_43 ?_
      refine z_cv (va_runV (rest := []) hF.1 (kX12_keep l E Z10 102 122 (by decide) (fun _ => z_m102) hw _) (cwV 1 hts gX12_whoRan_X12_keep rfl rfl rfl ⟨rfl, hS_yX12_keep⟩ ⟨Nat.le_trans (Nat.le_of_ble_eq_true rfl) hfr, Nat.le_trans (Nat.le_of_ble_eq_true rfl) hlo⟩) (z_preV hF hG 97 (by decide) z_md rfl) rfl rfl hl.1 rfl (lv_room (Nat.le_of_ble_eq_true rfl)) dX12_whoRan_46 ⟨Nat.zero_le _, Nat.zero_le _⟩) hG (fun Z13 H locs hw hG => ?_)
      refine lv_iconst (v := 0) hx hb dX12_whoRan_49 (by decide) ?_
      refine lv_topi (fun y14 ey14 => ?_)
      replace hw := hw y14 ey14
      refine lv_istore (lv' := [(5, .int y14), (4, .int r11), (0, .ref (E.2.1 97)), (1, .int a1), (2, .int a2), (3, .int a3)]) hx hb dX12_whoRan_50 hl (by decide) rfl (fun ls hl => ?_)
      refine lv_iconst (v := 0) hx hb dX12_whoRan_52 (by decide) ?_
      refine lv_topi (fun y15 ey15 => ?_)
      replace hw := hw y15 ey15
      refine lv_istore (lv' := [(6, .int y15), (5, .int y14), (4, .int r11), (0, .ref (E.2.1 97)), (1, .int a1), (2, .int a2), (3, .int a3)]) hx hb dX12_whoRan_53 hl (by decide) rfl (fun ls hl => ?_)
      obtain ⟨n55, hw⟩ := hw
      exact J55 n55 y14 y15 Z13 _ _ _ hG (lv_sub hl [3, 4, 5, 6, 1, 0] rfl) hw
    replace hw := hw.2 c12
    refine lv_iload hx hb dX12_whoRan_38 (lv_at hl 0 rfl) ?_
    exact z_iret hF hG hr hlk hw dX12_whoRan_40
  replace hw := hw.2 (fun h => h c9)
  refine lv_iconst (v := (-1)) hx hb dX12_whoRan_24 (by decide) ?_
  exact z_iret hF hG hr hlk hw dX12_whoRan_25
