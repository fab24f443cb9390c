set_option maxHeartbeats 4000000 in
set_option maxRecDepth 100000 in
theorem kX12_within (l : Launch) (E : zE) (Z : zS) (a1 : Int32) (a2 : Int32) (a3 : Int32) {K : Int32 → zS → Prop} (hw : wX12_within a1 a2 a3 Z K) : zCi l yX12_within wsX12_within ({ frames := 0, cells := 0, slots := 0, locals := 0 } : Room) E Z [.int a1, .int a2, .int a3] K := by
  refine z_bodyi (cc := cX12_within) (nL := 3) (ret := .boolean) (by decide) rfl (Nat.le_of_ble_eq_true rfl) ?_
  intro p e R s m args below meth c ls hfr hlo hF hr hlk hG hl
  have hx := hF.1.1
  have hb := hF.1.2.1
  have hown := hF.1.2.2.2.1
  have hts := hF.1.2.2.2.2
  have hl : lv_has ls 3 [(0, .int a1), (1, .int a2), (2, .int a3)] := hl
  unfold wX12_within at hw
  refine lv_iload_n hx hb dX12_within_0 rfl (lv_at hl 0 rfl) ?_
  refine lv_iload_n hx hb dX12_within_1 rfl (lv_at hl 1 rfl) ?_
  refine lv_icmp_lt (tgt := 14) hx hb dX12_within_2 (by decide) (fun c1 => ?_) (fun c1 => ?_)
  · replace hw := hw.1 c1
    refine lv_iconst (v := 0) hx hb dX12_within_14 (by decide) ?_
    exact z_zret hF hG hr hlk (by decide) hw dX12_within_15
  replace hw := hw.2 c1
  refine lv_iload_n hx hb dX12_within_5 rfl (lv_at hl 0 rfl) ?_
  refine lv_iload_n hx hb dX12_within_6 rfl (lv_at hl 2 rfl) ?_
  refine lv_icmp_gt (tgt := 14) hx hb dX12_within_7 (by decide) (fun c2 => ?_) (fun c2 => ?_)
  · replace hw := hw.1 c2
    refine lv_iconst (v := 0) hx hb dX12_within_14 (by decide) ?_
    exact z_zret hF hG hr hlk (by decide) hw dX12_within_15
  replace hw := hw.2 c2
  refine lv_iconst (v := 1) hx hb dX12_within_10 (by decide) ?_
  refine lv_goto (tgt := 15) hx hb dX12_within_11 (by decide) ?_
  exact z_zret hF hG hr hlk (by decide) hw dX12_within_15
theorem hS_yX12_within : yX12_within.cls ≠ "java/lang/invoke/MethodHandle" ∧ yX12_within.cls ≠ "java/lang/invoke/VarHandle" ∧ (parseMethodDescriptor yX12_within.desc).map (fun d => d.parameters.length) = some 3 := by decide +kernel
set_option maxHeartbeats 4000000 in
set_option maxRecDepth 100000 in
theorem kX12_isServer (l : Launch) (E : zE) (Z : zS) (a1 : Int32) {K : Int32 → zS → Prop} (hw : wX12_isServer a1 Z K) : zCi l yX12_isServer wsX12_isServer ({ frames := 1, cells := 0, slots := 0, locals := 22 } : Room) E Z [.ref (E.2.1 97), .int a1] K := by
  refine z_bodyi (cc := cX12_isServer) (nL := 2) (ret := .boolean) (by decide) rfl (Nat.le_of_ble_eq_true rfl) ?_
  intro p e R s m args below meth c ls hfr hlo hF hr hlk hG hl
  have hx := hF.1.1
  have hb := hF.1.2.1
  have hown := hF.1.2.2.2.1
  have hts := hF.1.2.2.2.2
  have in12 : ∀ w ∈ u_ws RX12 TX12 22, w ∈ wsX12_isServer := fun _ h => List.mem_cons_of_mem _ (List.mem_append_right _ h)
  have hl : lv_has ls 2 [(0, .ref (E.2.1 97)), (1, .int a1)] := hl
  unfold wX12_isServer at hw
  refine lv_iload_n hx hb dX12_isServer_0 rfl (lv_at hl 1 rfl) ?_
  refine lv_iconst (v := 0) hx hb dX12_isServer_1 (by decide) ?_
  refine lv_aload_n hx hb dX12_isServer_2 rfl (lv_at hl 0 rfl) ?_
  refine z_get hF hG 97 (by decide) z_md rfl in12 1 (by decide) (List.mem_of_getElem? (i := 1) rfl) rfl rfl dX12_isServer_3 ?_
  refine lv_iconst (v := 1) hx hb dX12_isServer_6 (by decide) ?_
  refine lv_isub hx hb dX12_isServer_7 ?_
  refine z_ci (va_runS (rest := []) hF.1 (kX12_within l E Z a1 0 (((Z 97 1) - 1))  hw _) (va_cwS 3 hts gX12_isServer_X12_within rfl rfl rfl hS_yX12_within ⟨Nat.le_trans (Nat.le_of_ble_eq_true rfl) hfr, Nat.le_trans (Nat.le_of_ble_eq_true rfl) hlo⟩) (z_preS hF hG) rfl rfl hl.1 rfl (lv_room (Nat.le_of_ble_eq_true rfl)) dX12_isServer_8 ⟨Nat.zero_le _, Nat.zero_le _⟩) hG (fun r2 Z1 H locs hw hG => ?_)
  exact z_zret hF hG hr hlk (zBo.n hw.1) hw.2 dX12_isServer_11
set_option maxHeartbeats 4000000 in
set_option maxRecDepth 100000 in
theorem kX12_isShelf (l : Launch) (E : zE) (Z : zS) (a1 : Int32) {K : Int32 → zS → Prop} (hw : wX12_isShelf a1 Z K) : zCi l yX12_isShelf wsX12_isShelf ({ frames := 1, cells := 0, slots := 0, locals := 22 } : Room) E Z [.int a1] K := by
  refine z_bodyi (cc := cX12_isShelf) (nL := 1) (ret := .boolean) (by decide) rfl (Nat.le_of_ble_eq_true rfl) ?_
  intro p e R s m args below meth c ls hfr hlo hF hr hlk hG hl
  have hx := hF.1.1
  have hb := hF.1.2.1
  have hown := hF.1.2.2.2.1
  have hts := hF.1.2.2.2.2
  have hl : lv_has ls 1 [(0, .int a1)] := hl
  unfold wX12_isShelf at hw
  refine lv_iload_n hx hb dX12_isShelf_0 rfl (lv_at hl 0 rfl) ?_
  refine lv_iconst (v := 0) hx hb dX12_isShelf_1 (by decide) ?_
  refine lv_bipush (v := 7) hx hb dX12_isShelf_2 (by decide) ?_
  refine z_ci (va_runS (rest := []) hF.1 (kX12_within l E Z a1 0 7  hw _) (va_cwS 3 hts gX12_isShelf_X12_within rfl rfl rfl hS_yX12_within ⟨Nat.le_trans (Nat.le_of_ble_eq_true rfl) hfr, Nat.le_trans (Nat.le_of_ble_eq_true rfl) hlo⟩) (z_preS hF hG) rfl rfl hl.1 rfl (lv_room (Nat.le_of_ble_eq_true rfl)) dX12_isShelf_4 ⟨Nat.zero_le _, Nat.zero_le _⟩) hG (fun r2 Z1 H locs hw hG => ?_)
  exact z_zret hF hG hr hlk (zBo.n hw.1) hw.2 dX12_isShelf_7
set_option maxHeartbeats 4000000 in
set_option maxRecDepth 100000 in
theorem kX12_noRow (l : Launch) (E : zE) (Z : zS) (a1 : Int32) {K : Int32 → zS → Prop} (hw : wX12_noRow a1 Z K) : zCi l yX12_noRow wsX12_noRow ({ frames := 0, cells := 0, slots := 0, locals := 0 } : Room) E Z [.ref (E.2.1 97), .int a1] K := by
  refine z_bodyi (cc := cX12_noRow) (nL := 2) (ret := .int) (by decide) rfl (Nat.le_of_ble_eq_true rfl) ?_
  intro p e R s m args below meth c ls hfr hlo hF hr hlk hG hl
  have hx := hF.1.1
  have hb := hF.1.2.1
  have hown := hF.1.2.2.2.1
  have hts := hF.1.2.2.2.2
  have in12 : ∀ w ∈ u_ws RX12 TX12 22, w ∈ wsX12_noRow := fun _ h => List.mem_cons_of_mem _ (List.mem_append_right _ h)
  have hl : lv_has ls 2 [(0, .ref (E.2.1 97)), (1, .int a1)] := hl
  unfold wX12_noRow at hw
  refine lv_aload_n hx hb dX12_noRow_0 rfl (lv_at hl 0 rfl) ?_
  refine z_get hF hG 97 (by decide) z_md rfl in12 14 (by decide) (List.mem_of_getElem? (i := 1) rfl) rfl rfl dX12_noRow_1 ?_
  refine lv_iload_n hx hb dX12_noRow_4 rfl (lv_at hl 1 rfl) ?_
  obtain ⟨q1, hw⟩ := hw
  refine z_iald hF hG 104 (by decide) z_m104 q1 dX12_noRow_5 ?_
  refine lv_if_ne (tgt := 14) hx hb dX12_noRow_6 (by decide) (fun c2 => ?_) (fun c2 => ?_)
  · replace hw := hw.1 c2
    refine lv_aload_n hx hb dX12_noRow_14 rfl (lv_at hl 0 rfl) ?_
    refine z_get hF hG 97 (by decide) z_md rfl in12 14 (by decide) (List.mem_of_getElem? (i := 1) rfl) rfl rfl dX12_noRow_15 ?_
    refine lv_iload_n hx hb dX12_noRow_18 rfl (lv_at hl 1 rfl) ?_
    obtain ⟨q3, hw⟩ := hw
    refine z_iald hF hG 104 (by decide) z_m104 q3 dX12_noRow_19 ?_
    refine lv_iconst (v := 2) hx hb dX12_noRow_20 (by decide) ?_
    refine lv_icmp_eq (tgt := 29) hx hb dX12_noRow_21 (by decide) (fun c4 => ?_) (fun c4 => ?_)
    · replace hw := hw.1 c4
      refine lv_iconst (v := 0) hx hb dX12_noRow_29 (by decide) ?_
      exact z_iret hF hG hr hlk hw dX12_noRow_30
    replace hw := hw.2 c4
    refine lv_bipush (v := (-12)) hx hb dX12_noRow_24 (by decide) ?_
    refine lv_goto (tgt := 30) hx hb dX12_noRow_26 (by decide) ?_
    exact z_iret hF hG hr hlk hw dX12_noRow_30
  replace hw := hw.2 (fun h => h c2)
  refine lv_bipush (v := (-11)) hx hb dX12_noRow_9 (by decide) ?_
  refine lv_goto (tgt := 30) hx hb dX12_noRow_11 (by decide) ?_
  exact z_iret hF hG hr hlk hw dX12_noRow_30
theorem hS_yX12_noRow : yX12_noRow.cls ≠ "java/lang/invoke/MethodHandle" ∧ yX12_noRow.cls ≠ "java/lang/invoke/VarHandle" ∧ (parseMethodDescriptor yX12_noRow.desc).map (fun d => d.parameters.length) = some 1 := by decide +kernel
set_option maxHeartbeats 4000000 in
set_option maxRecDepth 100000 in
theorem kX12_noBytes (l : Launch) (E : zE) (Z : zS) (a1 : Int32) {K : Int32 → zS → Prop} (hw : wX12_noBytes a1 Z K) : zCi l yX12_noBytes wsX12_noBytes ({ frames := 1, cells := 0, slots := 0, locals := 21 } : Room) E Z [.ref (E.2.1 97), .int a1] K := by
  refine z_bodyi (cc := cX12_noBytes) (nL := 2) (ret := .int) (by decide) rfl (Nat.le_of_ble_eq_true rfl) ?_
  intro p e R s m args below meth c ls hfr hlo hF hr hlk hG hl
  have hx := hF.1.1
  have hb := hF.1.2.1
  have hown := hF.1.2.2.2.1
  have hts := hF.1.2.2.2.2
  have in12 : ∀ w ∈ u_ws RX12 TX12 22, w ∈ wsX12_noBytes := fun _ h => List.mem_cons_of_mem _ (List.mem_append_right _ h)
  have hl : lv_has ls 2 [(0, .ref (E.2.1 97)), (1, .int a1)] := hl
  have J24 : ∀ (Z : zS) (H : Heap) (locs : List Loc) (ls : Array Slot), zG E Z s H locs → lv_has ls 2 [(0, .ref (E.2.1 97)), (1, .int a1)] → wX12_noBytes_24 a1 Z K → W p l e R s m args below meth c H locs 0 0 (zQi E K below args s) (F0 m 24 ls []) := by
    intro Z H locs ls hG hl hw
    unfold wX12_noBytes_24 at hw
    refine lv_aload_n hx hb dX12_noBytes_24 rfl (lv_at hl 0 rfl) ?_
    refine lv_iload_n hx hb dX12_noBytes_25 rfl (lv_at hl 1 rfl) ?_
    refine z_ci (va_runV (rest := []) hF.1 (kX12_noRow l E Z a1  hw _) (cwV 1 hts gX12_noBytes_X12_noRow rfl rfl rfl ⟨rfl, hS_yX12_noRow⟩ ⟨Nat.le_trans (Nat.le_of_ble_eq_true rfl) hfr, Nat.le_trans (Nat.le_of_ble_eq_true rfl) hlo⟩) (z_preV hF hG 97 (by decide) z_md rfl) rfl rfl hl.1 rfl (lv_room (Nat.le_of_ble_eq_true rfl)) dX12_noBytes_26 ⟨Nat.zero_le _, Nat.zero_le _⟩) hG (fun r6 Z5 H locs hw hG => ?_)
    exact z_iret hF hG hr hlk hw dX12_noBytes_29
  unfold wX12_noBytes at hw
  refine lv_aload_n hx hb dX12_noBytes_0 rfl (lv_at hl 0 rfl) ?_
  refine z_get hF hG 97 (by decide) z_md rfl in12 14 (by decide) (List.mem_of_getElem? (i := 1) rfl) rfl rfl dX12_noBytes_1 ?_
  refine lv_iload_n hx hb dX12_noBytes_4 rfl (lv_at hl 1 rfl) ?_
  obtain ⟨q1, hw⟩ := hw
  refine z_iald hF hG 104 (by decide) z_m104 q1 dX12_noBytes_5 ?_
  refine lv_iconst (v := 2) hx hb dX12_noBytes_6 (by decide) ?_
  refine lv_icmp_ne (tgt := 24) hx hb dX12_noBytes_7 (by decide) (fun c2 => ?_) (fun c2 => ?_)
  · replace hw := hw.1 c2
    exact J24  Z _ _ _ hG (lv_sub hl [0, 1] rfl) hw
  replace hw := hw.2 (fun h => h c2)
  refine lv_aload_n hx hb dX12_noBytes_10 rfl (lv_at hl 0 rfl) ?_
  refine z_get hF hG 97 (by decide) z_md rfl in12 15 (by decide) (List.mem_of_getElem? (i := 2) rfl) rfl rfl dX12_noBytes_11 ?_
  refine lv_iload_n hx hb dX12_noBytes_14 rfl (lv_at hl 1 rfl) ?_
  obtain ⟨q3, hw⟩ := hw
  refine z_iald hF hG 105 (by decide) z_m105 q3 dX12_noBytes_15 ?_
  refine lv_if_eq (tgt := 24) hx hb dX12_noBytes_16 (by decide) (fun c4 => ?_) (fun c4 => ?_)
  · replace hw := hw.1 c4
    exact J24  Z _ _ _ hG (lv_sub hl [0, 1] rfl) hw
  replace hw := hw.2 c4
  refine lv_bipush (v := (-12)) hx hb dX12_noBytes_19 (by decide) ?_
  refine lv_goto (tgt := 29) hx hb dX12_noBytes_21 (by decide) ?_
  exact z_iret hF hG hr hlk hw dX12_noBytes_29
set_option maxHeartbeats 4000000 in
set_option maxRecDepth 100000 in
theorem kX12_noSort (l : Launch) (E : zE) (Z : zS) (a1 : Int32) {K : Int32 → zS → Prop} (hw : wX12_noSort a1 Z K) : zCi l yX12_noSort wsX12_noSort ({ frames := 0, cells := 0, slots := 0, locals := 0 } : Room) E Z [.ref (E.2.1 97), .int a1] K := by
  refine z_bodyi (cc := cX12_noSort) (nL := 2) (ret := .int) (by decide) rfl (Nat.le_of_ble_eq_true rfl) ?_
  intro p e R s m args below meth c ls hfr hlo hF hr hlk hG hl
  have hx := hF.1.1
  have hb := hF.1.2.1
  have hown := hF.1.2.2.2.1
  have hts := hF.1.2.2.2.2
  have in12 : ∀ w ∈ u_ws RX12 TX12 22, w ∈ wsX12_noSort := fun _ h => List.mem_cons_of_mem _ (List.mem_append_right _ h)
  have hl : lv_has ls 2 [(0, .ref (E.2.1 97)), (1, .int a1)] := hl
  unfold wX12_noSort at hw
  refine lv_aload_n hx hb dX12_noSort_0 rfl (lv_at hl 0 rfl) ?_
  refine z_get hF hG 97 (by decide) z_md rfl in12 14 (by decide) (List.mem_of_getElem? (i := 1) rfl) rfl rfl dX12_noSort_1 ?_
  refine lv_iload_n hx hb dX12_noSort_4 rfl (lv_at hl 1 rfl) ?_
  obtain ⟨q1, hw⟩ := hw
  refine z_iald hF hG 104 (by decide) z_m104 q1 dX12_noSort_5 ?_
  refine lv_if_ne (tgt := 14) hx hb dX12_noSort_6 (by decide) (fun c2 => ?_) (fun c2 => ?_)
  · replace hw := hw.1 c2
    refine lv_aload_n hx hb dX12_noSort_14 rfl (lv_at hl 0 rfl) ?_
    refine z_get hF hG 97 (by decide) z_md rfl in12 14 (by decide) (List.mem_of_getElem? (i := 1) rfl) rfl rfl dX12_noSort_15 ?_
    refine lv_iload_n hx hb dX12_noSort_18 rfl (lv_at hl 1 rfl) ?_
    obtain ⟨q3, hw⟩ := hw
    refine z_iald hF hG 104 (by decide) z_m104 q3 dX12_noSort_19 ?_
    refine lv_iconst (v := 1) hx hb dX12_noSort_20 (by decide) ?_
    refine lv_icmp_eq (tgt := 29) hx hb dX12_noSort_21 (by decide) (fun c4 => ?_) (fun c4 => ?_)
    · replace hw := hw.1 c4
      refine lv_iconst (v := 0) hx hb dX12_noSort_29 (by decide) ?_
      exact z_iret hF hG hr hlk hw dX12_noSort_30
    replace hw := hw.2 c4
    refine lv_bipush (v := (-12)) hx hb dX12_noSort_24 (by decide) ?_
    refine lv_goto (tgt := 30) hx hb dX12_noSort_26 (by decide) ?_
    exact z_iret hF hG hr hlk hw dX12_noSort_30
  replace hw := hw.2 (fun h => h c2)
  refine lv_bipush (v := (-11)) hx hb dX12_noSort_9 (by decide) ?_
  refine lv_goto (tgt := 30) hx hb dX12_noSort_11 (by decide) ?_
  exact z_iret hF hG hr hlk hw dX12_noSort_30
set_option maxHeartbeats 4000000 in
set_option maxRecDepth 100000 in
theorem kX12_share (l : Launch) (E : zE) (Z : zS) (a1 : Int32) {K : Int32 → zS → Prop} (hw : wX12_share a1 Z K) : zCi l yX12_share wsX12_share ({ frames := 0, cells := 0, slots := 0, locals := 0 } : Room) E Z [.ref (E.2.1 97), .int a1] K := by
  refine z_bodyi (cc := cX12_share) (nL := 2) (ret := .int) (by decide) rfl (Nat.le_of_ble_eq_true rfl) ?_
  intro p e R s m args below meth c ls hfr hlo hF hr hlk hG hl
  have hx := hF.1.1
  have hb := hF.1.2.1
  have hown := hF.1.2.2.2.1
  have hts := hF.1.2.2.2.2
  have in12 : ∀ w ∈ u_ws RX12 TX12 22, w ∈ wsX12_share := fun _ h => List.mem_cons_of_mem _ (List.mem_append_right _ h)
  have hl : lv_has ls 2 [(0, .ref (E.2.1 97)), (1, .int a1)] := hl
  unfold wX12_share at hw
  refine lv_bipush (v := 60) hx hb dX12_share_0 (by decide) ?_
  refine lv_aload_n hx hb dX12_share_2 rfl (lv_at hl 0 rfl) ?_
  refine z_get hF hG 97 (by decide) z_md rfl in12 2 (by decide) (List.mem_of_getElem? (i := 1) rfl) rfl rfl dX12_share_3 ?_
  refine lv_bipush (v := 12) hx hb dX12_share_6 (by decide) ?_
  refine lv_iload_n hx hb dX12_share_8 rfl (lv_at hl 1 rfl) ?_
  refine lv_iadd hx hb dX12_share_9 ?_
  obtain ⟨q1, hw⟩ := hw
  refine z_iald hF hG 98 (by decide) z_m98 q1 dX12_share_10 ?_
  refine lv_imul hx hb dX12_share_11 ?_
  refine lv_aload_n hx hb dX12_share_12 rfl (lv_at hl 0 rfl) ?_
  refine z_get hF hG 97 (by decide) z_md rfl in12 2 (by decide) (List.mem_of_getElem? (i := 1) rfl) rfl rfl dX12_share_13 ?_
  refine lv_bipush (v := 18) hx hb dX12_share_16 (by decide) ?_
  refine lv_iload_n hx hb dX12_share_18 rfl (lv_at hl 1 rfl) ?_
  refine lv_iadd hx hb dX12_share_19 ?_
  obtain ⟨q2, hw⟩ := hw
  refine z_iald hF hG 98 (by decide) z_m98 q2 dX12_share_20 ?_
  refine lv_idiv hx hb dX12_share_21 hw.1 ?_
  replace hw := hw.2
  exact z_iret hF hG hr hlk hw dX12_share_22
theorem hS_yX12_share : yX12_share.cls ≠ "java/lang/invoke/MethodHandle" ∧ yX12_share.cls ≠ "java/lang/invoke/VarHandle" ∧ (parseMethodDescriptor yX12_share.desc).map (fun d => d.parameters.length) = some 1 := by decide +kernel
set_option maxHeartbeats 4000000 in
set_option maxRecDepth 100000 in
theorem kX12_load (l : Launch) (E : zE) (Z : zS) {K : Int32 → zS → Prop} (hw : wX12_load Z K) : zCi l yX12_load wsX12_load ({ frames := 1, cells := 0, slots := 0, locals := 21 } : Room) E Z [.ref (E.2.1 97)] K := by
  refine z_bodyi (cc := cX12_load) (nL := 3) (ret := .int) (by decide) rfl (Nat.le_of_ble_eq_true rfl) ?_
  intro p e R s m args below meth c ls hfr hlo hF hr hlk hG hl
  have hx := hF.1.1
  have hb := hF.1.2.1
  have hown := hF.1.2.2.2.1
  have hts := hF.1.2.2.2.2
  have in12 : ∀ w ∈ u_ws RX12 TX12 22, w ∈ wsX12_load := fun _ h => List.mem_cons_of_mem _ (List.mem_append_right _ h)
  have hl : lv_has ls 3 [(0, .ref (E.2.1 97))] := hl
  have S4 : ∀ (L4 : Int32 → Int32 → zS → Prop), (∀ (x1 : Int32) (x2 : Int32) (Z : zS) (H : Heap) (locs : List Loc) (ls : Array Slot), zG E Z s H locs → lv_has ls 3 [(0, .ref (E.2.1 97)), (1, .int x1), (2, .int x2)] → L4 x1 x2 Z → W p l e R s m args below meth c H locs 0 0 (zQi E K below args s) (F0 m 4 ls [])) → ∀ (x1 : Int32) (x2 : Int32) (Z : zS) (H : Heap) (locs : List Loc) (ls : Array Slot), zG E Z s H locs → lv_has ls 3 [(0, .ref (E.2.1 97)), (1, .int x1), (2, .int x2)] → wX12_load_4b L4 x1 x2 Z K → W p l e R s m args below meth c H locs 0 0 (zQi E K below args s) (F0 m 4 ls []) := by
    intro L4 ih4
    have J32 : ∀ (x1 : Int32) (x2 : Int32) (Z : zS) (H : Heap) (locs : List Loc) (ls : Array Slot), zG E Z s H locs → lv_has ls 3 [(0, .ref (E.2.1 97)), (1, .int x1), (2, .int x2)] → wX12_load_32 L4 x1 x2 Z K → W p l e R s m args below meth c H locs 0 0 (zQi E K below args s) (F0 m 32 ls []) := by
      intro x1 x2 Z H locs ls hG hl hw
      unfold wX12_load_32 at hw
      obtain ⟨y9, ey9⟩ : ∃ y : Int32, y = x2 + 1 := ⟨_, rfl⟩
      replace hw := hw y9 ey9
      refine lv_iinc (v := y9) (lv' := [(2, .int y9), (0, .ref (E.2.1 97)), (1, .int x1)]) hx hb dX12_load_32 hl (k := 2) rfl (by rw [ey9]; rfl) (by decide) rfl (fun ls hl => ?_)
      refine lv_goto (tgt := 4) hx hb dX12_load_35 (by decide) ?_
      exact ih4 x1 y9 Z _ _ _ hG (lv_sub hl [1, 2, 0] rfl) hw
    intro x1 x2 Z H locs ls hG hl hw
    unfold wX12_load_4b at hw
    refine lv_iload_n hx hb dX12_load_4 rfl (lv_at hl 2 rfl) ?_
    refine lv_aload_n hx hb dX12_load_5 rfl (lv_at hl 0 rfl) ?_
    refine z_get hF hG 97 (by decide) z_md rfl in12 1 (by decide) (List.mem_of_getElem? (i := 1) rfl) rfl rfl dX12_load_6 ?_
    refine lv_icmp_ge (tgt := 38) hx hb dX12_load_9 (by decide) (fun c3 => ?_) (fun c3 => ?_)
    · replace hw := hw.1 c3
      refine lv_iload_n hx hb dX12_load_38 rfl (lv_at hl 1 rfl) ?_
      exact z_iret hF hG hr hlk hw dX12_load_39
    replace hw := hw.2 c3
    refine lv_aload_n hx hb dX12_load_12 rfl (lv_at hl 0 rfl) ?_
    refine z_get hF hG 97 (by decide) z_md rfl in12 2 (by decide) (List.mem_of_getElem? (i := 2) rfl) rfl rfl dX12_load_13 ?_
    refine lv_bipush (v := 36) hx hb dX12_load_16 (by decide) ?_
    refine lv_iload_n hx hb dX12_load_18 rfl (lv_at hl 2 rfl) ?_
    refine lv_iadd hx hb dX12_load_19 ?_
    obtain ⟨q4, hw⟩ := hw
    refine z_iald hF hG 98 (by decide) z_m98 q4 dX12_load_20 ?_
    refine lv_if_eq (tgt := 32) hx hb dX12_load_21 (by decide) (fun c5 => ?_) (fun c5 => ?_)
    · replace hw := hw.1 c5
      exact J32 x1 x2 Z _ _ _ hG (lv_sub hl [0, 1, 2] rfl) hw
    replace hw := hw.2 c5
    refine lv_iload_n hx hb dX12_load_24 rfl (lv_at hl 1 rfl) ?_
    refine lv_aload_n hx hb dX12_load_25 rfl (lv_at hl 0 rfl) ?_
    refine lv_iload_n hx hb dX12_load_26 rfl (lv_at hl 2 rfl) ?_
    refine z_ci (va_runV (rest := [.int x1]) hF.1 (kX12_share l E Z x2  hw _) (cwV 1 hts gX12_load_X12_share rfl rfl rfl ⟨rfl, hS_yX12_share⟩ ⟨Nat.le_trans (Nat.le_of_ble_eq_true rfl) hfr, Nat.le_trans (Nat.le_of_ble_eq_true rfl) hlo⟩) (z_preV hF hG 97 (by decide) z_md rfl) rfl rfl hl.1 rfl (lv_room (Nat.le_of_ble_eq_true rfl)) dX12_load_27 ⟨Nat.zero_le _, Nat.zero_le _⟩) hG (fun r7 Z6 H locs hw hG => ?_)
    refine lv_iadd hx hb dX12_load_30 ?_
    refine lv_topi (fun y8 ey8 => ?_)
    replace hw := hw y8 ey8
    refine lv_istore_n (lv' := [(1, .int y8), (0, .ref (E.2.1 97)), (2, .int x2)]) hx hb dX12_load_31 rfl hl (by decide) rfl (fun ls hl => ?_)
    exact J32 y8 x2 Z6 _ _ _ hG (lv_sub hl [1, 0, 2] rfl) hw
  have J4 : ∀ n : Nat, ∀ (x1 : Int32) (x2 : Int32) (Z : zS) (H : Heap) (locs : List Loc) (ls : Array Slot), zG E Z s H locs → lv_has ls 3 [(0, .ref (E.2.1 97)), (1, .int x1), (2, .int x2)] → wX12_load_4 K n x1 x2 Z → W p l e R s m args below meth c H locs 0 0 (zQi E K below args s) (F0 m 4 ls []) := by
    intro n
    induction n with
    | zero => intro x1 x2 Z H locs ls hG hl hw; exact hw.elim
    | succ n ih => intro x1 x2 Z H locs ls hG hl hw; exact S4 _ ih x1 x2 Z H locs ls hG hl hw
  unfold wX12_load at hw
  refine lv_iconst (v := 0) hx hb dX12_load_0 (by decide) ?_
  refine lv_topi (fun y1 ey1 => ?_)
  replace hw := hw y1 ey1
  refine lv_istore_n (lv' := [(1, .int y1), (0, .ref (E.2.1 97))]) hx hb dX12_load_1 rfl hl (by decide) rfl (fun ls hl => ?_)
  refine lv_iconst (v := 0) hx hb dX12_load_2 (by decide) ?_
  refine lv_topi (fun y2 ey2 => ?_)
  replace hw := hw y2 ey2
  refine lv_istore_n (lv' := [(2, .int y2), (1, .int y1), (0, .ref (E.2.1 97))]) hx hb dX12_load_3 rfl hl (by decide) rfl (fun ls hl => ?_)
  obtain ⟨n4, hw⟩ := hw
  exact J4 n4 y1 y2 Z _ _ _ hG (lv_sub hl [2, 1, 0] rfl) hw
theorem hS_yX12_load : yX12_load.cls ≠ "java/lang/invoke/MethodHandle" ∧ yX12_load.cls ≠ "java/lang/invoke/VarHandle" ∧ (parseMethodDescriptor yX12_load.desc).map (fun d => d.parameters.length) = some 0 := by decide +kernel
set_option maxHeartbeats 4000000 in
set_option maxRecDepth 100000 in
theorem kX12_greedy (l : Launch) (E : zE) (Z : zS) (a1 : Int32) {K : Int32 → zS → Prop} (hw : wX12_greedy a1 Z K) : zCi l yX12_greedy wsX12_greedy ({ frames := 2, cells := 0, slots := 0, locals := 43 } : Room) E Z [.ref (E.2.1 97), .int a1] K := by
  refine z_bodyi (cc := cX12_greedy) (nL := 2) (ret := .int) (by decide) rfl (Nat.le_of_ble_eq_true rfl) ?_
  intro p e R s m args below meth c ls hfr hlo hF hr hlk hG hl
  have hx := hF.1.1
  have hb := hF.1.2.1
  have hown := hF.1.2.2.2.1
  have hts := hF.1.2.2.2.2
  have hl : lv_has ls 2 [(0, .ref (E.2.1 97)), (1, .int a1)] := hl
  unfold wX12_greedy at hw
  refine lv_bipush (v := 60) hx hb dX12_greedy_0 (by decide) ?_
  refine lv_aload_n hx hb dX12_greedy_2 rfl (lv_at hl 0 rfl) ?_
  refine z_ci (va_runV (rest := [.int 60]) hF.1 (kX12_load l E Z   hw _) (cwV 0 hts gX12_greedy_X12_load rfl rfl rfl ⟨rfl, hS_yX12_load⟩ ⟨Nat.le_trans (Nat.le_of_ble_eq_true rfl) hfr, Nat.le_trans (Nat.le_of_ble_eq_true rfl) hlo⟩) (z_preV hF hG 97 (by decide) z_md rfl) rfl rfl hl.1 rfl (lv_room (Nat.le_of_ble_eq_true rfl)) dX12_greedy_3 ⟨Nat.zero_le _, Nat.zero_le _⟩) hG (fun r2 Z1 H locs hw hG => ?_)
  refine lv_aload_n hx hb dX12_greedy_6 rfl (lv_at hl 0 rfl) ?_
  refine lv_iload_n hx hb dX12_greedy_7 rfl (lv_at hl 1 rfl) ?_
  refine z_ci (va_runV (rest := [.int r2, .int 60]) hF.1 (kX12_share l E Z1 a1  hw _) (cwV 1 hts gX12_greedy_X12_share rfl rfl rfl ⟨rfl, hS_yX12_share⟩ ⟨Nat.le_trans (Nat.le_of_ble_eq_true rfl) hfr, Nat.le_trans (Nat.le_of_ble_eq_true rfl) hlo⟩) (z_preV hF hG 97 (by decide) z_md rfl) rfl rfl hl.1 rfl (lv_room (Nat.le_of_ble_eq_true rfl)) dX12_greedy_8 ⟨Nat.zero_le _, Nat.zero_le _⟩) hG (fun r4 Z3 H locs hw hG => ?_)
  refine va_mmax hx hb (hF.1.2.2.1.trans hl.1.symm) hown (hts (.methodLink RX12 70 Lib.Math.max.name) (List.mem_of_getElem? (i := 1) rfl)) (hts (.static Lib.Math.max.name) (List.mem_of_getElem? (i := 2) rfl)) (hts (.initialized "java/lang/Math") (List.mem_of_getElem? (i := 3) rfl)) (hts (.code Lib.Math.max.name Lib.Math.max.code 2 (some .int)) (List.mem_of_getElem? (i := 4) rfl)) (Nat.le_trans (Nat.le_of_ble_eq_true rfl) hfr) (Nat.le_trans (Nat.le_of_ble_eq_true rfl) hlo) (Nat.zero_le _) (Nat.zero_le _) dX12_greedy_11 ?_
  refine va_mmin hx hb (hF.1.2.2.1.trans hl.1.symm) hown (hts (.methodLink RX12 76 Lib.Math.min.name) (List.mem_of_getElem? (i := 5) rfl)) (hts (.static Lib.Math.min.name) (List.mem_of_getElem? (i := 6) rfl)) (hts (.initialized "java/lang/Math") (List.mem_of_getElem? (i := 3) rfl)) (hts (.code Lib.Math.min.name Lib.Math.min.code 2 (some .int)) (List.mem_of_getElem? (i := 7) rfl)) (Nat.le_trans (Nat.le_of_ble_eq_true rfl) hfr) (Nat.le_trans (Nat.le_of_ble_eq_true rfl) hlo) (Nat.zero_le _) (Nat.zero_le _) dX12_greedy_14 ?_
  exact z_iret hF hG hr hlk hw dX12_greedy_17
theorem hS_yX12_greedy : yX12_greedy.cls ≠ "java/lang/invoke/MethodHandle" ∧ yX12_greedy.cls ≠ "java/lang/invoke/VarHandle" ∧ (parseMethodDescriptor yX12_greedy.desc).map (fun d => d.parameters.length) = some 1 := by decide +kernel
set_option maxHeartbeats 4000000 in
set_option maxRecDepth 100000 in
theorem kX12_pays (l : Launch) (E : zE) (Z : zS) (a1 : Int32) {K : Int32 → zS → Prop} (hw : wX12_pays a1 Z K) : zCi l yX12_pays wsX12_pays ({ frames := 3, cells := 0, slots := 0, locals := 64 } : Room) E Z [.ref (E.2.1 97), .int a1] K := by
  refine z_bodyi (cc := cX12_pays) (nL := 2) (ret := .int) (by decide) rfl (Nat.le_of_ble_eq_true rfl) ?_
  intro p e R s m args below meth c ls hfr hlo hF hr hlk hG hl
  have hx := hF.1.1
  have hb := hF.1.2.1
  have hown := hF.1.2.2.2.1
  have hts := hF.1.2.2.2.2
  have in12 : ∀ w ∈ u_ws RX12 TX12 22, w ∈ wsX12_pays := fun _ h => List.mem_cons_of_mem _ (List.mem_append_right _ h)
  have hl : lv_has ls 2 [(0, .ref (E.2.1 97)), (1, .int a1)] := hl
  unfold wX12_pays at hw
  refine lv_aload_n hx hb dX12_pays_0 rfl (lv_at hl 0 rfl) ?_
  refine z_get hF hG 97 (by decide) z_md rfl in12 2 (by decide) (List.mem_of_getElem? (i := 1) rfl) rfl rfl dX12_pays_1 ?_
  refine lv_iconst (v := 0) hx hb dX12_pays_4 (by decide) ?_
  refine lv_iload_n hx hb dX12_pays_5 rfl (lv_at hl 1 rfl) ?_
  refine lv_iadd hx hb dX12_pays_6 ?_
  obtain ⟨q1, hw⟩ := hw
  refine z_iald hF hG 98 (by decide) z_m98 q1 dX12_pays_7 ?_
  refine lv_topi (fun y2 ey2 => ?_)
  replace hw := hw y2 ey2
  by_cases c3 : y2 = 1
  · replace hw := hw.1 c3
    refine lv_tableIn (tgt := 40) (off := 32) hx hb dX12_pays_8 (by rw [c3]; decide) (by rw [c3]; decide) (by rw [c3]; decide) (by decide) ?_
    refine lv_aload_n hx hb dX12_pays_40 rfl (lv_at hl 0 rfl) ?_
    refine lv_iload_n hx hb dX12_pays_41 rfl (lv_at hl 1 rfl) ?_
    refine z_ci (va_runV (rest := []) hF.1 (kX12_greedy l E Z a1  hw _) (cwV 1 hts gX12_pays_X12_greedy rfl rfl rfl ⟨rfl, hS_yX12_greedy⟩ ⟨Nat.le_trans (Nat.le_of_ble_eq_true rfl) hfr, Nat.le_trans (Nat.le_of_ble_eq_true rfl) hlo⟩) (z_preV hF hG 97 (by decide) z_md rfl) rfl rfl hl.1 rfl (lv_room (Nat.le_of_ble_eq_true rfl)) dX12_pays_42 ⟨Nat.zero_le _, Nat.zero_le _⟩) hG (fun r5 Z4 H locs hw hG => ?_)
    exact z_iret hF hG hr hlk hw dX12_pays_45
  replace hw := hw.2 c3
  by_cases c6 : y2 = 2
  · replace hw := hw.1 c6
    refine lv_tableIn (tgt := 81) (off := 73) hx hb dX12_pays_8 (by rw [c6]; decide) (by rw [c6]; decide) (by rw [c6]; decide) (by decide) ?_
    refine lv_bipush (v := 60) hx hb dX12_pays_81 (by decide) ?_
    exact z_iret hF hG hr hlk hw dX12_pays_83
  replace hw := hw.2 c6
  by_cases c7 : y2 = 3
  · replace hw := hw.1 c7
    refine lv_tableIn (tgt := 46) (off := 38) hx hb dX12_pays_8 (by rw [c7]; decide) (by rw [c7]; decide) (by rw [c7]; decide) (by decide) ?_
    refine lv_aload_n hx hb dX12_pays_46 rfl (lv_at hl 0 rfl) ?_
    refine lv_iload_n hx hb dX12_pays_47 rfl (lv_at hl 1 rfl) ?_
    refine z_ci (va_runV (rest := []) hF.1 (kX12_share l E Z a1  hw _) (cwV 1 hts gX12_pays_X12_share rfl rfl rfl ⟨rfl, hS_yX12_share⟩ ⟨Nat.le_trans (Nat.le_of_ble_eq_true rfl) hfr, Nat.le_trans (Nat.le_of_ble_eq_true rfl) hlo⟩) (z_preV hF hG 97 (by decide) z_md rfl) rfl rfl hl.1 rfl (lv_room (Nat.le_of_ble_eq_true rfl)) dX12_pays_48 ⟨Nat.zero_le _, Nat.zero_le _⟩) hG (fun r9 Z8 H locs hw hG => ?_)
    refine lv_aload_n hx hb dX12_pays_51 rfl (lv_at hl 0 rfl) ?_
    refine lv_iload_n hx hb dX12_pays_52 rfl (lv_at hl 1 rfl) ?_
    refine z_ci (va_runV (rest := [.int r9]) hF.1 (kX12_greedy l E Z8 a1  hw _) (cwV 1 hts gX12_pays_X12_greedy rfl rfl rfl ⟨rfl, hS_yX12_greedy⟩ ⟨Nat.le_trans (Nat.le_of_ble_eq_true rfl) hfr, Nat.le_trans (Nat.le_of_ble_eq_true rfl) hlo⟩) (z_preV hF hG 97 (by decide) z_md rfl) rfl rfl hl.1 rfl (lv_room (Nat.le_of_ble_eq_true rfl)) dX12_pays_53 ⟨Nat.zero_le _, Nat.zero_le _⟩) hG (fun r11 Z10 H locs hw hG => ?_)
    refine lv_aload_n hx hb dX12_pays_56 rfl (lv_at hl 0 rfl) ?_
    refine z_get hF hG 97 (by decide) z_md rfl in12 2 (by decide) (List.mem_of_getElem? (i := 1) rfl) rfl rfl dX12_pays_57 ?_
    refine lv_bipush (v := 6) hx hb dX12_pays_60 (by decide) ?_
    refine lv_iload_n hx hb dX12_pays_62 rfl (lv_at hl 1 rfl) ?_
    refine lv_iadd hx hb dX12_pays_63 ?_
    obtain ⟨q12, hw⟩ := hw
    refine z_iald hF hG 98 (by decide) z_m98 q12 dX12_pays_64 ?_
    refine lv_isub hx hb dX12_pays_65 ?_
    refine va_mmax hx hb (hF.1.2.2.1.trans hl.1.symm) hown (hts (.methodLink RX12 70 Lib.Math.max.name) (List.mem_of_getElem? (i := 2) rfl)) (hts (.static Lib.Math.max.name) (List.mem_of_getElem? (i := 3) rfl)) (hts (.initialized "java/lang/Math") (List.mem_of_getElem? (i := 4) rfl)) (hts (.code Lib.Math.max.name Lib.Math.max.code 2 (some .int)) (List.mem_of_getElem? (i := 5) rfl)) (Nat.le_trans (Nat.le_of_ble_eq_true rfl) hfr) (Nat.le_trans (Nat.le_of_ble_eq_true rfl) hlo) (Nat.zero_le _) (Nat.zero_le _) dX12_pays_66 ?_
    exact z_iret hF hG hr hlk hw dX12_pays_69
  replace hw := hw.2 c7
  by_cases c13 : y2 = 4
  · replace hw := hw.1 c13
    refine lv_tableIn (tgt := 70) (off := 62) hx hb dX12_pays_8 (by rw [c13]; decide) (by rw [c13]; decide) (by rw [c13]; decide) (by decide) ?_
    refine lv_bipush (v := 60) hx hb dX12_pays_70 (by decide) ?_
    refine lv_aload_n hx hb dX12_pays_72 rfl (lv_at hl 0 rfl) ?_
    refine lv_iload_n hx hb dX12_pays_73 rfl (lv_at hl 1 rfl) ?_
    refine z_ci (va_runV (rest := [.int 60]) hF.1 (kX12_greedy l E Z a1  hw _) (cwV 1 hts gX12_pays_X12_greedy rfl rfl rfl ⟨rfl, hS_yX12_greedy⟩ ⟨Nat.le_trans (Nat.le_of_ble_eq_true rfl) hfr, Nat.le_trans (Nat.le_of_ble_eq_true rfl) hlo⟩) (z_preV hF hG 97 (by decide) z_md rfl) rfl rfl hl.1 rfl (lv_room (Nat.le_of_ble_eq_true rfl)) dX12_pays_74 ⟨Nat.zero_le _, Nat.zero_le _⟩) hG (fun r15 Z14 H locs hw hG => ?_)
    refine lv_iadd hx hb dX12_pays_77 ?_
    refine lv_iconst (v := 2) hx hb dX12_pays_78 (by decide) ?_
    refine lv_idiv hx hb dX12_pays_79 hw.1 ?_
    replace hw := hw.2
    exact z_iret hF hG hr hlk hw dX12_pays_80
  replace hw := hw.2 c13
  refine lv_tableOut (tgt := 81) hx hb dX12_pays_8 (by have t0 := lv_neT c3 (a := 1) (by decide); have t1 := lv_neT c6 (a := 2) (by decide); have t2 := lv_neT c7 (a := 3) (by decide); have t3 := lv_neT c13 (a := 4) (by decide); omega) (by decide) ?_
  refine lv_bipush (v := 60) hx hb dX12_pays_81 (by decide) ?_
  exact z_iret hF hG hr hlk hw dX12_pays_83
set_option maxHeartbeats 4000000 in
set_option maxRecDepth 100000 in
theorem kX12_rests (l : Launch) (E : zE) (Z : zS) (a1 : Int32) {K : Int32 → zS → Prop} (hw : wX12_rests a1 Z K) : zCi l yX12_rests wsX12_rests ({ frames := 0, cells := 0, slots := 0, locals := 0 } : Room) E Z [.ref (E.2.1 97), .int a1] K := by
  refine z_bodyi (cc := cX12_rests) (nL := 2) (ret := .boolean) (by decide) rfl (Nat.le_of_ble_eq_true rfl) ?_
  intro p e R s m args below meth c ls hfr hlo hF hr hlk hG hl
  have hx := hF.1.1
  have hb := hF.1.2.1
  have hown := hF.1.2.2.2.1
  have hts := hF.1.2.2.2.2
  have in12 : ∀ w ∈ u_ws RX12 TX12 22, w ∈ wsX12_rests := fun _ h => List.mem_cons_of_mem _ (List.mem_append_right _ h)
  have hl : lv_has ls 2 [(0, .ref (E.2.1 97)), (1, .int a1)] := hl
  have J24 : ∀ (Z : zS) (H : Heap) (locs : List Loc) (ls : Array Slot), zG E Z s H locs → lv_has ls 2 [] → wX12_rests_24 a1 Z K → W p l e R s m args below meth c H locs 0 0 (zQi E K below args s) (F0 m 24 ls []) := by
    intro Z H locs ls hG hl hw
    unfold wX12_rests_24 at hw
    refine lv_iconst (v := 1) hx hb dX12_rests_24 (by decide) ?_
    refine lv_goto (tgt := 29) hx hb dX12_rests_25 (by decide) ?_
    exact z_zret hF hG hr hlk (by decide) hw dX12_rests_29
  unfold wX12_rests at hw
  refine lv_aload_n hx hb dX12_rests_0 rfl (lv_at hl 0 rfl) ?_
  refine z_get hF hG 97 (by decide) z_md rfl in12 2 (by decide) (List.mem_of_getElem? (i := 1) rfl) rfl rfl dX12_rests_1 ?_
  refine lv_iconst (v := 0) hx hb dX12_rests_4 (by decide) ?_
  refine lv_iload_n hx hb dX12_rests_5 rfl (lv_at hl 1 rfl) ?_
  refine lv_iadd hx hb dX12_rests_6 ?_
  obtain ⟨q1, hw⟩ := hw
  refine z_iald hF hG 98 (by decide) z_m98 q1 dX12_rests_7 ?_
  refine lv_iconst (v := 2) hx hb dX12_rests_8 (by decide) ?_
  refine lv_icmp_eq (tgt := 24) hx hb dX12_rests_9 (by decide) (fun c2 => ?_) (fun c2 => ?_)
  · replace hw := hw.1 c2
    exact J24  Z _ _ _ hG (lv_sub hl [] rfl) hw
  replace hw := hw.2 c2
  refine lv_aload_n hx hb dX12_rests_12 rfl (lv_at hl 0 rfl) ?_
  refine z_get hF hG 97 (by decide) z_md rfl in12 2 (by decide) (List.mem_of_getElem? (i := 1) rfl) rfl rfl dX12_rests_13 ?_
  refine lv_iconst (v := 0) hx hb dX12_rests_16 (by decide) ?_
  refine lv_iload_n hx hb dX12_rests_17 rfl (lv_at hl 1 rfl) ?_
  refine lv_iadd hx hb dX12_rests_18 ?_
  obtain ⟨q3, hw⟩ := hw
  refine z_iald hF hG 98 (by decide) z_m98 q3 dX12_rests_19 ?_
  refine lv_iconst (v := 5) hx hb dX12_rests_20 (by decide) ?_
  refine lv_icmp_ne (tgt := 28) hx hb dX12_rests_21 (by decide) (fun c4 => ?_) (fun c4 => ?_)
  · replace hw := hw.1 c4
    refine lv_iconst (v := 0) hx hb dX12_rests_28 (by decide) ?_
    exact z_zret hF hG hr hlk (by decide) hw dX12_rests_29
  replace hw := hw.2 (fun h => h c4)
  exact J24  Z _ _ _ hG (lv_sub hl [] rfl) hw
theorem hS_yX12_rests : yX12_rests.cls ≠ "java/lang/invoke/MethodHandle" ∧ yX12_rests.cls ≠ "java/lang/invoke/VarHandle" ∧ (parseMethodDescriptor yX12_rests.desc).map (fun d => d.parameters.length) = some 1 := by decide +kernel
set_option maxHeartbeats 4000000 in
set_option maxRecDepth 100000 in
theorem kX12_refills (l : Launch) (E : zE) (Z : zS) (a1 : Int32) {K : zS → Prop} (hw : wX12_refills a1 Z K) : zCv l yX12_refills wsX12_refills ({ frames := 1, cells := 0, slots := 0, locals := 21 } : Room) E Z [.ref (E.2.1 97), .int a1] K := by
  refine z_bodyv (cc := cX12_refills) (nL := 2) (by decide) rfl (Nat.le_of_ble_eq_true rfl) ?_
  intro p e R s m args below meth c ls hfr hlo hF hr hlk hG hl
  have hx := hF.1.1
  have hb := hF.1.2.1
  have hown := hF.1.2.2.2.1
  have hts := hF.1.2.2.2.2
  have in12 : ∀ w ∈ u_ws RX12 TX12 22, w ∈ wsX12_refills := fun _ h => List.mem_cons_of_mem _ (List.mem_append_right _ h)
  have hl : lv_has ls 2 [(0, .ref (E.2.1 97)), (1, .int a1)] := hl
  have S19 : ∀ (L19 : zS → Prop), (∀ (Z : zS) (H : Heap) (locs : List Loc) (ls : Array Slot), zG E Z s H locs → lv_has ls 2 [(0, .ref (E.2.1 97)), (1, .int a1)] → L19 Z → W p l e R s m args below meth c H locs 0 0 (zQv E K below args s) (F0 m 19 ls [])) → ∀ (Z : zS) (H : Heap) (locs : List Loc) (ls : Array Slot), zG E Z s H locs → lv_has ls 2 [(0, .ref (E.2.1 97)), (1, .int a1)] → wX12_refills_19b L19 a1 Z K → W p l e R s m args below meth c H locs 0 0 (zQv E K below args s) (F0 m 19 ls []) := by
    intro L19 ih19
    intro Z H locs ls hG hl hw
    unfold wX12_refills_19b at hw
    refine lv_aload_n hx hb dX12_refills_19 rfl (lv_at hl 0 rfl) ?_
    refine z_get hF hG 97 (by decide) z_md rfl in12 2 (by decide) (List.mem_of_getElem? (i := 1) rfl) rfl rfl dX12_refills_20 ?_
    refine lv_bipush (v := 24) hx hb dX12_refills_23 (by decide) ?_
    refine lv_iload_n hx hb dX12_refills_25 rfl (lv_at hl 1 rfl) ?_
    refine lv_iadd hx hb dX12_refills_26 ?_
    obtain ⟨q6, hw⟩ := hw
    refine z_iald hF hG 98 (by decide) z_m98 q6 dX12_refills_27 ?_
    refine lv_if_gt (tgt := 79) hx hb dX12_refills_28 (by decide) (fun c7 => ?_) (fun c7 => ?_)
    · replace hw := hw.1 c7
      exact z_vret hF hG hr hlk hw dX12_refills_79
    replace hw := hw.2 c7
    refine lv_aload_n hx hb dX12_refills_31 rfl (lv_at hl 0 rfl) ?_
    refine z_get hF hG 97 (by decide) z_md rfl in12 2 (by decide) (List.mem_of_getElem? (i := 1) rfl) rfl rfl dX12_refills_32 ?_
    refine lv_bipush (v := 24) hx hb dX12_refills_35 (by decide) ?_
    refine lv_iload_n hx hb dX12_refills_37 rfl (lv_at hl 1 rfl) ?_
    refine lv_iadd hx hb dX12_refills_38 ?_
    refine lv_dup2_11 hx hb dX12_refills_39 rfl rfl ?_
    obtain ⟨q8, hw⟩ := hw
    refine z_iald hF hG 98 (by decide) z_m98 q8 dX12_refills_40 ?_
    refine lv_bipush (v := 60) hx hb dX12_refills_41 (by decide) ?_
    refine lv_aload_n hx hb dX12_refills_43 rfl (lv_at hl 0 rfl) ?_
    refine z_get hF hG 97 (by decide) z_md rfl in12 2 (by decide) (List.mem_of_getElem? (i := 1) rfl) rfl rfl dX12_refills_44 ?_
    refine lv_bipush (v := 12) hx hb dX12_refills_47 (by decide) ?_
    refine lv_iload_n hx hb dX12_refills_49 rfl (lv_at hl 1 rfl) ?_
    refine lv_iadd hx hb dX12_refills_50 ?_
    obtain ⟨q9, hw⟩ := hw
    refine z_iald hF hG 98 (by decide) z_m98 q9 dX12_refills_51 ?_
    refine lv_imul hx hb dX12_refills_52 ?_
    refine lv_iadd hx hb dX12_refills_53 ?_
    obtain ⟨q10, hw⟩ := hw
    refine z_iast hF hG 98 (by decide) (fun _ => z_m98) q10 dX12_refills_54 (fun Z11 H locs eZ11 hG => ?_)
    replace hw := hw Z11 eZ11
    refine lv_aload_n hx hb dX12_refills_55 rfl (lv_at hl 0 rfl) ?_
    refine z_get hF hG 97 (by decide) z_md rfl in12 2 (by decide) (List.mem_of_getElem? (i := 1) rfl) rfl rfl dX12_refills_56 ?_
    refine lv_bipush (v := 30) hx hb dX12_refills_59 (by decide) ?_
    refine lv_iload_n hx hb dX12_refills_61 rfl (lv_at hl 1 rfl) ?_
    refine lv_iadd hx hb dX12_refills_62 ?_
    refine lv_dup2_11 hx hb dX12_refills_63 rfl rfl ?_
    obtain ⟨q12, hw⟩ := hw
    refine z_iald hF hG 98 (by decide) z_m98 q12 dX12_refills_64 ?_
    refine lv_aload_n hx hb dX12_refills_65 rfl (lv_at hl 0 rfl) ?_
    refine z_get hF hG 97 (by decide) z_md rfl in12 2 (by decide) (List.mem_of_getElem? (i := 1) rfl) rfl rfl dX12_refills_66 ?_
    refine lv_bipush (v := 18) hx hb dX12_refills_69 (by decide) ?_
    refine lv_iload_n hx hb dX12_refills_71 rfl (lv_at hl 1 rfl) ?_
    refine lv_iadd hx hb dX12_refills_72 ?_
    obtain ⟨q13, hw⟩ := hw
    refine z_iald hF hG 98 (by decide) z_m98 q13 dX12_refills_73 ?_
    refine lv_iadd hx hb dX12_refills_74 ?_
    obtain ⟨q14, hw⟩ := hw
    refine z_iast hF hG 98 (by decide) (fun _ => z_m98) q14 dX12_refills_75 (fun Z15 H locs eZ15 hG => ?_)
    replace hw := hw Z15 eZ15
    refine lv_goto (tgt := 19) hx hb dX12_refills_76 (by decide) ?_
    exact ih19  Z15 _ _ _ hG (lv_sub hl [0, 1] rfl) hw
  have J19 : ∀ n : Nat, ∀ (Z : zS) (H : Heap) (locs : List Loc) (ls : Array Slot), zG E Z s H locs → lv_has ls 2 [(0, .ref (E.2.1 97)), (1, .int a1)] → wX12_refills_19 a1 K n Z → W p l e R s m args below meth c H locs 0 0 (zQv E K below args s) (F0 m 19 ls []) := by
    intro n
    induction n with
    | zero => intro Z H locs ls hG hl hw; exact hw.elim
    | succ n ih => intro Z H locs ls hG hl hw; exact S19 _ ih Z H locs ls hG hl hw
  unfold wX12_refills at hw
  refine lv_aload_n hx hb dX12_refills_0 rfl (lv_at hl 0 rfl) ?_
  refine lv_iload_n hx hb dX12_refills_1 rfl (lv_at hl 1 rfl) ?_
  refine z_ci (va_runV (rest := []) hF.1 (kX12_rests l E Z a1  hw _) (cwV 1 hts gX12_refills_X12_rests rfl rfl rfl ⟨rfl, hS_yX12_rests⟩ ⟨Nat.le_trans (Nat.le_of_ble_eq_true rfl) hfr, Nat.le_trans (Nat.le_of_ble_eq_true rfl) hlo⟩) (z_preV hF hG 97 (by decide) z_md rfl) rfl rfl hl.1 rfl (lv_room (Nat.le_of_ble_eq_true rfl)) dX12_refills_2 ⟨Nat.zero_le _, Nat.zero_le _⟩) hG (fun r2 Z1 H locs hw hG => ?_)
  refine lv_if_eq (tgt := 19) hx hb dX12_refills_5 (by decide) (fun c3 => ?_) (fun c3 => ?_)
  · replace hw := hw.1 c3
    obtain ⟨n19, hw⟩ := hw
    exact J19 n19  Z1 _ _ _ hG (lv_sub hl [0, 1] rfl) hw
  replace hw := hw.2 c3
  refine lv_aload_n hx hb dX12_refills_8 rfl (lv_at hl 0 rfl) ?_
  refine z_get hF hG 97 (by decide) z_md rfl in12 2 (by decide) (List.mem_of_getElem? (i := 1) rfl) rfl rfl dX12_refills_9 ?_
  refine lv_bipush (v := 36) hx hb dX12_refills_12 (by decide) ?_
  refine lv_iload_n hx hb dX12_refills_14 rfl (lv_at hl 1 rfl) ?_
  refine lv_iadd hx hb dX12_refills_15 ?_
  refine lv_iconst (v := 2) hx hb dX12_refills_16 (by decide) ?_
  obtain ⟨q4, hw⟩ := hw
  refine z_iast hF hG 98 (by decide) (fun _ => z_m98) q4 dX12_refills_17 (fun Z5 H locs eZ5 hG => ?_)
  replace hw := hw Z5 eZ5
  exact z_vret hF hG hr hlk hw dX12_refills_18
set_option maxHeartbeats 4000000 in
set_option maxRecDepth 100000 in
theorem kX12_wakes (l : Launch) (E : zE) (Z : zS) (a1 : Int32) {K : zS → Prop} (hw : wX12_wakes a1 Z K) : zCv l yX12_wakes wsX12_wakes ({ frames := 0, cells := 0, slots := 0, locals := 0 } : Room) E Z [.ref (E.2.1 97), .int a1] K := by
  refine z_bodyv (cc := cX12_wakes) (nL := 2) (by decide) rfl (Nat.le_of_ble_eq_true rfl) ?_
  intro p e R s m args below meth c ls hfr hlo hF hr hlk hG hl
  have hx := hF.1.1
  have hb := hF.1.2.1
  have hown := hF.1.2.2.2.1
  have hts := hF.1.2.2.2.2
  have in12 : ∀ w ∈ u_ws RX12 TX12 22, w ∈ wsX12_wakes := fun _ h => List.mem_cons_of_mem _ (List.mem_append_right _ h)
  have hl : lv_has ls 2 [(0, .ref (E.2.1 97)), (1, .int a1)] := hl
  have J55 : ∀ (s0 : Int32) (s1 : Int32) (s2 : Int32) (Z : zS) (H : Heap) (locs : List Loc) (ls : Array Slot), zG E Z s H locs → lv_has ls 2 [(0, .ref (E.2.1 97)), (1, .int a1)] → wX12_wakes_55 a1 s0 s1 s2 Z K → W p l e R s m args below meth c H locs 0 0 (zQv E K below args s) (F0 m 55 ls [.int s0, .int s1, .int s2, .ref (E.2.1 98)]) := by
    intro s0 s1 s2 Z H locs ls hG hl hw
    unfold wX12_wakes_55 at hw
    refine lv_iadd hx hb dX12_wakes_55 ?_
    obtain ⟨q7, hw⟩ := hw
    refine z_iast hF hG 98 (by decide) (fun _ => z_m98) q7 dX12_wakes_56 (fun Z8 H locs eZ8 hG => ?_)
    replace hw := hw Z8 eZ8
    refine lv_aload_n hx hb dX12_wakes_57 rfl (lv_at hl 0 rfl) ?_
    refine z_get hF hG 97 (by decide) z_md rfl in12 2 (by decide) (List.mem_of_getElem? (i := 1) rfl) rfl rfl dX12_wakes_58 ?_
    refine lv_bipush (v := 30) hx hb dX12_wakes_61 (by decide) ?_
    refine lv_iload_n hx hb dX12_wakes_63 rfl (lv_at hl 1 rfl) ?_
    refine lv_iadd hx hb dX12_wakes_64 ?_
    refine lv_dup2_11 hx hb dX12_wakes_65 rfl rfl ?_
    obtain ⟨q9, hw⟩ := hw
    refine z_iald hF hG 98 (by decide) z_m98 q9 dX12_wakes_66 ?_
    refine lv_aload_n hx hb dX12_wakes_67 rfl (lv_at hl 0 rfl) ?_
    refine z_get hF hG 97 (by decide) z_md rfl in12 2 (by decide) (List.mem_of_getElem? (i := 1) rfl) rfl rfl dX12_wakes_68 ?_
    refine lv_bipush (v := 18) hx hb dX12_wakes_71 (by decide) ?_
    refine lv_iload_n hx hb dX12_wakes_73 rfl (lv_at hl 1 rfl) ?_
    refine lv_iadd hx hb dX12_wakes_74 ?_
    obtain ⟨q10, hw⟩ := hw
    refine z_iald hF hG 98 (by decide) z_m98 q10 dX12_wakes_75 ?_
    refine lv_iadd hx hb dX12_wakes_76 ?_
    obtain ⟨q11, hw⟩ := hw
    refine z_iast hF hG 98 (by decide) (fun _ => z_m98) q11 dX12_wakes_77 (fun Z12 H locs eZ12 hG => ?_)
    replace hw := hw Z12 eZ12
    exact z_vret hF hG hr hlk hw dX12_wakes_78
  unfold wX12_wakes at hw
  refine lv_aload_n hx hb dX12_wakes_0 rfl (lv_at hl 0 rfl) ?_
  refine z_get hF hG 97 (by decide) z_md rfl in12 2 (by decide) (List.mem_of_getElem? (i := 1) rfl) rfl rfl dX12_wakes_1 ?_
  refine lv_bipush (v := 36) hx hb dX12_wakes_4 (by decide) ?_
  refine lv_iload_n hx hb dX12_wakes_6 rfl (lv_at hl 1 rfl) ?_
  refine lv_iadd hx hb dX12_wakes_7 ?_
  refine lv_iconst (v := 1) hx hb dX12_wakes_8 (by decide) ?_
  obtain ⟨q1, hw⟩ := hw
  refine z_iast hF hG 98 (by decide) (fun _ => z_m98) q1 dX12_wakes_9 (fun Z2 H locs eZ2 hG => ?_)
  replace hw := hw Z2 eZ2
  refine lv_aload_n hx hb dX12_wakes_10 rfl (lv_at hl 0 rfl) ?_
  refine z_get hF hG 97 (by decide) z_md rfl in12 2 (by decide) (List.mem_of_getElem? (i := 1) rfl) rfl rfl dX12_wakes_11 ?_
  refine lv_bipush (v := 24) hx hb dX12_wakes_14 (by decide) ?_
  refine lv_iload_n hx hb dX12_wakes_16 rfl (lv_at hl 1 rfl) ?_
  refine lv_iadd hx hb dX12_wakes_17 ?_
  refine lv_bipush (v := 60) hx hb dX12_wakes_18 (by decide) ?_
  refine lv_aload_n hx hb dX12_wakes_20 rfl (lv_at hl 0 rfl) ?_
  refine z_get hF hG 97 (by decide) z_md rfl in12 2 (by decide) (List.mem_of_getElem? (i := 1) rfl) rfl rfl dX12_wakes_21 ?_
  refine lv_bipush (v := 12) hx hb dX12_wakes_24 (by decide) ?_
  refine lv_iload_n hx hb dX12_wakes_26 rfl (lv_at hl 1 rfl) ?_
  refine lv_iadd hx hb dX12_wakes_27 ?_
  obtain ⟨q3, hw⟩ := hw
  refine z_iald hF hG 98 (by decide) z_m98 q3 dX12_wakes_28 ?_
  refine lv_imul hx hb dX12_wakes_29 ?_
  refine lv_aload_n hx hb dX12_wakes_30 rfl (lv_at hl 0 rfl) ?_
  refine z_get hF hG 97 (by decide) z_md rfl in12 2 (by decide) (List.mem_of_getElem? (i := 1) rfl) rfl rfl dX12_wakes_31 ?_
  refine lv_iconst (v := 0) hx hb dX12_wakes_34 (by decide) ?_
  refine lv_iload_n hx hb dX12_wakes_35 rfl (lv_at hl 1 rfl) ?_
  refine lv_iadd hx hb dX12_wakes_36 ?_
  obtain ⟨q4, hw⟩ := hw
  refine z_iald hF hG 98 (by decide) z_m98 q4 dX12_wakes_37 ?_
  refine lv_iconst (v := 5) hx hb dX12_wakes_38 (by decide) ?_
  refine lv_icmp_ne (tgt := 54) hx hb dX12_wakes_39 (by decide) (fun c5 => ?_) (fun c5 => ?_)
  · replace hw := hw.1 c5
    refine lv_iconst (v := 0) hx hb dX12_wakes_54 (by decide) ?_
    exact J55 0 ((60 * (Z2 98 ((12 + a1) : Int32).toNatClampNeg))) ((24 + a1)) Z2 _ _ _ hG (lv_sub hl [0, 1] rfl) hw
  replace hw := hw.2 (fun h => h c5)
  refine lv_aload_n hx hb dX12_wakes_42 rfl (lv_at hl 0 rfl) ?_
  refine z_get hF hG 97 (by decide) z_md rfl in12 2 (by decide) (List.mem_of_getElem? (i := 1) rfl) rfl rfl dX12_wakes_43 ?_
  refine lv_bipush (v := 24) hx hb dX12_wakes_46 (by decide) ?_
  refine lv_iload_n hx hb dX12_wakes_48 rfl (lv_at hl 1 rfl) ?_
  refine lv_iadd hx hb dX12_wakes_49 ?_
  obtain ⟨q6, hw⟩ := hw
  refine z_iald hF hG 98 (by decide) z_m98 q6 dX12_wakes_50 ?_
  refine lv_goto (tgt := 55) hx hb dX12_wakes_51 (by decide) ?_
  exact J55 ((Z2 98 ((24 + a1) : Int32).toNatClampNeg)) ((60 * (Z2 98 ((12 + a1) : Int32).toNatClampNeg))) ((24 + a1)) Z2 _ _ _ hG (lv_sub hl [0, 1] rfl) hw
set_option maxHeartbeats 4000000 in
set_option maxRecDepth 100000 in
theorem kX12_ahead (l : Launch) (E : zE) (Z : zS) (a1 : Int32) {K : Int32 → zS → Prop} (hw : wX12_ahead a1 Z K) : zCi l yX12_ahead wsX12_ahead ({ frames := 0, cells := 0, slots := 0, locals := 0 } : Room) E Z [.ref (E.2.1 97), .int a1] K := by
  refine z_bodyi (cc := cX12_ahead) (nL := 2) (ret := .int) (by decide) rfl (Nat.le_of_ble_eq_true rfl) ?_
  intro p e R s m args below meth c ls hfr hlo hF hr hlk hG hl
  have hx := hF.1.1
  have hb := hF.1.2.1
  have hown := hF.1.2.2.2.1
  have hts := hF.1.2.2.2.2
  have in12 : ∀ w ∈ u_ws RX12 TX12 22, w ∈ wsX12_ahead := fun _ h => List.mem_cons_of_mem _ (List.mem_append_right _ h)
  have hl : lv_has ls 2 [(0, .ref (E.2.1 97)), (1, .int a1)] := hl
  unfold wX12_ahead at hw
  refine lv_bipush (v := 60) hx hb dX12_ahead_0 (by decide) ?_
  refine lv_aload_n hx hb dX12_ahead_2 rfl (lv_at hl 0 rfl) ?_
  refine z_get hF hG 97 (by decide) z_md rfl in12 2 (by decide) (List.mem_of_getElem? (i := 1) rfl) rfl rfl dX12_ahead_3 ?_
  refine lv_bipush (v := 12) hx hb dX12_ahead_6 (by decide) ?_
  refine lv_iload_n hx hb dX12_ahead_8 rfl (lv_at hl 1 rfl) ?_
  refine lv_iadd hx hb dX12_ahead_9 ?_
  obtain ⟨q1, hw⟩ := hw
  refine z_iald hF hG 98 (by decide) z_m98 q1 dX12_ahead_10 ?_
  refine lv_imul hx hb dX12_ahead_11 ?_
  refine lv_aload_n hx hb dX12_ahead_12 rfl (lv_at hl 0 rfl) ?_
  refine z_get hF hG 97 (by decide) z_md rfl in12 2 (by decide) (List.mem_of_getElem? (i := 1) rfl) rfl rfl dX12_ahead_13 ?_
  refine lv_bipush (v := 30) hx hb dX12_ahead_16 (by decide) ?_
  refine lv_iload_n hx hb dX12_ahead_18 rfl (lv_at hl 1 rfl) ?_
  refine lv_iadd hx hb dX12_ahead_19 ?_
  obtain ⟨q2, hw⟩ := hw
  refine z_iald hF hG 98 (by decide) z_m98 q2 dX12_ahead_20 ?_
  refine lv_aload_n hx hb dX12_ahead_21 rfl (lv_at hl 0 rfl) ?_
  refine z_get hF hG 97 (by decide) z_md rfl in12 0 (by decide) (List.mem_of_getElem? (i := 2) rfl) rfl rfl dX12_ahead_22 ?_
  refine lv_isub hx hb dX12_ahead_25 ?_
  refine lv_imul hx hb dX12_ahead_26 ?_
  refine lv_aload_n hx hb dX12_ahead_27 rfl (lv_at hl 0 rfl) ?_
  refine z_get hF hG 97 (by decide) z_md rfl in12 2 (by decide) (List.mem_of_getElem? (i := 1) rfl) rfl rfl dX12_ahead_28 ?_
  refine lv_bipush (v := 24) hx hb dX12_ahead_31 (by decide) ?_
  refine lv_iload_n hx hb dX12_ahead_33 rfl (lv_at hl 1 rfl) ?_
  refine lv_iadd hx hb dX12_ahead_34 ?_
  obtain ⟨q3, hw⟩ := hw
  refine z_iald hF hG 98 (by decide) z_m98 q3 dX12_ahead_35 ?_
  refine lv_aload_n hx hb dX12_ahead_36 rfl (lv_at hl 0 rfl) ?_
  refine z_get hF hG 97 (by decide) z_md rfl in12 2 (by decide) (List.mem_of_getElem? (i := 1) rfl) rfl rfl dX12_ahead_37 ?_
  refine lv_bipush (v := 18) hx hb dX12_ahead_40 (by decide) ?_
  refine lv_iload_n hx hb dX12_ahead_42 rfl (lv_at hl 1 rfl) ?_
  refine lv_iadd hx hb dX12_ahead_43 ?_
  obtain ⟨q4, hw⟩ := hw
  refine z_iald hF hG 98 (by decide) z_m98 q4 dX12_ahead_44 ?_
  refine lv_imul hx hb dX12_ahead_45 ?_
  refine lv_isub hx hb dX12_ahead_46 ?_
  exact z_iret hF hG hr hlk hw dX12_ahead_47
theorem hS_yX12_ahead : yX12_ahead.cls ≠ "java/lang/invoke/MethodHandle" ∧ yX12_ahead.cls ≠ "java/lang/invoke/VarHandle" ∧ (parseMethodDescriptor yX12_ahead.desc).map (fun d => d.parameters.length) = some 1 := by decide +kernel
set_option maxHeartbeats 4000000 in
set_option maxRecDepth 100000 in
theorem kX12_jobComes (l : Launch) (E : zE) (Z : zS) (a1 : Int32) (a2 : Int32) (a3 : Int32) {K : zS → Prop} (hw : wX12_jobComes a1 a2 a3 Z K) : zCv l yX12_jobComes wsX12_jobComes ({ frames := 1, cells := 0, slots := 0, locals := 21 } : Room) E Z [.ref (E.2.1 97), .int a1, .int a2, .int a3] K := by
  refine z_bodyv (cc := cX12_jobComes) (nL := 6) (by decide) rfl (Nat.le_of_ble_eq_true rfl) ?_
  intro p e R s m args below meth c ls hfr hlo hF hr hlk hG hl
  have hx := hF.1.1
  have hb := hF.1.2.1
  have hown := hF.1.2.2.2.1
  have hts := hF.1.2.2.2.2
  have in12 : ∀ w ∈ u_ws RX12 TX12 22, w ∈ wsX12_jobComes := fun _ h => List.mem_cons_of_mem _ (List.mem_append_right _ h)
  have hl : lv_has ls 6 [(0, .ref (E.2.1 97)), (1, .int a1), (2, .int a2), (3, .int a3)] := hl
  have J151 : ∀ (Z : zS) (H : Heap) (locs : List Loc) (ls : Array Slot), zG E Z s H locs → lv_has ls 6 [(0, .ref (E.2.1 97)), (1, .int a1)] → wX12_jobComes_151 a1 a2 a3 Z K → W p l e R s m args below meth c H locs 0 0 (zQv E K below args s) (F0 m 151 ls []) := by
    intro Z H locs ls hG hl hw
    unfold wX12_jobComes_151 at hw
    refine lv_aload_n hx hb dX12_jobComes_151 rfl (lv_at hl 0 rfl) ?_
    refine z_get hF hG 97 (by decide) z_md rfl in12 2 (by decide) (List.mem_of_getElem? (i := 1) rfl) rfl rfl dX12_jobComes_152 ?_
    refine lv_bipush (v := 60) hx hb dX12_jobComes_155 (by decide) ?_
    refine lv_iload_n hx hb dX12_jobComes_157 rfl (lv_at hl 1 rfl) ?_
    refine lv_iadd hx hb dX12_jobComes_158 ?_
    refine lv_aload_n hx hb dX12_jobComes_159 rfl (lv_at hl 0 rfl) ?_
    refine z_get hF hG 97 (by decide) z_md rfl in12 2 (by decide) (List.mem_of_getElem? (i := 1) rfl) rfl rfl dX12_jobComes_160 ?_
    refine lv_bipush (v := 30) hx hb dX12_jobComes_163 (by decide) ?_
    refine lv_iload_n hx hb dX12_jobComes_165 rfl (lv_at hl 1 rfl) ?_
    refine lv_iadd hx hb dX12_jobComes_166 ?_
    obtain ⟨q21, hw⟩ := hw
    refine z_iald hF hG 98 (by decide) z_m98 q21 dX12_jobComes_167 ?_
    obtain ⟨q22, hw⟩ := hw
    refine z_iast hF hG 98 (by decide) (fun _ => z_m98) q22 dX12_jobComes_168 (fun Z23 H locs eZ23 hG => ?_)
    replace hw := hw Z23 eZ23
    refine lv_aload_n hx hb dX12_jobComes_169 rfl (lv_at hl 0 rfl) ?_
    refine z_get hF hG 97 (by decide) z_md rfl in12 2 (by decide) (List.mem_of_getElem? (i := 1) rfl) rfl rfl dX12_jobComes_170 ?_
    refine lv_bipush (v := 66) hx hb dX12_jobComes_173 (by decide) ?_
    refine lv_iload_n hx hb dX12_jobComes_175 rfl (lv_at hl 1 rfl) ?_
    refine lv_iadd hx hb dX12_jobComes_176 ?_
    refine lv_iconst (v := 0) hx hb dX12_jobComes_177 (by decide) ?_
    obtain ⟨q24, hw⟩ := hw
    refine z_iast hF hG 98 (by decide) (fun _ => z_m98) q24 dX12_jobComes_178 (fun Z25 H locs eZ25 hG => ?_)
    replace hw := hw Z25 eZ25
    exact z_vret hF hG hr hlk hw dX12_jobComes_179
  have J107 : ∀ (Z : zS) (H : Heap) (locs : List Loc) (ls : Array Slot), zG E Z s H locs → lv_has ls 6 [(0, .ref (E.2.1 97)), (1, .int a1)] → wX12_jobComes_107 a1 a2 a3 Z K → W p l e R s m args below meth c H locs 0 0 (zQv E K below args s) (F0 m 107 ls []) := by
    intro Z H locs ls hG hl hw
    unfold wX12_jobComes_107 at hw
    refine lv_aload_n hx hb dX12_jobComes_107 rfl (lv_at hl 0 rfl) ?_
    refine z_get hF hG 97 (by decide) z_md rfl in12 2 (by decide) (List.mem_of_getElem? (i := 1) rfl) rfl rfl dX12_jobComes_108 ?_
    refine lv_bipush (v := 24) hx hb dX12_jobComes_111 (by decide) ?_
    refine lv_iload_n hx hb dX12_jobComes_113 rfl (lv_at hl 1 rfl) ?_
    refine lv_iadd hx hb dX12_jobComes_114 ?_
    refine lv_bipush (v := 60) hx hb dX12_jobComes_115 (by decide) ?_
    refine lv_aload_n hx hb dX12_jobComes_117 rfl (lv_at hl 0 rfl) ?_
    refine z_get hF hG 97 (by decide) z_md rfl in12 2 (by decide) (List.mem_of_getElem? (i := 1) rfl) rfl rfl dX12_jobComes_118 ?_
    refine lv_bipush (v := 12) hx hb dX12_jobComes_121 (by decide) ?_
    refine lv_iload_n hx hb dX12_jobComes_123 rfl (lv_at hl 1 rfl) ?_
    refine lv_iadd hx hb dX12_jobComes_124 ?_
    obtain ⟨q26, hw⟩ := hw
    refine z_iald hF hG 98 (by decide) z_m98 q26 dX12_jobComes_125 ?_
    refine lv_imul hx hb dX12_jobComes_126 ?_
    obtain ⟨q27, hw⟩ := hw
    refine z_iast hF hG 98 (by decide) (fun _ => z_m98) q27 dX12_jobComes_127 (fun Z28 H locs eZ28 hG => ?_)
    replace hw := hw Z28 eZ28
    refine lv_aload_n hx hb dX12_jobComes_128 rfl (lv_at hl 0 rfl) ?_
    refine z_get hF hG 97 (by decide) z_md rfl in12 2 (by decide) (List.mem_of_getElem? (i := 1) rfl) rfl rfl dX12_jobComes_129 ?_
    refine lv_bipush (v := 30) hx hb dX12_jobComes_132 (by decide) ?_
    refine lv_iload_n hx hb dX12_jobComes_134 rfl (lv_at hl 1 rfl) ?_
    refine lv_iadd hx hb dX12_jobComes_135 ?_
    refine lv_aload_n hx hb dX12_jobComes_136 rfl (lv_at hl 0 rfl) ?_
    refine z_get hF hG 97 (by decide) z_md rfl in12 0 (by decide) (List.mem_of_getElem? (i := 4) rfl) rfl rfl dX12_jobComes_137 ?_
    refine lv_aload_n hx hb dX12_jobComes_140 rfl (lv_at hl 0 rfl) ?_
    refine z_get hF hG 97 (by decide) z_md rfl in12 2 (by decide) (List.mem_of_getElem? (i := 1) rfl) rfl rfl dX12_jobComes_141 ?_
    refine lv_bipush (v := 18) hx hb dX12_jobComes_144 (by decide) ?_
    refine lv_iload_n hx hb dX12_jobComes_146 rfl (lv_at hl 1 rfl) ?_
    refine lv_iadd hx hb dX12_jobComes_147 ?_
    obtain ⟨q29, hw⟩ := hw
    refine z_iald hF hG 98 (by decide) z_m98 q29 dX12_jobComes_148 ?_
    refine lv_iadd hx hb dX12_jobComes_149 ?_
    obtain ⟨q30, hw⟩ := hw
    refine z_iast hF hG 98 (by decide) (fun _ => z_m98) q30 dX12_jobComes_150 (fun Z31 H locs eZ31 hG => ?_)
    replace hw := hw Z31 eZ31
    exact J151  Z31 _ _ _ hG (lv_sub hl [0, 1] rfl) hw
  unfold wX12_jobComes at hw
  refine lv_aload_n hx hb dX12_jobComes_0 rfl (lv_at hl 0 rfl) ?_
  refine z_get hF hG 97 (by decide) z_md rfl in12 2 (by decide) (List.mem_of_getElem? (i := 1) rfl) rfl rfl dX12_jobComes_1 ?_
  refine lv_bipush (v := 42) hx hb dX12_jobComes_4 (by decide) ?_
  refine lv_iload_n hx hb dX12_jobComes_6 rfl (lv_at hl 1 rfl) ?_
  refine lv_iadd hx hb dX12_jobComes_7 ?_
  obtain ⟨q1, hw⟩ := hw
  refine z_iald hF hG 98 (by decide) z_m98 q1 dX12_jobComes_8 ?_
  refine lv_topi (fun y2 ey2 => ?_)
  replace hw := hw y2 ey2
  refine lv_istore (lv' := [(4, .int y2), (0, .ref (E.2.1 97)), (1, .int a1), (2, .int a2), (3, .int a3)]) hx hb dX12_jobComes_9 hl (by decide) rfl (fun ls hl => ?_)
  refine lv_aload_n hx hb dX12_jobComes_11 rfl (lv_at hl 1 rfl) ?_
  refine z_get hF hG 97 (by decide) z_md rfl in12 3 (by decide) (List.mem_of_getElem? (i := 2) rfl) rfl rfl dX12_jobComes_12 ?_
  refine lv_iconst (v := 4) hx hb dX12_jobComes_15 (by decide) ?_
  refine lv_iload_n hx hb dX12_jobComes_16 rfl (lv_at hl 2 rfl) ?_
  refine lv_imul hx hb dX12_jobComes_17 ?_
  refine lv_iload hx hb dX12_jobComes_18 (lv_at hl 0 rfl) ?_
  refine lv_iadd hx hb dX12_jobComes_20 ?_
  refine lv_iload_n hx hb dX12_jobComes_21 rfl (lv_at hl 3 rfl) ?_
  obtain ⟨q3, hw⟩ := hw
  refine z_iast hF hG 99 (by decide) (fun _ => z_m99) q3 dX12_jobComes_22 (fun Z4 H locs eZ4 hG => ?_)
  replace hw := hw Z4 eZ4
  refine lv_aload_n hx hb dX12_jobComes_23 rfl (lv_at hl 1 rfl) ?_
  refine z_get hF hG 97 (by decide) z_md rfl in12 4 (by decide) (List.mem_of_getElem? (i := 3) rfl) rfl rfl dX12_jobComes_24 ?_
  refine lv_iconst (v := 4) hx hb dX12_jobComes_27 (by decide) ?_
  refine lv_iload_n hx hb dX12_jobComes_28 rfl (lv_at hl 2 rfl) ?_
  refine lv_imul hx hb dX12_jobComes_29 ?_
  refine lv_iload hx hb dX12_jobComes_30 (lv_at hl 0 rfl) ?_
  refine lv_iadd hx hb dX12_jobComes_32 ?_
  refine lv_iload_n hx hb dX12_jobComes_33 rfl (lv_at hl 4 rfl) ?_
  obtain ⟨q5, hw⟩ := hw
  refine z_iast hF hG 100 (by decide) (fun _ => z_m100) q5 dX12_jobComes_34 (fun Z6 H locs eZ6 hG => ?_)
  replace hw := hw Z6 eZ6
  refine lv_aload_n hx hb dX12_jobComes_35 rfl (lv_at hl 1 rfl) ?_
  refine z_get hF hG 97 (by decide) z_md rfl in12 2 (by decide) (List.mem_of_getElem? (i := 1) rfl) rfl rfl dX12_jobComes_36 ?_
  refine lv_bipush (v := 42) hx hb dX12_jobComes_39 (by decide) ?_
  refine lv_iload_n hx hb dX12_jobComes_41 rfl (lv_at hl 2 rfl) ?_
  refine lv_iadd hx hb dX12_jobComes_42 ?_
  refine lv_iload hx hb dX12_jobComes_43 (lv_at hl 0 rfl) ?_
  refine lv_iconst (v := 1) hx hb dX12_jobComes_45 (by decide) ?_
  refine lv_iadd hx hb dX12_jobComes_46 ?_
  obtain ⟨q7, hw⟩ := hw
  refine z_iast hF hG 98 (by decide) (fun _ => z_m98) q7 dX12_jobComes_47 (fun Z8 H locs eZ8 hG => ?_)
  replace hw := hw Z8 eZ8
  refine lv_aload_n hx hb dX12_jobComes_48 rfl (lv_at hl 1 rfl) ?_
  refine z_get hF hG 97 (by decide) z_md rfl in12 2 (by decide) (List.mem_of_getElem? (i := 1) rfl) rfl rfl dX12_jobComes_49 ?_
  refine lv_bipush (v := 36) hx hb dX12_jobComes_52 (by decide) ?_
  refine lv_iload_n hx hb dX12_jobComes_54 rfl (lv_at hl 2 rfl) ?_
  refine lv_iadd hx hb dX12_jobComes_55 ?_
  obtain ⟨q9, hw⟩ := hw
  refine z_iald hF hG 98 (by decide) z_m98 q9 dX12_jobComes_56 ?_
  refine lv_topi (fun y10 ey10 => ?_)
  replace hw := hw y10 ey10
  refine lv_istore (lv' := [(5, .int y10), (4, .int y2), (0, .ref (E.2.1 97)), (1, .int a1), (2, .int a2), (3, .int a3)]) hx hb dX12_jobComes_57 hl (by decide) rfl (fun ls hl => ?_)
  refine lv_iload hx hb dX12_jobComes_59 (lv_at hl 0 rfl) ?_
  refine lv_iconst (v := 1) hx hb dX12_jobComes_61 (by decide) ?_
  refine lv_icmp_eq (tgt := 71) hx hb dX12_jobComes_62 (by decide) (fun c11 => ?_) (fun c11 => ?_)
  · replace hw := hw.1 c11
    exact z_vret hF hG hr hlk hw dX12_jobComes_71
  replace hw := hw.2 c11
  refine lv_iload hx hb dX12_jobComes_65 (lv_at hl 0 rfl) ?_
  refine lv_iconst (v := 2) hx hb dX12_jobComes_67 (by decide) ?_
  refine lv_icmp_ne (tgt := 72) hx hb dX12_jobComes_68 (by decide) (fun c12 => ?_) (fun c12 => ?_)
  · replace hw := hw.1 c12
    refine lv_aload_n hx hb dX12_jobComes_72 rfl (lv_at hl 2 rfl) ?_
    refine z_get hF hG 97 (by decide) z_md rfl in12 2 (by decide) (List.mem_of_getElem? (i := 1) rfl) rfl rfl dX12_jobComes_73 ?_
    refine lv_bipush (v := 36) hx hb dX12_jobComes_76 (by decide) ?_
    refine lv_iload_n hx hb dX12_jobComes_78 rfl (lv_at hl 3 rfl) ?_
    refine lv_iadd hx hb dX12_jobComes_79 ?_
    refine lv_iconst (v := 1) hx hb dX12_jobComes_80 (by decide) ?_
    obtain ⟨q13, hw⟩ := hw
    refine z_iast hF hG 98 (by decide) (fun _ => z_m98) q13 dX12_jobComes_81 (fun Z14 H locs eZ14 hG => ?_)
    replace hw := hw Z14 eZ14
    refine lv_iload hx hb dX12_jobComes_82 (lv_at hl 0 rfl) ?_
    refine lv_if_eq (tgt := 107) hx hb dX12_jobComes_84 (by decide) (fun c15 => ?_) (fun c15 => ?_)
    · replace hw := hw.1 c15
      exact J107  Z14 _ _ _ hG (lv_sub hl [2, 3] rfl) hw
    replace hw := hw.2 c15
    refine lv_aload_n hx hb dX12_jobComes_87 rfl (lv_at hl 2 rfl) ?_
    refine z_get hF hG 97 (by decide) z_md rfl in12 2 (by decide) (List.mem_of_getElem? (i := 1) rfl) rfl rfl dX12_jobComes_88 ?_
    refine lv_bipush (v := 24) hx hb dX12_jobComes_91 (by decide) ?_
    refine lv_iload_n hx hb dX12_jobComes_93 rfl (lv_at hl 3 rfl) ?_
    refine lv_iadd hx hb dX12_jobComes_94 ?_
    obtain ⟨q16, hw⟩ := hw
    refine z_iald hF hG 98 (by decide) z_m98 q16 dX12_jobComes_95 ?_
    refine lv_if_le (tgt := 107) hx hb dX12_jobComes_96 (by decide) (fun c17 => ?_) (fun c17 => ?_)
    · replace hw := hw.1 c17
      exact J107  Z14 _ _ _ hG (lv_sub hl [2, 3] rfl) hw
    replace hw := hw.2 c17
    refine lv_aload_n hx hb dX12_jobComes_99 rfl (lv_at hl 2 rfl) ?_
    refine lv_iload_n hx hb dX12_jobComes_100 rfl (lv_at hl 3 rfl) ?_
    refine z_ci (va_runV (rest := []) hF.1 (kX12_ahead l E Z14 a1  hw _) (cwV 1 hts gX12_jobComes_X12_ahead rfl rfl rfl ⟨rfl, hS_yX12_ahead⟩ ⟨Nat.le_trans (Nat.le_of_ble_eq_true rfl) hfr, Nat.le_trans (Nat.le_of_ble_eq_true rfl) hlo⟩) (z_preV hF hG 97 (by decide) z_md rfl) rfl rfl hl.1 rfl (lv_room (Nat.le_of_ble_eq_true rfl)) dX12_jobComes_101 ⟨Nat.zero_le _, Nat.zero_le _⟩) hG (fun r19 Z18 H locs hw hG => ?_)
    refine lv_if_gt (tgt := 151) hx hb dX12_jobComes_104 (by decide) (fun c20 => ?_) (fun c20 => ?_)
    · replace hw := hw.1 c20
      exact J151  Z18 _ _ _ hG (lv_sub hl [2, 3] rfl) hw
    replace hw := hw.2 c20
    exact J107  Z18 _ _ _ hG (lv_sub hl [2, 3] rfl) hw
  replace hw := hw.2 (fun h => h c12)
  exact z_vret hF hG hr hlk hw dX12_jobComes_71
set_option maxHeartbeats 4000000 in
set_option maxRecDepth 100000 in
theorem kX12_ends (l : Launch) (E : zE) (Z : zS) (a1 : Int32) {K : zS → Prop} (hw : wX12_ends a1 Z K) : zCv l yX12_ends wsX12_ends ({ frames := 1, cells := 0, slots := 0, locals := 15 } : Room) E Z [.ref (E.2.1 97), .int a1] K := by
  refine z_bodyv (cc := cX12_ends) (nL := 3) (by decide) rfl (Nat.le_of_ble_eq_true rfl) ?_
  intro p e R s m args below meth c ls hfr hlo hF hr hlk hG hl
  have hx := hF.1.1
  have hb := hF.1.2.1
  have hown := hF.1.2.2.2.1
  have hts := hF.1.2.2.2.2
  have in12 : ∀ w ∈ u_ws RX12 TX12 22, w ∈ wsX12_ends := fun _ h => List.mem_cons_of_mem _ (List.mem_append_right _ h)
  have hl : lv_has ls 3 [(0, .ref (E.2.1 97)), (1, .int a1)] := hl
  have S51 : ∀ (L51 : Int32 → zS → Prop), (∀ (x2 : Int32) (Z : zS) (H : Heap) (locs : List Loc) (ls : Array Slot), zG E Z s H locs → lv_has ls 3 [(0, .ref (E.2.1 97)), (1, .int a1), (2, .int x2)] → L51 x2 Z → W p l e R s m args below meth c H locs 0 0 (zQv E K below args s) (F0 m 51 ls [])) → ∀ (x2 : Int32) (Z : zS) (H : Heap) (locs : List Loc) (ls : Array Slot), zG E Z s H locs → lv_has ls 3 [(0, .ref (E.2.1 97)), (1, .int a1), (2, .int x2)] → wX12_ends_51b L51 a1 x2 Z K → W p l e R s m args below meth c H locs 0 0 (zQv E K below args s) (F0 m 51 ls []) := by
    intro L51 ih51
    intro x2 Z H locs ls hG hl hw
    unfold wX12_ends_51b at hw
    refine lv_iload_n hx hb dX12_ends_51 rfl (lv_at hl 2 rfl) ?_
    refine lv_aload_n hx hb dX12_ends_52 rfl (lv_at hl 0 rfl) ?_
    refine z_get hF hG 97 (by decide) z_md rfl in12 2 (by decide) (List.mem_of_getElem? (i := 1) rfl) rfl rfl dX12_ends_53 ?_
    refine lv_bipush (v := 42) hx hb dX12_ends_56 (by decide) ?_
    refine lv_iload_n hx hb dX12_ends_58 rfl (lv_at hl 1 rfl) ?_
    refine lv_iadd hx hb dX12_ends_59 ?_
    obtain ⟨q10, hw⟩ := hw
    refine z_iald hF hG 98 (by decide) z_m98 q10 dX12_ends_60 ?_
    refine lv_icmp_ge (tgt := 114) hx hb dX12_ends_61 (by decide) (fun c11 => ?_) (fun c11 => ?_)
    · replace hw := hw.1 c11
      refine lv_aload_n hx hb dX12_ends_114 rfl (lv_at hl 0 rfl) ?_
      refine z_get hF hG 97 (by decide) z_md rfl in12 2 (by decide) (List.mem_of_getElem? (i := 1) rfl) rfl rfl dX12_ends_115 ?_
      refine lv_bipush (v := 42) hx hb dX12_ends_118 (by decide) ?_
      refine lv_iload_n hx hb dX12_ends_120 rfl (lv_at hl 1 rfl) ?_
      refine lv_iadd hx hb dX12_ends_121 ?_
      obtain ⟨q12, hw⟩ := hw
      refine z_iald hF hG 98 (by decide) z_m98 q12 dX12_ends_122 ?_
      refine lv_if_ne (tgt := 139) hx hb dX12_ends_123 (by decide) (fun c13 => ?_) (fun c13 => ?_)
      · replace hw := hw.1 c13
        refine lv_aload_n hx hb dX12_ends_139 rfl (lv_at hl 0 rfl) ?_
        refine z_get hF hG 97 (by decide) z_md rfl in12 2 (by decide) (List.mem_of_getElem? (i := 1) rfl) rfl rfl dX12_ends_140 ?_
        refine lv_bipush (v := 60) hx hb dX12_ends_143 (by decide) ?_
        refine lv_iload_n hx hb dX12_ends_145 rfl (lv_at hl 1 rfl) ?_
        refine lv_iadd hx hb dX12_ends_146 ?_
        refine lv_aload_n hx hb dX12_ends_147 rfl (lv_at hl 0 rfl) ?_
        refine z_get hF hG 97 (by decide) z_md rfl in12 2 (by decide) (List.mem_of_getElem? (i := 1) rfl) rfl rfl dX12_ends_148 ?_
        refine lv_bipush (v := 30) hx hb dX12_ends_151 (by decide) ?_
        refine lv_iload_n hx hb dX12_ends_153 rfl (lv_at hl 1 rfl) ?_
        refine lv_iadd hx hb dX12_ends_154 ?_
        obtain ⟨q14, hw⟩ := hw
        refine z_iald hF hG 98 (by decide) z_m98 q14 dX12_ends_155 ?_
        obtain ⟨q15, hw⟩ := hw
        refine z_iast hF hG 98 (by decide) (fun _ => z_m98) q15 dX12_ends_156 (fun Z16 H locs eZ16 hG => ?_)
        replace hw := hw Z16 eZ16
        exact z_vret hF hG hr hlk hw dX12_ends_157
      replace hw := hw.2 (fun h => h c13)
      refine lv_aload_n hx hb dX12_ends_126 rfl (lv_at hl 0 rfl) ?_
      refine z_get hF hG 97 (by decide) z_md rfl in12 2 (by decide) (List.mem_of_getElem? (i := 1) rfl) rfl rfl dX12_ends_127 ?_
      refine lv_bipush (v := 36) hx hb dX12_ends_130 (by decide) ?_
      refine lv_iload_n hx hb dX12_ends_132 rfl (lv_at hl 1 rfl) ?_
      refine lv_iadd hx hb dX12_ends_133 ?_
      refine lv_iconst (v := 3) hx hb dX12_ends_134 (by decide) ?_
      obtain ⟨q17, hw⟩ := hw
      refine z_iast hF hG 98 (by decide) (fun _ => z_m98) q17 dX12_ends_135 (fun Z18 H locs eZ18 hG => ?_)
      replace hw := hw Z18 eZ18
      refine lv_goto (tgt := 157) hx hb dX12_ends_136 (by decide) ?_
      exact z_vret hF hG hr hlk hw dX12_ends_157
    replace hw := hw.2 c11
    refine lv_aload_n hx hb dX12_ends_64 rfl (lv_at hl 0 rfl) ?_
    refine z_get hF hG 97 (by decide) z_md rfl in12 3 (by decide) (List.mem_of_getElem? (i := 6) rfl) rfl rfl dX12_ends_65 ?_
    refine lv_iconst (v := 4) hx hb dX12_ends_68 (by decide) ?_
    refine lv_iload_n hx hb dX12_ends_69 rfl (lv_at hl 1 rfl) ?_
    refine lv_imul hx hb dX12_ends_70 ?_
    refine lv_iload_n hx hb dX12_ends_71 rfl (lv_at hl 2 rfl) ?_
    refine lv_iadd hx hb dX12_ends_72 ?_
    refine lv_aload_n hx hb dX12_ends_73 rfl (lv_at hl 0 rfl) ?_
    refine z_get hF hG 97 (by decide) z_md rfl in12 3 (by decide) (List.mem_of_getElem? (i := 6) rfl) rfl rfl dX12_ends_74 ?_
    refine lv_iconst (v := 4) hx hb dX12_ends_77 (by decide) ?_
    refine lv_iload_n hx hb dX12_ends_78 rfl (lv_at hl 1 rfl) ?_
    refine lv_imul hx hb dX12_ends_79 ?_
    refine lv_iload_n hx hb dX12_ends_80 rfl (lv_at hl 2 rfl) ?_
    refine lv_iadd hx hb dX12_ends_81 ?_
    refine lv_iconst (v := 1) hx hb dX12_ends_82 (by decide) ?_
    refine lv_iadd hx hb dX12_ends_83 ?_
    obtain ⟨q19, hw⟩ := hw
    refine z_iald hF hG 99 (by decide) z_m99 q19 dX12_ends_84 ?_
    obtain ⟨q20, hw⟩ := hw
    refine z_iast hF hG 99 (by decide) (fun _ => z_m99) q20 dX12_ends_85 (fun Z21 H locs eZ21 hG => ?_)
    replace hw := hw Z21 eZ21
    refine lv_aload_n hx hb dX12_ends_86 rfl (lv_at hl 0 rfl) ?_
    refine z_get hF hG 97 (by decide) z_md rfl in12 4 (by decide) (List.mem_of_getElem? (i := 7) rfl) rfl rfl dX12_ends_87 ?_
    refine lv_iconst (v := 4) hx hb dX12_ends_90 (by decide) ?_
    refine lv_iload_n hx hb dX12_ends_91 rfl (lv_at hl 1 rfl) ?_
    refine lv_imul hx hb dX12_ends_92 ?_
    refine lv_iload_n hx hb dX12_ends_93 rfl (lv_at hl 2 rfl) ?_
    refine lv_iadd hx hb dX12_ends_94 ?_
    refine lv_aload_n hx hb dX12_ends_95 rfl (lv_at hl 0 rfl) ?_
    refine z_get hF hG 97 (by decide) z_md rfl in12 4 (by decide) (List.mem_of_getElem? (i := 7) rfl) rfl rfl dX12_ends_96 ?_
    refine lv_iconst (v := 4) hx hb dX12_ends_99 (by decide) ?_
    refine lv_iload_n hx hb dX12_ends_100 rfl (lv_at hl 1 rfl) ?_
    refine lv_imul hx hb dX12_ends_101 ?_
    refine lv_iload_n hx hb dX12_ends_102 rfl (lv_at hl 2 rfl) ?_
    refine lv_iadd hx hb dX12_ends_103 ?_
    refine lv_iconst (v := 1) hx hb dX12_ends_104 (by decide) ?_
    refine lv_iadd hx hb dX12_ends_105 ?_
    obtain ⟨q22, hw⟩ := hw
    refine z_iald hF hG 100 (by decide) z_m100 q22 dX12_ends_106 ?_
    obtain ⟨q23, hw⟩ := hw
    refine z_iast hF hG 100 (by decide) (fun _ => z_m100) q23 dX12_ends_107 (fun Z24 H locs eZ24 hG => ?_)
    replace hw := hw Z24 eZ24
    obtain ⟨y25, ey25⟩ : ∃ y : Int32, y = x2 + 1 := ⟨_, rfl⟩
    replace hw := hw y25 ey25
    refine lv_iinc (v := y25) (lv' := [(2, .int y25), (0, .ref (E.2.1 97)), (1, .int a1)]) hx hb dX12_ends_108 hl (k := 2) rfl (by rw [ey25]; rfl) (by decide) rfl (fun ls hl => ?_)
    refine lv_goto (tgt := 51) hx hb dX12_ends_111 (by decide) ?_
    exact ih51 y25 Z24 _ _ _ hG (lv_sub hl [1, 2, 0] rfl) hw
  have J51 : ∀ n : Nat, ∀ (x2 : Int32) (Z : zS) (H : Heap) (locs : List Loc) (ls : Array Slot), zG E Z s H locs → lv_has ls 3 [(0, .ref (E.2.1 97)), (1, .int a1), (2, .int x2)] → wX12_ends_51 a1 K n x2 Z → W p l e R s m args below meth c H locs 0 0 (zQv E K below args s) (F0 m 51 ls []) := by
    intro n
    induction n with
    | zero => intro x2 Z H locs ls hG hl hw; exact hw.elim
    | succ n ih => intro x2 Z H locs ls hG hl hw; exact S51 _ ih x2 Z H locs ls hG hl hw
  unfold wX12_ends at hw
  refine lv_aload_n hx hb dX12_ends_0 rfl (lv_at hl 0 rfl) ?_
  refine z_get hF hG 97 (by decide) z_md rfl in12 2 (by decide) (List.mem_of_getElem? (i := 1) rfl) rfl rfl dX12_ends_1 ?_
  refine lv_bipush (v := 54) hx hb dX12_ends_4 (by decide) ?_
  refine lv_iload_n hx hb dX12_ends_6 rfl (lv_at hl 1 rfl) ?_
  refine lv_iadd hx hb dX12_ends_7 ?_
  refine lv_sipush (v := 999) hx hb dX12_ends_8 (by decide) ?_
  refine lv_aload_n hx hb dX12_ends_11 rfl (lv_at hl 0 rfl) ?_
  refine z_get hF hG 97 (by decide) z_md rfl in12 2 (by decide) (List.mem_of_getElem? (i := 1) rfl) rfl rfl dX12_ends_12 ?_
  refine lv_bipush (v := 54) hx hb dX12_ends_15 (by decide) ?_
  refine lv_iload_n hx hb dX12_ends_17 rfl (lv_at hl 1 rfl) ?_
  refine lv_iadd hx hb dX12_ends_18 ?_
  obtain ⟨q1, hw⟩ := hw
  refine z_iald hF hG 98 (by decide) z_m98 q1 dX12_ends_19 ?_
  refine lv_iconst (v := 1) hx hb dX12_ends_20 (by decide) ?_
  refine lv_iadd hx hb dX12_ends_21 ?_
  refine va_mmin hx hb (hF.1.2.2.1.trans hl.1.symm) hown (hts (.methodLink RX12 76 Lib.Math.min.name) (List.mem_of_getElem? (i := 2) rfl)) (hts (.static Lib.Math.min.name) (List.mem_of_getElem? (i := 3) rfl)) (hts (.initialized "java/lang/Math") (List.mem_of_getElem? (i := 4) rfl)) (hts (.code Lib.Math.min.name Lib.Math.min.code 2 (some .int)) (List.mem_of_getElem? (i := 5) rfl)) (Nat.le_trans (Nat.le_of_ble_eq_true rfl) hfr) (Nat.le_trans (Nat.le_of_ble_eq_true rfl) hlo) (Nat.zero_le _) (Nat.zero_le _) dX12_ends_22 ?_
  obtain ⟨q2, hw⟩ := hw
  refine z_iast hF hG 98 (by decide) (fun _ => z_m98) q2 dX12_ends_25 (fun Z3 H locs eZ3 hG => ?_)
  replace hw := hw Z3 eZ3
  refine lv_aload_n hx hb dX12_ends_26 rfl (lv_at hl 0 rfl) ?_
  refine z_get hF hG 97 (by decide) z_md rfl in12 2 (by decide) (List.mem_of_getElem? (i := 1) rfl) rfl rfl dX12_ends_27 ?_
  refine lv_bipush (v := 66) hx hb dX12_ends_30 (by decide) ?_
  refine lv_iload_n hx hb dX12_ends_32 rfl (lv_at hl 1 rfl) ?_
  refine lv_iadd hx hb dX12_ends_33 ?_
  refine lv_iconst (v := 0) hx hb dX12_ends_34 (by decide) ?_
  obtain ⟨q4, hw⟩ := hw
  refine z_iast hF hG 98 (by decide) (fun _ => z_m98) q4 dX12_ends_35 (fun Z5 H locs eZ5 hG => ?_)
  replace hw := hw Z5 eZ5
  refine lv_aload_n hx hb dX12_ends_36 rfl (lv_at hl 0 rfl) ?_
  refine z_get hF hG 97 (by decide) z_md rfl in12 2 (by decide) (List.mem_of_getElem? (i := 1) rfl) rfl rfl dX12_ends_37 ?_
  refine lv_bipush (v := 42) hx hb dX12_ends_40 (by decide) ?_
  refine lv_iload_n hx hb dX12_ends_42 rfl (lv_at hl 1 rfl) ?_
  refine lv_iadd hx hb dX12_ends_43 ?_
  refine lv_dup2_11 hx hb dX12_ends_44 rfl rfl ?_
  obtain ⟨q6, hw⟩ := hw
  refine z_iald hF hG 98 (by decide) z_m98 q6 dX12_ends_45 ?_
  refine lv_iconst (v := 1) hx hb dX12_ends_46 (by decide) ?_
  refine lv_isub hx hb dX12_ends_47 ?_
  obtain ⟨q7, hw⟩ := hw
  refine z_iast hF hG 98 (by decide) (fun _ => z_m98) q7 dX12_ends_48 (fun Z8 H locs eZ8 hG => ?_)
  replace hw := hw Z8 eZ8
  refine lv_iconst (v := 0) hx hb dX12_ends_49 (by decide) ?_
  refine lv_topi (fun y9 ey9 => ?_)
  replace hw := hw y9 ey9
  refine lv_istore_n (lv' := [(2, .int y9), (0, .ref (E.2.1 97)), (1, .int a1)]) hx hb dX12_ends_50 rfl hl (by decide) rfl (fun ls hl => ?_)
  obtain ⟨n51, hw⟩ := hw
  exact J51 n51 y9 Z8 _ _ _ hG (lv_sub hl [1, 2, 0] rfl) hw
set_option maxHeartbeats 4000000 in
set_option maxRecDepth 100000 in
theorem kX12_holder (l : Launch) (E : zE) (Z : zS) (a1 : Int32) {K : Int32 → zS → Prop} (hw : wX12_holder a1 Z K) : zCi l yX12_holder wsX12_holder ({ frames := 0, cells := 0, slots := 0, locals := 0 } : Room) E Z [.ref (E.2.1 97), .int a1] K := by
  refine z_bodyi (cc := cX12_holder) (nL := 3) (ret := .int) (by decide) rfl (Nat.le_of_ble_eq_true rfl) ?_
  intro p e R s m args below meth c ls hfr hlo hF hr hlk hG hl
  have hx := hF.1.1
  have hb := hF.1.2.1
  have hown := hF.1.2.2.2.1
  have hts := hF.1.2.2.2.2
  have in12 : ∀ w ∈ u_ws RX12 TX12 22, w ∈ wsX12_holder := fun _ h => List.mem_cons_of_mem _ (List.mem_append_right _ h)
  have hl : lv_has ls 3 [(0, .ref (E.2.1 97)), (1, .int a1)] := hl
  have S2 : ∀ (L2 : Int32 → zS → Prop), (∀ (x2 : Int32) (Z : zS) (H : Heap) (locs : List Loc) (ls : Array Slot), zG E Z s H locs → lv_has ls 3 [(0, .ref (E.2.1 97)), (1, .int a1), (2, .int x2)] → L2 x2 Z → W p l e R s m args below meth c H locs 0 0 (zQi E K below args s) (F0 m 2 ls [])) → ∀ (x2 : Int32) (Z : zS) (H : Heap) (locs : List Loc) (ls : Array Slot), zG E Z s H locs → lv_has ls 3 [(0, .ref (E.2.1 97)), (1, .int a1), (2, .int x2)] → wX12_holder_2b L2 a1 x2 Z K → W p l e R s m args below meth c H locs 0 0 (zQi E K below args s) (F0 m 2 ls []) := by
    intro L2 ih2
    have J49 : ∀ (x2 : Int32) (Z : zS) (H : Heap) (locs : List Loc) (ls : Array Slot), zG E Z s H locs → lv_has ls 3 [(0, .ref (E.2.1 97)), (1, .int a1), (2, .int x2)] → wX12_holder_49 L2 a1 x2 Z K → W p l e R s m args below meth c H locs 0 0 (zQi E K below args s) (F0 m 49 ls []) := by
      intro x2 Z H locs ls hG hl hw
      unfold wX12_holder_49 at hw
      obtain ⟨y9, ey9⟩ : ∃ y : Int32, y = x2 + 1 := ⟨_, rfl⟩
      replace hw := hw y9 ey9
      refine lv_iinc (v := y9) (lv' := [(2, .int y9), (0, .ref (E.2.1 97)), (1, .int a1)]) hx hb dX12_holder_49 hl (k := 2) rfl (by rw [ey9]; rfl) (by decide) rfl (fun ls hl => ?_)
      refine lv_goto (tgt := 2) hx hb dX12_holder_52 (by decide) ?_
      exact ih2 y9 Z _ _ _ hG (lv_sub hl [1, 2, 0] rfl) hw
    intro x2 Z H locs ls hG hl hw
    unfold wX12_holder_2b at hw
    refine lv_iload_n hx hb dX12_holder_2 rfl (lv_at hl 2 rfl) ?_
    refine lv_aload_n hx hb dX12_holder_3 rfl (lv_at hl 0 rfl) ?_
    refine z_get hF hG 97 (by decide) z_md rfl in12 1 (by decide) (List.mem_of_getElem? (i := 1) rfl) rfl rfl dX12_holder_4 ?_
    refine lv_icmp_ge (tgt := 55) hx hb dX12_holder_7 (by decide) (fun c2 => ?_) (fun c2 => ?_)
    · replace hw := hw.1 c2
      refine lv_bipush (v := (-4)) hx hb dX12_holder_55 (by decide) ?_
      exact z_iret hF hG hr hlk hw dX12_holder_57
    replace hw := hw.2 c2
    refine lv_aload_n hx hb dX12_holder_10 rfl (lv_at hl 0 rfl) ?_
    refine z_get hF hG 97 (by decide) z_md rfl in12 2 (by decide) (List.mem_of_getElem? (i := 2) rfl) rfl rfl dX12_holder_11 ?_
    refine lv_bipush (v := 42) hx hb dX12_holder_14 (by decide) ?_
    refine lv_iload_n hx hb dX12_holder_16 rfl (lv_at hl 2 rfl) ?_
    refine lv_iadd hx hb dX12_holder_17 ?_
    obtain ⟨q3, hw⟩ := hw
    refine z_iald hF hG 98 (by decide) z_m98 q3 dX12_holder_18 ?_
    refine lv_if_le (tgt := 49) hx hb dX12_holder_19 (by decide) (fun c4 => ?_) (fun c4 => ?_)
    · replace hw := hw.1 c4
      exact J49 x2 Z _ _ _ hG (lv_sub hl [0, 1, 2] rfl) hw
    replace hw := hw.2 c4
    refine lv_aload_n hx hb dX12_holder_22 rfl (lv_at hl 0 rfl) ?_
    refine z_get hF hG 97 (by decide) z_md rfl in12 2 (by decide) (List.mem_of_getElem? (i := 2) rfl) rfl rfl dX12_holder_23 ?_
    refine lv_bipush (v := 66) hx hb dX12_holder_26 (by decide) ?_
    refine lv_iload_n hx hb dX12_holder_28 rfl (lv_at hl 2 rfl) ?_
    refine lv_iadd hx hb dX12_holder_29 ?_
    obtain ⟨q5, hw⟩ := hw
    refine z_iald hF hG 98 (by decide) z_m98 q5 dX12_holder_30 ?_
    refine lv_iconst (v := 1) hx hb dX12_holder_31 (by decide) ?_
    refine lv_icmp_ne (tgt := 49) hx hb dX12_holder_32 (by decide) (fun c6 => ?_) (fun c6 => ?_)
    · replace hw := hw.1 c6
      exact J49 x2 Z _ _ _ hG (lv_sub hl [0, 1, 2] rfl) hw
    replace hw := hw.2 (fun h => h c6)
    refine lv_aload_n hx hb dX12_holder_35 rfl (lv_at hl 0 rfl) ?_
    refine z_get hF hG 97 (by decide) z_md rfl in12 4 (by decide) (List.mem_of_getElem? (i := 3) rfl) rfl rfl dX12_holder_36 ?_
    refine lv_iconst (v := 4) hx hb dX12_holder_39 (by decide) ?_
    refine lv_iload_n hx hb dX12_holder_40 rfl (lv_at hl 2 rfl) ?_
    refine lv_imul hx hb dX12_holder_41 ?_
    obtain ⟨q7, hw⟩ := hw
    refine z_iald hF hG 100 (by decide) z_m100 q7 dX12_holder_42 ?_
    refine lv_iload_n hx hb dX12_holder_43 rfl (lv_at hl 1 rfl) ?_
    refine lv_icmp_ne (tgt := 49) hx hb dX12_holder_44 (by decide) (fun c8 => ?_) (fun c8 => ?_)
    · replace hw := hw.1 c8
      exact J49 x2 Z _ _ _ hG (lv_sub hl [0, 1, 2] rfl) hw
    replace hw := hw.2 (fun h => h c8)
    refine lv_iload_n hx hb dX12_holder_47 rfl (lv_at hl 2 rfl) ?_
    exact z_iret hF hG hr hlk hw dX12_holder_48
  have J2 : ∀ n : Nat, ∀ (x2 : Int32) (Z : zS) (H : Heap) (locs : List Loc) (ls : Array Slot), zG E Z s H locs → lv_has ls 3 [(0, .ref (E.2.1 97)), (1, .int a1), (2, .int x2)] → wX12_holder_2 a1 K n x2 Z → W p l e R s m args below meth c H locs 0 0 (zQi E K below args s) (F0 m 2 ls []) := by
    intro n
    induction n with
    | zero => intro x2 Z H locs ls hG hl hw; exact hw.elim
    | succ n ih => intro x2 Z H locs ls hG hl hw; exact S2 _ ih x2 Z H locs ls hG hl hw
  unfold wX12_holder at hw
  refine lv_iconst (v := 0) hx hb dX12_holder_0 (by decide) ?_
  refine lv_topi (fun y1 ey1 => ?_)
  replace hw := hw y1 ey1
  refine lv_istore_n (lv' := [(2, .int y1), (0, .ref (E.2.1 97)), (1, .int a1)]) hx hb dX12_holder_1 rfl hl (by decide) rfl (fun ls hl => ?_)
  obtain ⟨n2, hw⟩ := hw
  exact J2 n2 y1 Z _ _ _ hG (lv_sub hl [1, 2, 0] rfl) hw
theorem hS_yX12_wakes : yX12_wakes.cls ≠ "java/lang/invoke/MethodHandle" ∧ yX12_wakes.cls ≠ "java/lang/invoke/VarHandle" ∧ (parseMethodDescriptor yX12_wakes.desc).map (fun d => d.parameters.length) = some 1 := by decide +kernel
set_option maxHeartbeats 4000000 in
set_option maxRecDepth 100000 in
theorem kX12_begins (l : Launch) (E : zE) (Z : zS) {K : zS → Prop} (hw : wX12_begins Z K) : zCv l yX12_begins wsX12_begins ({ frames := 1, cells := 0, slots := 0, locals := 21 } : Room) E Z [.ref (E.2.1 97)] K := by
  refine z_bodyv (cc := cX12_begins) (nL := 2) (by decide) rfl (Nat.le_of_ble_eq_true rfl) ?_
  intro p e R s m args below meth c ls hfr hlo hF hr hlk hG hl
  have hx := hF.1.1
  have hb := hF.1.2.1
  have hown := hF.1.2.2.2.1
  have hts := hF.1.2.2.2.2
  have in12 : ∀ w ∈ u_ws RX12 TX12 22, w ∈ wsX12_begins := fun _ h => List.mem_cons_of_mem _ (List.mem_append_right _ h)
  have hl : lv_has ls 2 [(0, .ref (E.2.1 97))] := hl
  have S52 : ∀ (L52 : Int32 → zS → Prop), (∀ (x1 : Int32) (Z : zS) (H : Heap) (locs : List Loc) (ls : Array Slot), zG E Z s H locs → lv_has ls 2 [(0, .ref (E.2.1 97)), (1, .int x1)] → L52 x1 Z → W p l e R s m args below meth c H locs 0 0 (zQv E K below args s) (F0 m 52 ls [])) → ∀ (x1 : Int32) (Z : zS) (H : Heap) (locs : List Loc) (ls : Array Slot), zG E Z s H locs → lv_has ls 2 [(0, .ref (E.2.1 97)), (1, .int x1)] → wX12_begins_52b L52 x1 Z K → W p l e R s m args below meth c H locs 0 0 (zQv E K below args s) (F0 m 52 ls []) := by
    intro L52 ih52
    have J91 : ∀ (x1 : Int32) (Z : zS) (H : Heap) (locs : List Loc) (ls : Array Slot), zG E Z s H locs → lv_has ls 2 [(0, .ref (E.2.1 97)), (1, .int x1)] → wX12_begins_91 L52 x1 Z K → W p l e R s m args below meth c H locs 0 0 (zQv E K below args s) (F0 m 91 ls []) := by
      intro x1 Z H locs ls hG hl hw
      unfold wX12_begins_91 at hw
      obtain ⟨y18, ey18⟩ : ∃ y : Int32, y = x1 + 1 := ⟨_, rfl⟩
      replace hw := hw y18 ey18
      refine lv_iinc (v := y18) (lv' := [(1, .int y18), (0, .ref (E.2.1 97))]) hx hb dX12_begins_91 hl (k := 1) rfl (by rw [ey18]; rfl) (by decide) rfl (fun ls hl => ?_)
      refine lv_goto (tgt := 52) hx hb dX12_begins_94 (by decide) ?_
      exact ih52 y18 Z _ _ _ hG (lv_sub hl [1, 0] rfl) hw
    intro x1 Z H locs ls hG hl hw
    unfold wX12_begins_52b at hw
    refine lv_iload_n hx hb dX12_begins_52 rfl (lv_at hl 1 rfl) ?_
    refine lv_aload_n hx hb dX12_begins_53 rfl (lv_at hl 0 rfl) ?_
    refine z_get hF hG 97 (by decide) z_md rfl in12 1 (by decide) (List.mem_of_getElem? (i := 1) rfl) rfl rfl dX12_begins_54 ?_
    refine lv_icmp_ge (tgt := 97) hx hb dX12_begins_57 (by decide) (fun c10 => ?_) (fun c10 => ?_)
    · replace hw := hw.1 c10
      exact z_vret hF hG hr hlk hw dX12_begins_97
    replace hw := hw.2 c10
    refine lv_aload_n hx hb dX12_begins_60 rfl (lv_at hl 0 rfl) ?_
    refine z_get hF hG 97 (by decide) z_md rfl in12 2 (by decide) (List.mem_of_getElem? (i := 2) rfl) rfl rfl dX12_begins_61 ?_
    refine lv_bipush (v := 36) hx hb dX12_begins_64 (by decide) ?_
    refine lv_iload_n hx hb dX12_begins_66 rfl (lv_at hl 1 rfl) ?_
    refine lv_iadd hx hb dX12_begins_67 ?_
    obtain ⟨q11, hw⟩ := hw
    refine z_iald hF hG 98 (by decide) z_m98 q11 dX12_begins_68 ?_
    refine lv_iconst (v := 3) hx hb dX12_begins_69 (by decide) ?_
    refine lv_icmp_ne (tgt := 91) hx hb dX12_begins_70 (by decide) (fun c12 => ?_) (fun c12 => ?_)
    · replace hw := hw.1 c12
      exact J91 x1 Z _ _ _ hG (lv_sub hl [0, 1] rfl) hw
    replace hw := hw.2 (fun h => h c12)
    refine lv_aload_n hx hb dX12_begins_73 rfl (lv_at hl 0 rfl) ?_
    refine lv_iload_n hx hb dX12_begins_74 rfl (lv_at hl 1 rfl) ?_
    refine z_ci (va_runV (rest := []) hF.1 (kX12_ahead l E Z x1  hw _) (cwV 1 hts gX12_begins_X12_ahead rfl rfl rfl ⟨rfl, hS_yX12_ahead⟩ ⟨Nat.le_trans (Nat.le_of_ble_eq_true rfl) hfr, Nat.le_trans (Nat.le_of_ble_eq_true rfl) hlo⟩) (z_preV hF hG 97 (by decide) z_md rfl) rfl rfl hl.1 rfl (lv_room (Nat.le_of_ble_eq_true rfl)) dX12_begins_75 ⟨Nat.zero_le _, Nat.zero_le _⟩) hG (fun r14 Z13 H locs hw hG => ?_)
    refine lv_if_gt (tgt := 91) hx hb dX12_begins_78 (by decide) (fun c15 => ?_) (fun c15 => ?_)
    · replace hw := hw.1 c15
      exact J91 x1 Z13 _ _ _ hG (lv_sub hl [0, 1] rfl) hw
    replace hw := hw.2 c15
    refine lv_aload_n hx hb dX12_begins_81 rfl (lv_at hl 0 rfl) ?_
    refine z_get hF hG 97 (by decide) z_md rfl in12 2 (by decide) (List.mem_of_getElem? (i := 2) rfl) rfl rfl dX12_begins_82 ?_
    refine lv_bipush (v := 36) hx hb dX12_begins_85 (by decide) ?_
    refine lv_iload_n hx hb dX12_begins_87 rfl (lv_at hl 1 rfl) ?_
    refine lv_iadd hx hb dX12_begins_88 ?_
    refine lv_iconst (v := 0) hx hb dX12_begins_89 (by decide) ?_
    obtain ⟨q16, hw⟩ := hw
    refine z_iast hF hG 98 (by decide) (fun _ => z_m98) q16 dX12_begins_90 (fun Z17 H locs eZ17 hG => ?_)
    replace hw := hw Z17 eZ17
    exact J91 x1 Z17 _ _ _ hG (lv_sub hl [0, 1] rfl) hw
  have J52 : ∀ n : Nat, ∀ (x1 : Int32) (Z : zS) (H : Heap) (locs : List Loc) (ls : Array Slot), zG E Z s H locs → lv_has ls 2 [(0, .ref (E.2.1 97)), (1, .int x1)] → wX12_begins_52 K n x1 Z → W p l e R s m args below meth c H locs 0 0 (zQv E K below args s) (F0 m 52 ls []) := by
    intro n
    induction n with
    | zero => intro x1 Z H locs ls hG hl hw; exact hw.elim
    | succ n ih => intro x1 Z H locs ls hG hl hw; exact S52 _ ih x1 Z H locs ls hG hl hw
  have S2 : ∀ (L2 : Int32 → zS → Prop), (∀ (x1 : Int32) (Z : zS) (H : Heap) (locs : List Loc) (ls : Array Slot), zG E Z s H locs → lv_has ls 2 [(0, .ref (E.2.1 97)), (1, .int x1)] → L2 x1 Z → W p l e R s m args below meth c H locs 0 0 (zQv E K below args s) (F0 m 2 ls [])) → ∀ (x1 : Int32) (Z : zS) (H : Heap) (locs : List Loc) (ls : Array Slot), zG E Z s H locs → lv_has ls 2 [(0, .ref (E.2.1 97)), (1, .int x1)] → wX12_begins_2b L2 x1 Z K → W p l e R s m args below meth c H locs 0 0 (zQv E K below args s) (F0 m 2 ls []) := by
    intro L2 ih2
    have J44 : ∀ (x1 : Int32) (Z : zS) (H : Heap) (locs : List Loc) (ls : Array Slot), zG E Z s H locs → lv_has ls 2 [(0, .ref (E.2.1 97)), (1, .int x1)] → wX12_begins_44 L2 x1 Z K → W p l e R s m args below meth c H locs 0 0 (zQv E K below args s) (F0 m 44 ls []) := by
      intro x1 Z H locs ls hG hl hw
      unfold wX12_begins_44 at hw
      obtain ⟨y9, ey9⟩ : ∃ y : Int32, y = x1 + 1 := ⟨_, rfl⟩
      replace hw := hw y9 ey9
      refine lv_iinc (v := y9) (lv' := [(1, .int y9), (0, .ref (E.2.1 97))]) hx hb dX12_begins_44 hl (k := 1) rfl (by rw [ey9]; rfl) (by decide) rfl (fun ls hl => ?_)
      refine lv_goto (tgt := 2) hx hb dX12_begins_47 (by decide) ?_
      exact ih2 y9 Z _ _ _ hG (lv_sub hl [1, 0] rfl) hw
    intro x1 Z H locs ls hG hl hw
    unfold wX12_begins_2b at hw
    refine lv_iload_n hx hb dX12_begins_2 rfl (lv_at hl 1 rfl) ?_
    refine lv_aload_n hx hb dX12_begins_3 rfl (lv_at hl 0 rfl) ?_
    refine z_get hF hG 97 (by decide) z_md rfl in12 1 (by decide) (List.mem_of_getElem? (i := 1) rfl) rfl rfl dX12_begins_4 ?_
    refine lv_icmp_ge (tgt := 50) hx hb dX12_begins_7 (by decide) (fun c2 => ?_) (fun c2 => ?_)
    · replace hw := hw.1 c2
      refine lv_iconst (v := 0) hx hb dX12_begins_50 (by decide) ?_
      refine lv_topi (fun y3 ey3 => ?_)
      replace hw := hw y3 ey3
      refine lv_istore_n (lv' := [(1, .int y3), (0, .ref (E.2.1 97))]) hx hb dX12_begins_51 rfl hl (by decide) rfl (fun ls hl => ?_)
      obtain ⟨n52, hw⟩ := hw
      exact J52 n52 y3 Z _ _ _ hG (lv_sub hl [1, 0] rfl) hw
    replace hw := hw.2 c2
    refine lv_aload_n hx hb dX12_begins_10 rfl (lv_at hl 0 rfl) ?_
    refine z_get hF hG 97 (by decide) z_md rfl in12 2 (by decide) (List.mem_of_getElem? (i := 2) rfl) rfl rfl dX12_begins_11 ?_
    refine lv_bipush (v := 36) hx hb dX12_begins_14 (by decide) ?_
    refine lv_iload_n hx hb dX12_begins_16 rfl (lv_at hl 1 rfl) ?_
    refine lv_iadd hx hb dX12_begins_17 ?_
    obtain ⟨q4, hw⟩ := hw
    refine z_iald hF hG 98 (by decide) z_m98 q4 dX12_begins_18 ?_
    refine lv_iconst (v := 2) hx hb dX12_begins_19 (by decide) ?_
    refine lv_icmp_ne (tgt := 44) hx hb dX12_begins_20 (by decide) (fun c5 => ?_) (fun c5 => ?_)
    · replace hw := hw.1 c5
      exact J44 x1 Z _ _ _ hG (lv_sub hl [0, 1] rfl) hw
    replace hw := hw.2 (fun h => h c5)
    refine lv_aload_n hx hb dX12_begins_23 rfl (lv_at hl 0 rfl) ?_
    refine z_get hF hG 97 (by decide) z_md rfl in12 2 (by decide) (List.mem_of_getElem? (i := 2) rfl) rfl rfl dX12_begins_24 ?_
    refine lv_bipush (v := 30) hx hb dX12_begins_27 (by decide) ?_
    refine lv_iload_n hx hb dX12_begins_29 rfl (lv_at hl 1 rfl) ?_
    refine lv_iadd hx hb dX12_begins_30 ?_
    obtain ⟨q6, hw⟩ := hw
    refine z_iald hF hG 98 (by decide) z_m98 q6 dX12_begins_31 ?_
    refine lv_aload_n hx hb dX12_begins_32 rfl (lv_at hl 0 rfl) ?_
    refine z_get hF hG 97 (by decide) z_md rfl in12 0 (by decide) (List.mem_of_getElem? (i := 3) rfl) rfl rfl dX12_begins_33 ?_
    refine lv_icmp_gt (tgt := 44) hx hb dX12_begins_36 (by decide) (fun c7 => ?_) (fun c7 => ?_)
    · replace hw := hw.1 c7
      exact J44 x1 Z _ _ _ hG (lv_sub hl [0, 1] rfl) hw
    replace hw := hw.2 c7
    refine lv_aload_n hx hb dX12_begins_39 rfl (lv_at hl 0 rfl) ?_
    refine lv_iload_n hx hb dX12_begins_40 rfl (lv_at hl 1 rfl) ?_
    refine z_cv (va_runV (rest := []) hF.1 (kX12_wakes l E Z x1  hw _) (cwV 1 hts gX12_begins_X12_wakes rfl rfl rfl ⟨rfl, hS_yX12_wakes⟩ ⟨Nat.le_trans (Nat.le_of_ble_eq_true rfl) hfr, Nat.le_trans (Nat.le_of_ble_eq_true rfl) hlo⟩) (z_preV hF hG 97 (by decide) z_md rfl) rfl rfl hl.1 rfl (lv_room (Nat.le_of_ble_eq_true rfl)) dX12_begins_41 ⟨Nat.zero_le _, Nat.zero_le _⟩) hG (fun Z8 H locs hw hG => ?_)
    exact J44 x1 Z8 _ _ _ hG (lv_sub hl [0, 1] rfl) hw
  have J2 : ∀ n : Nat, ∀ (x1 : Int32) (Z : zS) (H : Heap) (locs : List Loc) (ls : Array Slot), zG E Z s H locs → lv_has ls 2 [(0, .ref (E.2.1 97)), (1, .int x1)] → wX12_begins_2 K n x1 Z → W p l e R s m args below meth c H locs 0 0 (zQv E K below args s) (F0 m 2 ls []) := by
    intro n
    induction n with
    | zero => intro x1 Z H locs ls hG hl hw; exact hw.elim
    | succ n ih => intro x1 Z H locs ls hG hl hw; exact S2 _ ih x1 Z H locs ls hG hl hw
  unfold wX12_begins at hw
  refine lv_iconst (v := 0) hx hb dX12_begins_0 (by decide) ?_
  refine lv_topi (fun y1 ey1 => ?_)
  replace hw := hw y1 ey1
  refine lv_istore_n (lv' := [(1, .int y1), (0, .ref (E.2.1 97))]) hx hb dX12_begins_1 rfl hl (by decide) rfl (fun ls hl => ?_)
  obtain ⟨n2, hw⟩ := hw
  exact J2 n2 y1 Z _ _ _ hG (lv_sub hl [1, 0] rfl) hw
set_option maxHeartbeats 4000000 in
set_option maxRecDepth 100000 in
theorem kX12_earliest (l : Launch) (E : zE) (Z : zS) {K : Int32 → zS → Prop} (hw : wX12_earliest Z K) : zCi l yX12_earliest wsX12_earliest ({ frames := 0, cells := 0, slots := 0, locals := 0 } : Room) E Z [.ref (E.2.1 97)] K := by
  refine z_bodyi (cc := cX12_earliest) (nL := 3) (ret := .int) (by decide) rfl (Nat.le_of_ble_eq_true rfl) ?_
  intro p e R s m args below meth c ls hfr hlo hF hr hlk hG hl
  have hx := hF.1.1
  have hb := hF.1.2.1
  have hown := hF.1.2.2.2.1
  have hts := hF.1.2.2.2.2
  have in12 : ∀ w ∈ u_ws RX12 TX12 22, w ∈ wsX12_earliest := fun _ h => List.mem_cons_of_mem _ (List.mem_append_right _ h)
  have hl : lv_has ls 3 [(0, .ref (E.2.1 97))] := hl
  have S5 : ∀ (L5 : Int32 → Int32 → zS → Prop), (∀ (x1 : Int32) (x2 : Int32) (Z : zS) (H : Heap) (locs : List Loc) (ls : Array Slot), zG E Z s H locs → lv_has ls 3 [(0, .ref (E.2.1 97)), (1, .int x1), (2, .int x2)] → L5 x1 x2 Z → W p l e R s m args below meth c H locs 0 0 (zQi E K below args s) (F0 m 5 ls [])) → ∀ (x1 : Int32) (x2 : Int32) (Z : zS) (H : Heap) (locs : List Loc) (ls : Array Slot), zG E Z s H locs → lv_has ls 3 [(0, .ref (E.2.1 97)), (1, .int x1), (2, .int x2)] → wX12_earliest_5b L5 x1 x2 Z K → W p l e R s m args below meth c H locs 0 0 (zQi E K below args s) (F0 m 5 ls []) := by
    intro L5 ih5
    have J55 : ∀ (x1 : Int32) (x2 : Int32) (Z : zS) (H : Heap) (locs : List Loc) (ls : Array Slot), zG E Z s H locs → lv_has ls 3 [(0, .ref (E.2.1 97)), (1, .int x1), (2, .int x2)] → wX12_earliest_55 L5 x1 x2 Z K → W p l e R s m args below meth c H locs 0 0 (zQi E K below args s) (F0 m 55 ls []) := by
      intro x1 x2 Z H locs ls hG hl hw
      unfold wX12_earliest_55 at hw
      obtain ⟨y10, ey10⟩ : ∃ y : Int32, y = x2 + 1 := ⟨_, rfl⟩
      replace hw := hw y10 ey10
      refine lv_iinc (v := y10) (lv' := [(2, .int y10), (0, .ref (E.2.1 97)), (1, .int x1)]) hx hb dX12_earliest_55 hl (k := 2) rfl (by rw [ey10]; rfl) (by decide) rfl (fun ls hl => ?_)
      refine lv_goto (tgt := 5) hx hb dX12_earliest_58 (by decide) ?_
      exact ih5 x1 y10 Z _ _ _ hG (lv_sub hl [1, 2, 0] rfl) hw
    have J53 : ∀ (x2 : Int32) (Z : zS) (H : Heap) (locs : List Loc) (ls : Array Slot), zG E Z s H locs → lv_has ls 3 [(0, .ref (E.2.1 97)), (2, .int x2)] → wX12_earliest_53 L5 x2 Z K → W p l e R s m args below meth c H locs 0 0 (zQi E K below args s) (F0 m 53 ls []) := by
      intro x2 Z H locs ls hG hl hw
      unfold wX12_earliest_53 at hw
      refine lv_iload_n hx hb dX12_earliest_53 rfl (lv_at hl 1 rfl) ?_
      refine lv_istore_n (lv' := [(1, .int x2), (0, .ref (E.2.1 97)), (2, .int x2)]) hx hb dX12_earliest_54 rfl hl (by decide) rfl (fun ls hl => ?_)
      exact J55 x2 x2 Z _ _ _ hG (lv_sub hl [1, 0, 2] rfl) hw
    intro x1 x2 Z H locs ls hG hl hw
    unfold wX12_earliest_5b at hw
    refine lv_iload_n hx hb dX12_earliest_5 rfl (lv_at hl 2 rfl) ?_
    refine lv_aload_n hx hb dX12_earliest_6 rfl (lv_at hl 0 rfl) ?_
    refine z_get hF hG 97 (by decide) z_md rfl in12 1 (by decide) (List.mem_of_getElem? (i := 1) rfl) rfl rfl dX12_earliest_7 ?_
    refine lv_icmp_ge (tgt := 61) hx hb dX12_earliest_10 (by decide) (fun c3 => ?_) (fun c3 => ?_)
    · replace hw := hw.1 c3
      refine lv_iload_n hx hb dX12_earliest_61 rfl (lv_at hl 1 rfl) ?_
      exact z_iret hF hG hr hlk hw dX12_earliest_62
    replace hw := hw.2 c3
    refine lv_aload_n hx hb dX12_earliest_13 rfl (lv_at hl 0 rfl) ?_
    refine z_get hF hG 97 (by decide) z_md rfl in12 2 (by decide) (List.mem_of_getElem? (i := 2) rfl) rfl rfl dX12_earliest_14 ?_
    refine lv_bipush (v := 36) hx hb dX12_earliest_17 (by decide) ?_
    refine lv_iload_n hx hb dX12_earliest_19 rfl (lv_at hl 2 rfl) ?_
    refine lv_iadd hx hb dX12_earliest_20 ?_
    obtain ⟨q4, hw⟩ := hw
    refine z_iald hF hG 98 (by decide) z_m98 q4 dX12_earliest_21 ?_
    refine lv_iconst (v := 1) hx hb dX12_earliest_22 (by decide) ?_
    refine lv_icmp_ne (tgt := 55) hx hb dX12_earliest_23 (by decide) (fun c5 => ?_) (fun c5 => ?_)
    · replace hw := hw.1 c5
      exact J55 x1 x2 Z _ _ _ hG (lv_sub hl [0, 1, 2] rfl) hw
    replace hw := hw.2 (fun h => h c5)
    refine lv_iload_n hx hb dX12_earliest_26 rfl (lv_at hl 1 rfl) ?_
    refine lv_bipush (v := (-4)) hx hb dX12_earliest_27 (by decide) ?_
    refine lv_icmp_eq (tgt := 53) hx hb dX12_earliest_29 (by decide) (fun c6 => ?_) (fun c6 => ?_)
    · replace hw := hw.1 c6
      exact J53 x2 Z _ _ _ hG (lv_sub hl [0, 2] rfl) hw
    replace hw := hw.2 c6
    refine lv_aload_n hx hb dX12_earliest_32 rfl (lv_at hl 0 rfl) ?_
    refine z_get hF hG 97 (by decide) z_md rfl in12 2 (by decide) (List.mem_of_getElem? (i := 2) rfl) rfl rfl dX12_earliest_33 ?_
    refine lv_bipush (v := 30) hx hb dX12_earliest_36 (by decide) ?_
    refine lv_iload_n hx hb dX12_earliest_38 rfl (lv_at hl 2 rfl) ?_
    refine lv_iadd hx hb dX12_earliest_39 ?_
    obtain ⟨q7, hw⟩ := hw
    refine z_iald hF hG 98 (by decide) z_m98 q7 dX12_earliest_40 ?_
    refine lv_aload_n hx hb dX12_earliest_41 rfl (lv_at hl 0 rfl) ?_
    refine z_get hF hG 97 (by decide) z_md rfl in12 2 (by decide) (List.mem_of_getElem? (i := 2) rfl) rfl rfl dX12_earliest_42 ?_
    refine lv_bipush (v := 30) hx hb dX12_earliest_45 (by decide) ?_
    refine lv_iload_n hx hb dX12_earliest_47 rfl (lv_at hl 1 rfl) ?_
    refine lv_iadd hx hb dX12_earliest_48 ?_
    obtain ⟨q8, hw⟩ := hw
    refine z_iald hF hG 98 (by decide) z_m98 q8 dX12_earliest_49 ?_
    refine lv_icmp_ge (tgt := 55) hx hb dX12_earliest_50 (by decide) (fun c9 => ?_) (fun c9 => ?_)
    · replace hw := hw.1 c9
      exact J55 x1 x2 Z _ _ _ hG (lv_sub hl [0, 1, 2] rfl) hw
    replace hw := hw.2 c9
    exact J53 x2 Z _ _ _ hG (lv_sub hl [0, 2] rfl) hw
  have J5 : ∀ n : Nat, ∀ (x1 : Int32) (x2 : Int32) (Z : zS) (H : Heap) (locs : List Loc) (ls : Array Slot), zG E Z s H locs → lv_has ls 3 [(0, .ref (E.2.1 97)), (1, .int x1), (2, .int x2)] → wX12_earliest_5 K n x1 x2 Z → W p l e R s m args below meth c H locs 0 0 (zQi E K below args s) (F0 m 5 ls []) := by
    intro n
    induction n with
    | zero => intro x1 x2 Z H locs ls hG hl hw; exact hw.elim
    | succ n ih => intro x1 x2 Z H locs ls hG hl hw; exact S5 _ ih x1 x2 Z H locs ls hG hl hw
  unfold wX12_earliest at hw
  refine lv_bipush (v := (-4)) hx hb dX12_earliest_0 (by decide) ?_
  refine lv_topi (fun y1 ey1 => ?_)
  replace hw := hw y1 ey1
  refine lv_istore_n (lv' := [(1, .int y1), (0, .ref (E.2.1 97))]) hx hb dX12_earliest_2 rfl hl (by decide) rfl (fun ls hl => ?_)
  refine lv_iconst (v := 0) hx hb dX12_earliest_3 (by decide) ?_
  refine lv_topi (fun y2 ey2 => ?_)
  replace hw := hw y2 ey2
  refine lv_istore_n (lv' := [(2, .int y2), (1, .int y1), (0, .ref (E.2.1 97))]) hx hb dX12_earliest_4 rfl hl (by decide) rfl (fun ls hl => ?_)
  obtain ⟨n5, hw⟩ := hw
  exact J5 n5 y1 y2 Z _ _ _ hG (lv_sub hl [2, 1, 0] rfl) hw
