set_option maxHeartbeats 4000000 in
set_option maxRecDepth 100000 in
theorem kX11_wide (l : Launch) (E : zE) (Z : zS) (a1 : Int32) {K : Int64 → zS → Prop} (hw : wX11_wide a1 Z K) : zCl l yX11_wide wsX11_wide ({ frames := 2, cells := 0, slots := 0, locals := 43 } : Room) E Z [.ref (E.2.1 96), .int a1] K := by
  refine z_bodyl (cc := cX11_wide) (nL := 5) (by decide) rfl (Nat.le_of_ble_eq_true rfl) ?_
  intro p e R s m args below meth c ls hfr hlo hF hr hlk hG hl
  have hx := hF.1.1
  have hb := hF.1.2.1
  have hown := hF.1.2.2.2.1
  have hts := hF.1.2.2.2.2
  have in3 : ∀ w ∈ u_ws RX3 TX3 5, w ∈ wsX11_wide := fun _ h => List.mem_cons_of_mem _ (List.mem_append_left _ (List.mem_append_right _ h))
  have in5 : ∀ w ∈ u_ws RX5 TX5 15, w ∈ wsX11_wide := fun _ h => List.mem_cons_of_mem _ (List.mem_append_right _ h)
  have in11 : ∀ w ∈ u_ws RX11 TX11 11, w ∈ wsX11_wide := fun _ h => List.mem_cons_of_mem _ (List.mem_append_left _ (List.mem_append_left _ (List.mem_append_right _ h)))
  have hl : lv_has ls 5 [(0, .ref (E.2.1 96)), (1, .int a1)] := hl
  have J45 : ∀ (x2 : Int32) (s0 : Int64) (Z : zS) (H : Heap) (locs : List Loc) (ls : Array Slot), zG E Z s H locs → lv_has ls 5 [(2, .int x2)] → wX11_wide_45 a1 x2 s0 Z K → W p l e R s m args below meth c H locs 0 0 (zQl E K below args s) (F0 m 45 ls [.long s0]) := by
    intro x2 s0 Z H locs ls hG hl hw
    unfold wX11_wide_45 at hw
    refine lv_lstore_n (lv' := [(3, .long s0), (2, .int x2)]) hx hb dX11_wide_45 rfl hl (by decide) rfl (fun ls hl => ?_)
    refine lv_lload_n hx hb dX11_wide_46 rfl (lv_at hl 0 rfl) ?_
    refine lv_iload_n hx hb dX11_wide_47 rfl (lv_at hl 1 rfl) ?_
    refine va_mabs hx hb (hF.1.2.2.1.trans hl.1.symm) hown (hts (.methodLink RX11 302 Lib.Math.abs.name) (List.mem_of_getElem? (i := 6) rfl)) (hts (.static Lib.Math.abs.name) (List.mem_of_getElem? (i := 7) rfl)) (hts (.initialized "java/lang/Math") (List.mem_of_getElem? (i := 8) rfl)) (hts (.code Lib.Math.abs.name Lib.Math.abs.code 1 (some .int)) (List.mem_of_getElem? (i := 9) rfl)) (Nat.le_trans (Nat.le_of_ble_eq_true rfl) hfr) (Nat.le_trans (Nat.le_of_ble_eq_true rfl) hlo) (Nat.zero_le _) (Nat.zero_le _) dX11_wide_48 ?_
    refine lv_i2l hx hb dX11_wide_51 rfl ?_
    refine lv_ldc2 hx hb hown (hts (.constantLong RX11 305 (60)) (List.mem_of_getElem? (i := 10) rfl)) dX11_wide_52 ?_
    refine lv_bipush (v := 52) hx hb dX11_wide_55 (by decide) ?_
    refine lv_sipush (v := 1023) hx hb dX11_wide_57 (by decide) ?_
    refine z_cl (va_runS (rest := [.long s0]) hF.1 (kX11_nearestBits l E Z ((Int32.toInt64 (if 0 ≤ x2 then x2 else 0 - x2))) 60 52 1023  hw _) (va_cwS 4 hts gX11_wide_X11_nearestBits rfl rfl rfl hS_yX11_nearestBits ⟨Nat.le_trans (Nat.le_of_ble_eq_true rfl) hfr, Nat.le_trans (Nat.le_of_ble_eq_true rfl) hlo⟩) (z_preS hF hG) rfl rfl hl.1 rfl (lv_room (Nat.le_of_ble_eq_true rfl)) dX11_wide_60 ⟨Nat.zero_le _, Nat.zero_le _⟩) hG (fun r9 Z8 H locs hw hG => ?_)
    refine lv_lor hx hb dX11_wide_63 ?_
    exact z_lret hF hG hr hlk hw dX11_wide_64
  unfold wX11_wide at hw
  refine lv_aload_n hx hb dX11_wide_0 rfl (lv_at hl 0 rfl) ?_
  refine z_get hF hG 96 (by decide) z_gs rfl in11 1 (by decide) (List.mem_of_getElem? (i := 1) rfl) rfl rfl dX11_wide_1 ?_
  refine lv_iload_n hx hb dX11_wide_4 rfl (lv_at hl 1 rfl) ?_
  refine z_ci (va_runV (rest := []) hF.1 (kX3_has l E Z 0 a1 (by decide) hw _) (cwV 1 hts gX11_wide_X3_has rfl rfl rfl ⟨rfl, hS_yX3_has⟩ ⟨Nat.le_trans (Nat.le_of_ble_eq_true rfl) hfr, Nat.le_trans (Nat.le_of_ble_eq_true rfl) hlo⟩) (z_preV hF hG (54 + 0) (zc_pl (by decide)) (z_pl (by decide)) rfl) rfl rfl hl.1 rfl (lv_room (Nat.le_of_ble_eq_true rfl)) dX11_wide_5 ⟨Nat.zero_le _, Nat.zero_le _⟩) hG (fun r2 Z1 H locs hw hG => ?_)
  refine lv_if_ne (tgt := 15) hx hb dX11_wide_8 (by decide) (fun c3 => ?_) (fun c3 => ?_)
  · replace hw := hw.1 c3
    refine lv_aload_n hx hb dX11_wide_15 rfl (lv_at hl 0 rfl) ?_
    refine z_get hF hG 96 (by decide) z_gs rfl in11 1 (by decide) (List.mem_of_getElem? (i := 1) rfl) rfl rfl dX11_wide_16 ?_
    refine z_get hF hG (54 + 0) (zc_pl (by decide)) (z_pl (by decide)) rfl in3 0 (by decide) (List.mem_of_getElem? (i := 3) rfl) rfl rfl dX11_wide_19 ?_
    refine lv_iload_n hx hb dX11_wide_22 rfl (lv_at hl 1 rfl) ?_
    obtain ⟨q4, hw⟩ := hw
    refine z_aald hF hG (57 + 0) 1 (zc_pr (by decide)) (z_pr (by decide)) rfl q4 rfl dX11_wide_23 ?_
    refine z_get hF hG (6 * 0 + (a1 : Int32).toNatClampNeg) (zc_sv (z_vb (by decide) q4)) (z_sv (z_vb (by decide) q4)) rfl in5 5 (by decide) (List.mem_of_getElem? (i := 4) rfl) rfl rfl dX11_wide_24 ?_
    refine lv_topi (fun y5 ey5 => ?_)
    replace hw := hw y5 ey5
    refine lv_istore_n (lv' := [(2, .int y5), (0, .ref (E.2.1 96)), (1, .int a1)]) hx hb dX11_wide_27 rfl hl (by decide) rfl (fun ls hl => ?_)
    refine lv_iload_n hx hb dX11_wide_28 rfl (lv_at hl 0 rfl) ?_
    refine lv_if_ne (tgt := 34) hx hb dX11_wide_29 (by decide) (fun c6 => ?_) (fun c6 => ?_)
    · replace hw := hw.1 c6
      refine lv_iload_n hx hb dX11_wide_34 rfl (lv_at hl 0 rfl) ?_
      refine lv_if_ge (tgt := 44) hx hb dX11_wide_35 (by decide) (fun c7 => ?_) (fun c7 => ?_)
      · replace hw := hw.1 c7
        refine lv_lconst (v := 0) hx hb dX11_wide_44 rfl ?_
        exact J45 y5 0 Z1 _ _ _ hG (lv_sub hl [0] rfl) hw
      replace hw := hw.2 c7
      refine lv_ldc2 hx hb hown (hts (.constantLong RX11 300 (-9223372036854775808)) (List.mem_of_getElem? (i := 5) rfl)) dX11_wide_38 ?_
      refine lv_goto (tgt := 45) hx hb dX11_wide_41 (by decide) ?_
      exact J45 y5 ((-9223372036854775808)) Z1 _ _ _ hG (lv_sub hl [0] rfl) hw
    replace hw := hw.2 (fun h => h c6)
    refine lv_lconst (v := 0) hx hb dX11_wide_32 rfl ?_
    exact z_lret hF hG hr hlk hw dX11_wide_33
  replace hw := hw.2 (fun h => h c3)
  refine lv_ldc2 hx hb hown (hts (.constantLong RX11 278 (-9223372036854775707)) (List.mem_of_getElem? (i := 2) rfl)) dX11_wide_11 ?_
  exact z_lret hF hG hr hlk hw dX11_wide_14
set_option maxHeartbeats 4000000 in
set_option maxRecDepth 100000 in
theorem kX11_forged (l : Launch) (E : zE) (Z : zS) (a1 : Int32) {K : Int32 → zS → Prop} (hw : wX11_forged a1 Z K) : zCi l yX11_forged wsX11_forged ({ frames := 4, cells := 0, slots := 0, locals := 85 } : Room) E Z [.ref (E.2.1 96), .int a1] K := by
  refine z_bodyi (cc := cX11_forged) (nL := 4) (ret := .int) (by decide) rfl (Nat.le_of_ble_eq_true rfl) ?_
  intro p e R s m args below meth c ls hfr hlo hF hr hlk hG hl
  have hx := hF.1.1
  have hb := hF.1.2.1
  have hown := hF.1.2.2.2.1
  have hts := hF.1.2.2.2.2
  have in3 : ∀ w ∈ u_ws RX3 TX3 5, w ∈ wsX11_forged := fun _ h => List.mem_cons_of_mem _ (List.mem_append_left _ (List.mem_append_right _ h))
  have in5 : ∀ w ∈ u_ws RX5 TX5 15, w ∈ wsX11_forged := fun _ h => List.mem_cons_of_mem _ (List.mem_append_right _ h)
  have in6 : ∀ w ∈ u_ws RX6 TX6 6, w ∈ wsX11_forged := fun _ h => List.mem_cons_of_mem _ (List.mem_append_left _ (List.mem_append_left _ (List.mem_append_right _ h)))
  have in11 : ∀ w ∈ u_ws RX11 TX11 11, w ∈ wsX11_forged := fun _ h => List.mem_cons_of_mem _ (List.mem_append_left _ (List.mem_append_left _ (List.mem_append_left _ (List.mem_append_right _ h))))
  have hl : lv_has ls 4 [(0, .ref (E.2.1 96)), (1, .int a1)] := hl
  have S14 : ∀ (L14 : Int32 → zS → Prop), (∀ (x3 : Int32) (Z : zS) (H : Heap) (locs : List Loc) (ls : Array Slot), zG E Z s H locs → lv_has ls 4 [(0, .ref (E.2.1 96)), (1, .int a1), (3, .int x3)] → L14 x3 Z → W p l e R s m args below meth c H locs 0 0 (zQi E K below args s) (F0 m 14 ls [])) → ∀ (x3 : Int32) (Z : zS) (H : Heap) (locs : List Loc) (ls : Array Slot), zG E Z s H locs → lv_has ls 4 [(0, .ref (E.2.1 96)), (1, .int a1), (3, .int x3)] → wX11_forged_14b L14 a1 x3 Z K → W p l e R s m args below meth c H locs 0 0 (zQi E K below args s) (F0 m 14 ls []) := by
    intro L14 ih14
    intro x3 Z H locs ls hG hl hw
    unfold wX11_forged_14b at hw
    refine lv_iload_n hx hb dX11_forged_14 rfl (lv_at hl 2 rfl) ?_
    refine lv_aload_n hx hb dX11_forged_15 rfl (lv_at hl 0 rfl) ?_
    refine z_get hF hG 96 (by decide) z_gs rfl in11 5 (by decide) (List.mem_of_getElem? (i := 1) rfl) rfl rfl dX11_forged_16 ?_
    refine lv_iload_n hx hb dX11_forged_19 rfl (lv_at hl 1 rfl) ?_
    obtain ⟨q5, hw⟩ := hw
    refine z_aald hF hG 91 2 (by decide) z_shelves rfl q5 rfl dX11_forged_20 ?_
    refine z_get hF hG (60 + (a1 : Int32).toNatClampNeg) (zc_sh (z_ib q5)) (z_sh (z_ib q5)) rfl in6 4 (by decide) (List.mem_of_getElem? (i := 2) rfl) rfl rfl dX11_forged_21 ?_
    refine lv_icmp_ge (tgt := 71) hx hb dX11_forged_24 (by decide) (fun c6 => ?_) (fun c6 => ?_)
    · replace hw := hw.1 c6
      refine lv_bipush (v := (-4)) hx hb dX11_forged_71 (by decide) ?_
      exact z_iret hF hG hr hlk hw dX11_forged_73
    replace hw := hw.2 c6
    refine lv_aload_n hx hb dX11_forged_27 rfl (lv_at hl 0 rfl) ?_
    refine z_get hF hG 96 (by decide) z_gs rfl in11 1 (by decide) (List.mem_of_getElem? (i := 3) rfl) rfl rfl dX11_forged_28 ?_
    refine lv_iload_n hx hb dX11_forged_31 rfl (lv_at hl 2 rfl) ?_
    refine z_ci (va_runV (rest := []) hF.1 (kX3_has l E Z 0 x3 (by decide) hw _) (cwV 1 hts gX11_forged_X3_has rfl rfl rfl ⟨rfl, hS_yX3_has⟩ ⟨Nat.le_trans (Nat.le_of_ble_eq_true rfl) hfr, Nat.le_trans (Nat.le_of_ble_eq_true rfl) hlo⟩) (z_preV hF hG (54 + 0) (zc_pl (by decide)) (z_pl (by decide)) rfl) rfl rfl hl.1 rfl (lv_room (Nat.le_of_ble_eq_true rfl)) dX11_forged_32 ⟨Nat.zero_le _, Nat.zero_le _⟩) hG (fun r8 Z7 H locs hw hG => ?_)
    refine lv_if_eq (tgt := 63) hx hb dX11_forged_35 (by decide) (fun c9 => ?_) (fun c9 => ?_)
    · replace hw := hw.1 c9
      refine lv_iload_n hx hb dX11_forged_63 rfl (lv_at hl 2 rfl) ?_
      exact z_iret hF hG hr hlk hw dX11_forged_64
    replace hw := hw.2 c9
    refine lv_aload_n hx hb dX11_forged_38 rfl (lv_at hl 0 rfl) ?_
    refine z_get hF hG 96 (by decide) z_gs rfl in11 1 (by decide) (List.mem_of_getElem? (i := 3) rfl) rfl rfl dX11_forged_39 ?_
    refine z_get hF hG (54 + 0) (zc_pl (by decide)) (z_pl (by decide)) rfl in3 0 (by decide) (List.mem_of_getElem? (i := 4) rfl) rfl rfl dX11_forged_42 ?_
    refine lv_iload_n hx hb dX11_forged_45 rfl (lv_at hl 2 rfl) ?_
    obtain ⟨q10, hw⟩ := hw
    refine z_aald hF hG (57 + 0) 1 (zc_pr (by decide)) (z_pr (by decide)) rfl q10 rfl dX11_forged_46 ?_
    refine z_get hF hG (6 * 0 + (x3 : Int32).toNatClampNeg) (zc_sv (z_vb (by decide) q10)) (z_sv (z_vb (by decide) q10)) rfl in5 6 (by decide) (List.mem_of_getElem? (i := 5) rfl) rfl rfl dX11_forged_47 ?_
    refine lv_aload_n hx hb dX11_forged_50 rfl (lv_at hl 0 rfl) ?_
    refine z_get hF hG 96 (by decide) z_gs rfl in11 5 (by decide) (List.mem_of_getElem? (i := 1) rfl) rfl rfl dX11_forged_51 ?_
    refine lv_iload_n hx hb dX11_forged_54 rfl (lv_at hl 1 rfl) ?_
    obtain ⟨q11, hw⟩ := hw
    refine z_aald hF hG 91 2 (by decide) z_shelves rfl q11 rfl dX11_forged_55 ?_
    refine lv_iload_n hx hb dX11_forged_56 rfl (lv_at hl 2 rfl) ?_
    refine z_ci (va_runV (rest := [.int ((Z7 (6 * 0 + (x3 : Int32).toNatClampNeg) 6))]) hF.1 (kX6_at l E Z7 ((a1 : Int32).toNatClampNeg) x3 (z_ib q11) hw _) (cwV 1 hts gX11_forged_X6_at rfl rfl rfl ⟨rfl, hS_yX6_at⟩ ⟨Nat.le_trans (Nat.le_of_ble_eq_true rfl) hfr, Nat.le_trans (Nat.le_of_ble_eq_true rfl) hlo⟩) (z_preV hF hG (60 + (a1 : Int32).toNatClampNeg) (zc_sh (z_ib q11)) (z_sh (z_ib q11)) rfl) rfl rfl hl.1 rfl (lv_room (Nat.le_of_ble_eq_true rfl)) dX11_forged_57 ⟨Nat.zero_le _, Nat.zero_le _⟩) hG (fun r13 Z12 H locs hw hG => ?_)
    refine lv_icmp_eq (tgt := 65) hx hb dX11_forged_60 (by decide) (fun c14 => ?_) (fun c14 => ?_)
    · replace hw := hw.1 c14
      obtain ⟨y15, ey15⟩ : ∃ y : Int32, y = x3 + 1 := ⟨_, rfl⟩
      replace hw := hw y15 ey15
      refine lv_iinc (v := y15) (lv' := [(3, .int y15), (0, .ref (E.2.1 96)), (1, .int a1)]) hx hb dX11_forged_65 hl (k := 2) rfl (by rw [ey15]; rfl) (by decide) rfl (fun ls hl => ?_)
      refine lv_goto (tgt := 14) hx hb dX11_forged_68 (by decide) ?_
      exact ih14 y15 Z12 _ _ _ hG (lv_sub hl [1, 2, 0] rfl) hw
    replace hw := hw.2 c14
    refine lv_iload_n hx hb dX11_forged_63 rfl (lv_at hl 2 rfl) ?_
    exact z_iret hF hG hr hlk hw dX11_forged_64
  have J14 : ∀ n : Nat, ∀ (x3 : Int32) (Z : zS) (H : Heap) (locs : List Loc) (ls : Array Slot), zG E Z s H locs → lv_has ls 4 [(0, .ref (E.2.1 96)), (1, .int a1), (3, .int x3)] → wX11_forged_14 a1 K n x3 Z → W p l e R s m args below meth c H locs 0 0 (zQi E K below args s) (F0 m 14 ls []) := by
    intro n
    induction n with
    | zero => intro x3 Z H locs ls hG hl hw; exact hw.elim
    | succ n ih => intro x3 Z H locs ls hG hl hw; exact S14 _ ih x3 Z H locs ls hG hl hw
  unfold wX11_forged at hw
  refine lv_aload_n hx hb dX11_forged_0 rfl (lv_at hl 0 rfl) ?_
  refine lv_iload_n hx hb dX11_forged_1 rfl (lv_at hl 1 rfl) ?_
  refine z_ci (va_runV (rest := []) hF.1 (kX11_rowRefusal l E Z a1  hw _) (cwV 1 hts gX11_forged_X11_rowRefusal rfl rfl rfl ⟨rfl, hS_yX11_rowRefusal⟩ ⟨Nat.le_trans (Nat.le_of_ble_eq_true rfl) hfr, Nat.le_trans (Nat.le_of_ble_eq_true rfl) hlo⟩) (z_preV hF hG 96 (by decide) z_gs rfl) rfl rfl hl.1 rfl (lv_room (Nat.le_of_ble_eq_true rfl)) dX11_forged_2 ⟨Nat.zero_le _, Nat.zero_le _⟩) hG (fun r2 Z1 H locs hw hG => ?_)
  refine lv_istore_n (lv' := [(2, .int r2), (0, .ref (E.2.1 96)), (1, .int a1)]) hx hb dX11_forged_5 rfl hl (by decide) rfl (fun ls hl => ?_)
  refine lv_iload_n hx hb dX11_forged_6 rfl (lv_at hl 0 rfl) ?_
  refine lv_if_eq (tgt := 12) hx hb dX11_forged_7 (by decide) (fun c3 => ?_) (fun c3 => ?_)
  · replace hw := hw.1 c3
    refine lv_iconst (v := 0) hx hb dX11_forged_12 (by decide) ?_
    refine lv_topi (fun y4 ey4 => ?_)
    replace hw := hw y4 ey4
    refine lv_istore_n (lv' := [(3, .int y4), (2, .int r2), (0, .ref (E.2.1 96)), (1, .int a1)]) hx hb dX11_forged_13 rfl hl (by decide) rfl (fun ls hl => ?_)
    obtain ⟨n14, hw⟩ := hw
    exact J14 n14 y4 Z1 _ _ _ hG (lv_sub hl [2, 3, 0] rfl) hw
  replace hw := hw.2 c3
  refine lv_iload_n hx hb dX11_forged_10 rfl (lv_at hl 0 rfl) ?_
  exact z_iret hF hG hr hlk hw dX11_forged_11
set_option maxHeartbeats 4000000 in
set_option maxRecDepth 100000 in
theorem kX11_judge (l : Launch) (E : zE) (Z : zS) (a1 : Int32) {K : Int32 → zS → Prop} (hw : wX11_judge a1 Z K) : zCi l yX11_judge wsX11_judge ({ frames := 5, cells := 0, slots := 0, locals := 100 } : Room) E Z [.ref (E.2.1 96), .int a1] K := by
  refine z_bodyi (cc := cX11_judge) (nL := 4) (ret := .int) (by decide) rfl (Nat.le_of_ble_eq_true rfl) ?_
  intro p e R s m args below meth c ls hfr hlo hF hr hlk hG hl
  have hx := hF.1.1
  have hb := hF.1.2.1
  have hown := hF.1.2.2.2.1
  have hts := hF.1.2.2.2.2
  have in6 : ∀ w ∈ u_ws RX6 TX6 6, w ∈ wsX11_judge := fun _ h => List.mem_cons_of_mem _ (List.mem_append_left _ (List.mem_append_left _ (List.mem_append_right _ h)))
  have in11 : ∀ w ∈ u_ws RX11 TX11 11, w ∈ wsX11_judge := fun _ h => List.mem_cons_of_mem _ (List.mem_append_left _ (List.mem_append_left _ (List.mem_append_left _ (List.mem_append_right _ h))))
  have hl : lv_has ls 4 [(0, .ref (E.2.1 96)), (1, .int a1)] := hl
  have S25 : ∀ (L25 : Int32 → zS → Prop), (∀ (x3 : Int32) (Z : zS) (H : Heap) (locs : List Loc) (ls : Array Slot), zG E Z s H locs → lv_has ls 4 [(0, .ref (E.2.1 96)), (1, .int a1), (3, .int x3)] → L25 x3 Z → W p l e R s m args below meth c H locs 0 0 (zQi E K below args s) (F0 m 25 ls [])) → ∀ (x3 : Int32) (Z : zS) (H : Heap) (locs : List Loc) (ls : Array Slot), zG E Z s H locs → lv_has ls 4 [(0, .ref (E.2.1 96)), (1, .int a1), (3, .int x3)] → wX11_judge_25b L25 a1 x3 Z K → W p l e R s m args below meth c H locs 0 0 (zQi E K below args s) (F0 m 25 ls []) := by
    intro L25 ih25
    have J73 : ∀ (x3 : Int32) (Z : zS) (H : Heap) (locs : List Loc) (ls : Array Slot), zG E Z s H locs → lv_has ls 4 [(0, .ref (E.2.1 96)), (1, .int a1), (3, .int x3)] → wX11_judge_73 L25 a1 x3 Z K → W p l e R s m args below meth c H locs 0 0 (zQi E K below args s) (F0 m 73 ls []) := by
      intro x3 Z H locs ls hG hl hw
      unfold wX11_judge_73 at hw
      refine lv_aload_n hx hb dX11_judge_73 rfl (lv_at hl 0 rfl) ?_
      refine z_get hF hG 96 (by decide) z_gs rfl in11 2 (by decide) (List.mem_of_getElem? (i := 1) rfl) rfl rfl dX11_judge_74 ?_
      refine lv_iconst (v := 0) hx hb dX11_judge_77 (by decide) ?_
      refine z_cv (va_runV (rest := []) hF.1 (kX3_goOn l E Z 1 0 (by decide) hw _) (cwV 1 hts gX11_judge_X3_goOn rfl rfl rfl ⟨rfl, hS_yX3_goOn⟩ ⟨Nat.le_trans (Nat.le_of_ble_eq_true rfl) hfr, Nat.le_trans (Nat.le_of_ble_eq_true rfl) hlo⟩) (z_preV hF hG (54 + 1) (zc_pl (by decide)) (z_pl (by decide)) rfl) rfl rfl hl.1 rfl (lv_room (Nat.le_of_ble_eq_true rfl)) dX11_judge_78 ⟨Nat.zero_le _, Nat.zero_le _⟩) hG (fun Z18 H locs hw hG => ?_)
      obtain ⟨y19, ey19⟩ : ∃ y : Int32, y = x3 + 1 := ⟨_, rfl⟩
      replace hw := hw y19 ey19
      refine lv_iinc (v := y19) (lv' := [(3, .int y19), (0, .ref (E.2.1 96)), (1, .int a1)]) hx hb dX11_judge_81 hl (k := 2) rfl (by rw [ey19]; rfl) (by decide) rfl (fun ls hl => ?_)
      refine lv_goto (tgt := 25) hx hb dX11_judge_84 (by decide) ?_
      exact ih25 y19 Z18 _ _ _ hG (lv_sub hl [1, 2, 0] rfl) hw
    intro x3 Z H locs ls hG hl hw
    unfold wX11_judge_25b at hw
    refine lv_iload_n hx hb dX11_judge_25 rfl (lv_at hl 2 rfl) ?_
    refine lv_aload_n hx hb dX11_judge_26 rfl (lv_at hl 0 rfl) ?_
    refine z_get hF hG 96 (by decide) z_gs rfl in11 5 (by decide) (List.mem_of_getElem? (i := 3) rfl) rfl rfl dX11_judge_27 ?_
    refine lv_iload_n hx hb dX11_judge_30 rfl (lv_at hl 1 rfl) ?_
    obtain ⟨q6, hw⟩ := hw
    refine z_aald hF hG 91 2 (by decide) z_shelves rfl q6 rfl dX11_judge_31 ?_
    refine z_get hF hG (60 + (a1 : Int32).toNatClampNeg) (zc_sh (z_ib q6)) (z_sh (z_ib q6)) rfl in6 4 (by decide) (List.mem_of_getElem? (i := 4) rfl) rfl rfl dX11_judge_32 ?_
    refine lv_icmp_ge (tgt := 87) hx hb dX11_judge_35 (by decide) (fun c7 => ?_) (fun c7 => ?_)
    · replace hw := hw.1 c7
      refine lv_bipush (v := (-4)) hx hb dX11_judge_87 (by decide) ?_
      exact z_iret hF hG hr hlk hw dX11_judge_89
    replace hw := hw.2 c7
    refine lv_aload_n hx hb dX11_judge_38 rfl (lv_at hl 0 rfl) ?_
    refine z_get hF hG 96 (by decide) z_gs rfl in11 5 (by decide) (List.mem_of_getElem? (i := 3) rfl) rfl rfl dX11_judge_39 ?_
    refine lv_iload_n hx hb dX11_judge_42 rfl (lv_at hl 1 rfl) ?_
    obtain ⟨q8, hw⟩ := hw
    refine z_aald hF hG 91 2 (by decide) z_shelves rfl q8 rfl dX11_judge_43 ?_
    refine lv_iload_n hx hb dX11_judge_44 rfl (lv_at hl 2 rfl) ?_
    refine z_ci (va_runV (rest := []) hF.1 (kX6_isSkipped l E Z ((a1 : Int32).toNatClampNeg) x3 (z_ib q8) hw _) (cwV 1 hts gX11_judge_X6_isSkipped rfl rfl rfl ⟨rfl, hS_yX6_isSkipped⟩ ⟨Nat.le_trans (Nat.le_of_ble_eq_true rfl) hfr, Nat.le_trans (Nat.le_of_ble_eq_true rfl) hlo⟩) (z_preV hF hG (60 + (a1 : Int32).toNatClampNeg) (zc_sh (z_ib q8)) (z_sh (z_ib q8)) rfl) rfl rfl hl.1 rfl (lv_room (Nat.le_of_ble_eq_true rfl)) dX11_judge_45 ⟨Nat.zero_le _, Nat.zero_le _⟩) hG (fun r10 Z9 H locs hw hG => ?_)
    refine lv_if_ne (tgt := 73) hx hb dX11_judge_48 (by decide) (fun c11 => ?_) (fun c11 => ?_)
    · replace hw := hw.1 c11
      exact J73 x3 Z9 _ _ _ hG (lv_sub hl [0, 1, 2] rfl) hw
    replace hw := hw.2 (fun h => h c11)
    refine lv_aload_n hx hb dX11_judge_51 rfl (lv_at hl 0 rfl) ?_
    refine z_get hF hG 96 (by decide) z_gs rfl in11 5 (by decide) (List.mem_of_getElem? (i := 3) rfl) rfl rfl dX11_judge_52 ?_
    refine lv_iload_n hx hb dX11_judge_55 rfl (lv_at hl 1 rfl) ?_
    obtain ⟨q12, hw⟩ := hw
    refine z_aald hF hG 91 2 (by decide) z_shelves rfl q12 rfl dX11_judge_56 ?_
    refine lv_iload_n hx hb dX11_judge_57 rfl (lv_at hl 2 rfl) ?_
    refine z_ci (va_runV (rest := []) hF.1 (kX6_at l E Z9 ((a1 : Int32).toNatClampNeg) x3 (z_ib q12) hw _) (cwV 1 hts gX11_judge_X6_at rfl rfl rfl ⟨rfl, hS_yX6_at⟩ ⟨Nat.le_trans (Nat.le_of_ble_eq_true rfl) hfr, Nat.le_trans (Nat.le_of_ble_eq_true rfl) hlo⟩) (z_preV hF hG (60 + (a1 : Int32).toNatClampNeg) (zc_sh (z_ib q12)) (z_sh (z_ib q12)) rfl) rfl rfl hl.1 rfl (lv_room (Nat.le_of_ble_eq_true rfl)) dX11_judge_58 ⟨Nat.zero_le _, Nat.zero_le _⟩) hG (fun r14 Z13 H locs hw hG => ?_)
    refine lv_aload_n hx hb dX11_judge_61 rfl (lv_at hl 0 rfl) ?_
    refine z_get hF hG 96 (by decide) z_gs rfl in11 2 (by decide) (List.mem_of_getElem? (i := 1) rfl) rfl rfl dX11_judge_62 ?_
    refine z_ci (va_runV (rest := [.int r14]) hF.1 (kX3_loadOfAll l E Z13 1 (by decide) hw _) (cwV 0 hts gX11_judge_X3_loadOfAll rfl rfl rfl ⟨rfl, hS_yX3_loadOfAll⟩ ⟨Nat.le_trans (Nat.le_of_ble_eq_true rfl) hfr, Nat.le_trans (Nat.le_of_ble_eq_true rfl) hlo⟩) (z_preV hF hG (54 + 1) (zc_pl (by decide)) (z_pl (by decide)) rfl) rfl rfl hl.1 rfl (lv_room (Nat.le_of_ble_eq_true rfl)) dX11_judge_65 ⟨Nat.zero_le _, Nat.zero_le _⟩) hG (fun r16 Z15 H locs hw hG => ?_)
    refine lv_icmp_eq (tgt := 73) hx hb dX11_judge_68 (by decide) (fun c17 => ?_) (fun c17 => ?_)
    · replace hw := hw.1 c17
      exact J73 x3 Z15 _ _ _ hG (lv_sub hl [0, 1, 2] rfl) hw
    replace hw := hw.2 c17
    refine lv_iload_n hx hb dX11_judge_71 rfl (lv_at hl 2 rfl) ?_
    exact z_iret hF hG hr hlk hw dX11_judge_72
  have J25 : ∀ n : Nat, ∀ (x3 : Int32) (Z : zS) (H : Heap) (locs : List Loc) (ls : Array Slot), zG E Z s H locs → lv_has ls 4 [(0, .ref (E.2.1 96)), (1, .int a1), (3, .int x3)] → wX11_judge_25 a1 K n x3 Z → W p l e R s m args below meth c H locs 0 0 (zQi E K below args s) (F0 m 25 ls []) := by
    intro n
    induction n with
    | zero => intro x3 Z H locs ls hG hl hw; exact hw.elim
    | succ n ih => intro x3 Z H locs ls hG hl hw; exact S25 _ ih x3 Z H locs ls hG hl hw
  unfold wX11_judge at hw
  refine lv_aload_n hx hb dX11_judge_0 rfl (lv_at hl 0 rfl) ?_
  refine lv_iload_n hx hb dX11_judge_1 rfl (lv_at hl 1 rfl) ?_
  refine z_ci (va_runV (rest := []) hF.1 (kX11_rowRefusal l E Z a1  hw _) (cwV 1 hts gX11_judge_X11_rowRefusal rfl rfl rfl ⟨rfl, hS_yX11_rowRefusal⟩ ⟨Nat.le_trans (Nat.le_of_ble_eq_true rfl) hfr, Nat.le_trans (Nat.le_of_ble_eq_true rfl) hlo⟩) (z_preV hF hG 96 (by decide) z_gs rfl) rfl rfl hl.1 rfl (lv_room (Nat.le_of_ble_eq_true rfl)) dX11_judge_2 ⟨Nat.zero_le _, Nat.zero_le _⟩) hG (fun r2 Z1 H locs hw hG => ?_)
  refine lv_istore_n (lv' := [(2, .int r2), (0, .ref (E.2.1 96)), (1, .int a1)]) hx hb dX11_judge_5 rfl hl (by decide) rfl (fun ls hl => ?_)
  refine lv_iload_n hx hb dX11_judge_6 rfl (lv_at hl 0 rfl) ?_
  refine lv_if_eq (tgt := 12) hx hb dX11_judge_7 (by decide) (fun c3 => ?_) (fun c3 => ?_)
  · replace hw := hw.1 c3
    refine lv_aload_n hx hb dX11_judge_12 rfl (lv_at hl 1 rfl) ?_
    refine z_get hF hG 96 (by decide) z_gs rfl in11 2 (by decide) (List.mem_of_getElem? (i := 1) rfl) rfl rfl dX11_judge_13 ?_
    refine lv_aload_n hx hb dX11_judge_16 rfl (lv_at hl 1 rfl) ?_
    refine z_get hF hG 96 (by decide) z_gs rfl in11 1 (by decide) (List.mem_of_getElem? (i := 2) rfl) rfl rfl dX11_judge_17 ?_
    refine z_cv (va_runV (rest := []) hF.1 (kX3_becomes l E Z1 1 0 (by decide) (by decide) hw _) (cwV 1 hts gX11_judge_X3_becomes rfl rfl rfl ⟨rfl, hS_yX3_becomes⟩ ⟨Nat.le_trans (Nat.le_of_ble_eq_true rfl) hfr, Nat.le_trans (Nat.le_of_ble_eq_true rfl) hlo⟩) (z_preV hF hG (54 + 1) (zc_pl (by decide)) (z_pl (by decide)) rfl) rfl rfl hl.1 rfl (lv_room (Nat.le_of_ble_eq_true rfl)) dX11_judge_20 ⟨Nat.zero_le _, Nat.zero_le _⟩) hG (fun Z4 H locs hw hG => ?_)
    refine lv_iconst (v := 0) hx hb dX11_judge_23 (by decide) ?_
    refine lv_topi (fun y5 ey5 => ?_)
    replace hw := hw y5 ey5
    refine lv_istore_n (lv' := [(3, .int y5), (2, .int r2), (0, .ref (E.2.1 96)), (1, .int a1)]) hx hb dX11_judge_24 rfl hl (by decide) rfl (fun ls hl => ?_)
    obtain ⟨n25, hw⟩ := hw
    exact J25 n25 y5 Z4 _ _ _ hG (lv_sub hl [2, 3, 0] rfl) hw
  replace hw := hw.2 c3
  refine lv_iload_n hx hb dX11_judge_10 rfl (lv_at hl 0 rfl) ?_
  exact z_iret hF hG hr hlk hw dX11_judge_11
set_option maxHeartbeats 4000000 in
set_option maxRecDepth 100000 in
theorem kX11_draw (l : Launch) (E : zE) (Z : zS) (a1 : Int32) {K : Int32 → zS → Prop} (hw : wX11_draw a1 Z K) : zCi l yX11_draw wsX11_draw ({ frames := 0, cells := 0, slots := 0, locals := 0 } : Room) E Z [.ref (E.2.1 96), .int a1] K := by
  refine z_bodyi (cc := cX11_draw) (nL := 2) (ret := .int) (by decide) rfl (Nat.le_of_ble_eq_true rfl) ?_
  intro p e R s m args below meth c ls hfr hlo hF hr hlk hG hl
  have hx := hF.1.1
  have hb := hF.1.2.1
  have hown := hF.1.2.2.2.1
  have hts := hF.1.2.2.2.2
  have in11 : ∀ w ∈ u_ws RX11 TX11 11, w ∈ wsX11_draw := fun _ h => List.mem_cons_of_mem _ (List.mem_append_right _ h)
  have hl : lv_has ls 2 [(0, .ref (E.2.1 96)), (1, .int a1)] := hl
  unfold wX11_draw at hw
  refine lv_aload_n hx hb dX11_draw_0 rfl (lv_at hl 0 rfl) ?_
  refine lv_aload_n hx hb dX11_draw_1 rfl (lv_at hl 0 rfl) ?_
  refine z_get hF hG 96 (by decide) z_gs rfl in11 10 (by decide) (List.mem_of_getElem? (i := 1) rfl) rfl rfl dX11_draw_2 ?_
  refine lv_ldcw hx hb hown (hts (.constant RX11 319 (1103515245)) (List.mem_of_getElem? (i := 2) rfl)) dX11_draw_5 ?_
  refine lv_imul hx hb dX11_draw_8 ?_
  refine lv_sipush (v := 12345) hx hb dX11_draw_9 (by decide) ?_
  refine lv_iadd hx hb dX11_draw_12 ?_
  refine z_put hF hG 96 (by decide) z_gs rfl in11 tyX11_ok nmX11 10 (by decide) (List.mem_of_getElem? (i := 1) rfl) rfl rfl (tyX11_ok 10 (by decide)) rfl rfl (Nat.le_of_ble_eq_true rfl) ((((Z 96 10) * 1103515245) + 12345)) z_gs dX11_draw_13 (fun Z1 H locs eZ1 hG => ?_)
  replace hw := hw Z1 eZ1
  refine lv_iload_n hx hb dX11_draw_16 rfl (lv_at hl 1 rfl) ?_
  refine lv_iconst (v := 1) hx hb dX11_draw_17 (by decide) ?_
  refine lv_icmp_ge (tgt := 25) hx hb dX11_draw_18 (by decide) (fun c2 => ?_) (fun c2 => ?_)
  · replace hw := hw.1 c2
    refine lv_aload_n hx hb dX11_draw_25 rfl (lv_at hl 0 rfl) ?_
    refine z_get hF hG 96 (by decide) z_gs rfl in11 10 (by decide) (List.mem_of_getElem? (i := 1) rfl) rfl rfl dX11_draw_26 ?_
    refine lv_ldcw hx hb hown (hts (.constant RX11 320 (2147483647)) (List.mem_of_getElem? (i := 3) rfl)) dX11_draw_29 ?_
    refine lv_iand hx hb dX11_draw_32 ?_
    refine lv_bipush (v := 16) hx hb dX11_draw_33 (by decide) ?_
    refine lv_ishr hx hb dX11_draw_35 ?_
    refine lv_iload_n hx hb dX11_draw_36 rfl (lv_at hl 1 rfl) ?_
    refine lv_irem hx hb dX11_draw_37 hw.1 ?_
    replace hw := hw.2
    exact z_iret hF hG hr hlk hw dX11_draw_38
  replace hw := hw.2 c2
  refine lv_iconst (v := 0) hx hb dX11_draw_21 (by decide) ?_
  refine lv_goto (tgt := 38) hx hb dX11_draw_22 (by decide) ?_
  exact z_iret hF hG hr hlk hw dX11_draw_38
theorem hS_yX11_draw : yX11_draw.cls ≠ "java/lang/invoke/MethodHandle" ∧ yX11_draw.cls ≠ "java/lang/invoke/VarHandle" ∧ (parseMethodDescriptor yX11_draw.desc).map (fun d => d.parameters.length) = some 1 := by decide +kernel
set_option maxHeartbeats 4000000 in
set_option maxRecDepth 100000 in
theorem kX11_liveOneDay (l : Launch) (E : zE) (Z : zS) {K : zS → Prop} (hw : wX11_liveOneDay Z K) : zCv l yX11_liveOneDay wsX11_liveOneDay ({ frames := 6, cells := 0, slots := 0, locals := 122 } : Room) E Z [.ref (E.2.1 96)] K := by
  refine z_bodyv (cc := cX11_liveOneDay) (nL := 5) (by decide) rfl (Nat.le_of_ble_eq_true rfl) ?_
  intro p e R s m args below meth c ls hfr hlo hF hr hlk hG hl
  have hx := hF.1.1
  have hb := hF.1.2.1
  have hown := hF.1.2.2.2.1
  have hts := hF.1.2.2.2.2
  have in3 : ∀ w ∈ u_ws RX3 TX3 5, w ∈ wsX11_liveOneDay := fun _ h => List.mem_cons_of_mem _ (List.mem_append_left _ (List.mem_append_right _ h))
  have in11 : ∀ w ∈ u_ws RX11 TX11 11, w ∈ wsX11_liveOneDay := fun _ h => List.mem_cons_of_mem _ (List.mem_append_left _ (List.mem_append_left _ (List.mem_append_right _ h)))
  have hl : lv_has ls 5 [(0, .ref (E.2.1 96))] := hl
  have S2 : ∀ (L2 : Int32 → zS → Prop), (∀ (x1 : Int32) (Z : zS) (H : Heap) (locs : List Loc) (ls : Array Slot), zG E Z s H locs → lv_has ls 5 [(0, .ref (E.2.1 96)), (1, .int x1)] → L2 x1 Z → W p l e R s m args below meth c H locs 0 0 (zQv E K below args s) (F0 m 2 ls [])) → ∀ (x1 : Int32) (Z : zS) (H : Heap) (locs : List Loc) (ls : Array Slot), zG E Z s H locs → lv_has ls 5 [(0, .ref (E.2.1 96)), (1, .int x1)] → wX11_liveOneDay_2b L2 x1 Z K → W p l e R s m args below meth c H locs 0 0 (zQv E K below args s) (F0 m 2 ls []) := by
    intro L2 ih2
    have J72 : ∀ (x1 : Int32) (Z : zS) (H : Heap) (locs : List Loc) (ls : Array Slot), zG E Z s H locs → lv_has ls 5 [(0, .ref (E.2.1 96)), (1, .int x1)] → wX11_liveOneDay_72 L2 x1 Z K → W p l e R s m args below meth c H locs 0 0 (zQv E K below args s) (F0 m 72 ls []) := by
      intro x1 Z H locs ls hG hl hw
      unfold wX11_liveOneDay_72 at hw
      refine lv_aload_n hx hb dX11_liveOneDay_72 rfl (lv_at hl 0 rfl) ?_
      refine z_get hF hG 96 (by decide) z_gs rfl in11 2 (by decide) (List.mem_of_getElem? (i := 1) rfl) rfl rfl dX11_liveOneDay_73 ?_
      refine lv_iconst (v := 5) hx hb dX11_liveOneDay_76 (by decide) ?_
      refine z_cv (va_runV (rest := []) hF.1 (kX3_goOnFor l E Z 1 5 (by decide) hw _) (cwV 1 hts gX11_liveOneDay_X3_goOnFor rfl rfl rfl ⟨rfl, hS_yX3_goOnFor⟩ ⟨Nat.le_trans (Nat.le_of_ble_eq_true rfl) hfr, Nat.le_trans (Nat.le_of_ble_eq_true rfl) hlo⟩) (z_preV hF hG (54 + 1) (zc_pl (by decide)) (z_pl (by decide)) rfl) rfl rfl hl.1 rfl (lv_room (Nat.le_of_ble_eq_true rfl)) dX11_liveOneDay_77 ⟨Nat.zero_le _, Nat.zero_le _⟩) hG (fun Z15 H locs hw hG => ?_)
      obtain ⟨y16, ey16⟩ : ∃ y : Int32, y = x1 + 1 := ⟨_, rfl⟩
      replace hw := hw y16 ey16
      refine lv_iinc (v := y16) (lv' := [(1, .int y16), (0, .ref (E.2.1 96))]) hx hb dX11_liveOneDay_80 hl (k := 1) rfl (by rw [ey16]; rfl) (by decide) rfl (fun ls hl => ?_)
      refine lv_goto (tgt := 2) hx hb dX11_liveOneDay_83 (by decide) ?_
      exact ih2 y16 Z15 _ _ _ hG (lv_sub hl [1, 0] rfl) hw
    intro x1 Z H locs ls hG hl hw
    unfold wX11_liveOneDay_2b at hw
    refine lv_iload_n hx hb dX11_liveOneDay_2 rfl (lv_at hl 1 rfl) ?_
    refine lv_bipush (v := 6) hx hb dX11_liveOneDay_3 (by decide) ?_
    refine lv_icmp_ge (tgt := 86) hx hb dX11_liveOneDay_5 (by decide) (fun c2 => ?_) (fun c2 => ?_)
    · replace hw := hw.1 c2
      exact z_vret hF hG hr hlk hw dX11_liveOneDay_86
    replace hw := hw.2 c2
    refine lv_iconst (v := 1) hx hb dX11_liveOneDay_8 (by decide) ?_
    refine lv_aload_n hx hb dX11_liveOneDay_9 rfl (lv_at hl 0 rfl) ?_
    refine lv_bipush (v := 9) hx hb dX11_liveOneDay_10 (by decide) ?_
    refine z_ci (va_runV (rest := [.int 1]) hF.1 (kX11_draw l E Z 9  hw _) (cwV 1 hts gX11_liveOneDay_X11_draw rfl rfl rfl ⟨rfl, hS_yX11_draw⟩ ⟨Nat.le_trans (Nat.le_of_ble_eq_true rfl) hfr, Nat.le_trans (Nat.le_of_ble_eq_true rfl) hlo⟩) (z_preV hF hG 96 (by decide) z_gs rfl) rfl rfl hl.1 rfl (lv_room (Nat.le_of_ble_eq_true rfl)) dX11_liveOneDay_12 ⟨Nat.zero_le _, Nat.zero_le _⟩) hG (fun r4 Z3 H locs hw hG => ?_)
    refine lv_iadd hx hb dX11_liveOneDay_15 ?_
    refine lv_topi (fun y5 ey5 => ?_)
    replace hw := hw y5 ey5
    refine lv_istore_n (lv' := [(2, .int y5), (0, .ref (E.2.1 96)), (1, .int x1)]) hx hb dX11_liveOneDay_16 rfl hl (by decide) rfl (fun ls hl => ?_)
    refine lv_aload_n hx hb dX11_liveOneDay_17 rfl (lv_at hl 1 rfl) ?_
    refine lv_iconst (v := 4) hx hb dX11_liveOneDay_18 (by decide) ?_
    refine z_ci (va_runV (rest := []) hF.1 (kX11_draw l E Z3 4  hw _) (cwV 1 hts gX11_liveOneDay_X11_draw rfl rfl rfl ⟨rfl, hS_yX11_draw⟩ ⟨Nat.le_trans (Nat.le_of_ble_eq_true rfl) hfr, Nat.le_trans (Nat.le_of_ble_eq_true rfl) hlo⟩) (z_preV hF hG 96 (by decide) z_gs rfl) rfl rfl hl.1 rfl (lv_room (Nat.le_of_ble_eq_true rfl)) dX11_liveOneDay_19 ⟨Nat.zero_le _, Nat.zero_le _⟩) hG (fun r7 Z6 H locs hw hG => ?_)
    refine lv_istore_n (lv' := [(3, .int r7), (2, .int y5), (0, .ref (E.2.1 96)), (1, .int x1)]) hx hb dX11_liveOneDay_22 rfl hl (by decide) rfl (fun ls hl => ?_)
    refine lv_aload_n hx hb dX11_liveOneDay_23 rfl (lv_at hl 2 rfl) ?_
    refine lv_aload_n hx hb dX11_liveOneDay_24 rfl (lv_at hl 2 rfl) ?_
    refine z_get hF hG 96 (by decide) z_gs rfl in11 2 (by decide) (List.mem_of_getElem? (i := 1) rfl) rfl rfl dX11_liveOneDay_25 ?_
    refine z_get hF hG (54 + 1) (zc_pl (by decide)) (z_pl (by decide)) rfl in3 1 (by decide) (List.mem_of_getElem? (i := 2) rfl) rfl rfl dX11_liveOneDay_28 ?_
    refine z_ci (va_runV (rest := []) hF.1 (kX11_draw l E Z6 ((Z6 (54 + 1) 1))  hw _) (cwV 1 hts gX11_liveOneDay_X11_draw rfl rfl rfl ⟨rfl, hS_yX11_draw⟩ ⟨Nat.le_trans (Nat.le_of_ble_eq_true rfl) hfr, Nat.le_trans (Nat.le_of_ble_eq_true rfl) hlo⟩) (z_preV hF hG 96 (by decide) z_gs rfl) rfl rfl hl.1 rfl (lv_room (Nat.le_of_ble_eq_true rfl)) dX11_liveOneDay_31 ⟨Nat.zero_le _, Nat.zero_le _⟩) hG (fun r9 Z8 H locs hw hG => ?_)
    refine lv_istore (lv' := [(4, .int r9), (3, .int r7), (2, .int y5), (0, .ref (E.2.1 96)), (1, .int x1)]) hx hb dX11_liveOneDay_34 hl (by decide) rfl (fun ls hl => ?_)
    refine lv_aload_n hx hb dX11_liveOneDay_36 rfl (lv_at hl 3 rfl) ?_
    refine z_get hF hG 96 (by decide) z_gs rfl in11 2 (by decide) (List.mem_of_getElem? (i := 1) rfl) rfl rfl dX11_liveOneDay_37 ?_
    refine lv_iload hx hb dX11_liveOneDay_40 (lv_at hl 0 rfl) ?_
    refine lv_iload_n hx hb dX11_liveOneDay_42 rfl (lv_at hl 2 rfl) ?_
    refine lv_iload_n hx hb dX11_liveOneDay_43 rfl (lv_at hl 1 rfl) ?_
    refine z_ci (va_runV (rest := []) hF.1 (kX3_sendingRefusal l E Z8 1 r9 y5 r7 (by decide) hw _) (cwV 3 hts gX11_liveOneDay_X3_sendingRefusal rfl rfl rfl ⟨rfl, hS_yX3_sendingRefusal⟩ ⟨Nat.le_trans (Nat.le_of_ble_eq_true rfl) hfr, Nat.le_trans (Nat.le_of_ble_eq_true rfl) hlo⟩) (z_preV hF hG (54 + 1) (zc_pl (by decide)) (z_pl (by decide)) rfl) rfl rfl hl.1 rfl (lv_room (Nat.le_of_ble_eq_true rfl)) dX11_liveOneDay_44 ⟨Nat.zero_le _, Nat.zero_le _⟩) hG (fun r11 Z10 H locs hw hG => ?_)
    refine lv_if_ne (tgt := 72) hx hb dX11_liveOneDay_47 (by decide) (fun c12 => ?_) (fun c12 => ?_)
    · replace hw := hw.1 c12
      exact J72 x1 Z10 _ _ _ hG (lv_sub hl [3, 4] rfl) hw
    replace hw := hw.2 (fun h => h c12)
    refine lv_aload_n hx hb dX11_liveOneDay_50 rfl (lv_at hl 3 rfl) ?_
    refine z_get hF hG 96 (by decide) z_gs rfl in11 2 (by decide) (List.mem_of_getElem? (i := 1) rfl) rfl rfl dX11_liveOneDay_51 ?_
    refine z_get hF hG (54 + 1) (zc_pl (by decide)) (z_pl (by decide)) rfl in3 0 (by decide) (List.mem_of_getElem? (i := 3) rfl) rfl rfl dX11_liveOneDay_54 ?_
    refine lv_iload hx hb dX11_liveOneDay_57 (lv_at hl 0 rfl) ?_
    obtain ⟨q13, hw⟩ := hw
    refine z_aald hF hG (57 + 1) 1 (zc_pr (by decide)) (z_pr (by decide)) rfl q13 rfl dX11_liveOneDay_59 ?_
    refine lv_iload_n hx hb dX11_liveOneDay_60 rfl (lv_at hl 2 rfl) ?_
    refine lv_iload_n hx hb dX11_liveOneDay_61 rfl (lv_at hl 1 rfl) ?_
    refine lv_aload_n hx hb dX11_liveOneDay_62 rfl (lv_at hl 3 rfl) ?_
    refine z_get hF hG 96 (by decide) z_gs rfl in11 2 (by decide) (List.mem_of_getElem? (i := 1) rfl) rfl rfl dX11_liveOneDay_63 ?_
    refine z_get hF hG (54 + 1) (zc_pl (by decide)) (z_pl (by decide)) rfl in3 2 (by decide) (List.mem_of_getElem? (i := 4) rfl) rfl rfl dX11_liveOneDay_66 ?_
    refine z_cv (va_runV (rest := []) hF.1 (kX5_takeJob l E Z10 ((6 * 1 + (r9 : Int32).toNatClampNeg)) y5 r7 ((Z10 (54 + 1) 2)) (z_vb (by decide) q13) hw _) (cwV 3 hts gX11_liveOneDay_X5_takeJob rfl rfl rfl ⟨rfl, hS_yX5_takeJob⟩ ⟨Nat.le_trans (Nat.le_of_ble_eq_true rfl) hfr, Nat.le_trans (Nat.le_of_ble_eq_true rfl) hlo⟩) (z_preV hF hG (6 * 1 + (r9 : Int32).toNatClampNeg) (zc_sv (z_vb (by decide) q13)) (z_sv (z_vb (by decide) q13)) rfl) rfl rfl hl.1 rfl (lv_room (Nat.le_of_ble_eq_true rfl)) dX11_liveOneDay_69 ⟨Nat.zero_le _, Nat.zero_le _⟩) hG (fun Z14 H locs hw hG => ?_)
    exact J72 x1 Z14 _ _ _ hG (lv_sub hl [3, 4] rfl) hw
  have J2 : ∀ n : Nat, ∀ (x1 : Int32) (Z : zS) (H : Heap) (locs : List Loc) (ls : Array Slot), zG E Z s H locs → lv_has ls 5 [(0, .ref (E.2.1 96)), (1, .int x1)] → wX11_liveOneDay_2 K n x1 Z → W p l e R s m args below meth c H locs 0 0 (zQv E K below args s) (F0 m 2 ls []) := by
    intro n
    induction n with
    | zero => intro x1 Z H locs ls hG hl hw; exact hw.elim
    | succ n ih => intro x1 Z H locs ls hG hl hw; exact S2 _ ih x1 Z H locs ls hG hl hw
  unfold wX11_liveOneDay at hw
  refine lv_iconst (v := 0) hx hb dX11_liveOneDay_0 (by decide) ?_
  refine lv_topi (fun y1 ey1 => ?_)
  replace hw := hw y1 ey1
  refine lv_istore_n (lv' := [(1, .int y1), (0, .ref (E.2.1 96))]) hx hb dX11_liveOneDay_1 rfl hl (by decide) rfl (fun ls hl => ?_)
  obtain ⟨n2, hw⟩ := hw
  exact J2 n2 y1 Z _ _ _ hG (lv_sub hl [1, 0] rfl) hw
theorem hS_yX11_liveOneDay : yX11_liveOneDay.cls ≠ "java/lang/invoke/MethodHandle" ∧ yX11_liveOneDay.cls ≠ "java/lang/invoke/VarHandle" ∧ (parseMethodDescriptor yX11_liveOneDay.desc).map (fun d => d.parameters.length) = some 0 := by decide +kernel
theorem hS_yX3_doneOfAll : yX3_doneOfAll.cls ≠ "java/lang/invoke/MethodHandle" ∧ yX3_doneOfAll.cls ≠ "java/lang/invoke/VarHandle" ∧ (parseMethodDescriptor yX3_doneOfAll.desc).map (fun d => d.parameters.length) = some 0 := by decide +kernel
set_option maxHeartbeats 4000000 in
set_option maxRecDepth 100000 in
theorem kX11_days (l : Launch) (E : zE) (Z : zS) (a1 : Int32) (a2 : Int32) (a3 : Int32) {K : Int32 → zS → Prop} (hw : wX11_days a1 a2 a3 Z K) : zCi l yX11_days wsX11_days ({ frames := 7, cells := 0, slots := 0, locals := 146 } : Room) E Z [.ref (E.2.1 96), .int a1, .int a2, .int a3] K := by
  refine z_bodyi (cc := cX11_days) (nL := 6) (ret := .int) (by decide) rfl (Nat.le_of_ble_eq_true rfl) ?_
  intro p e R s m args below meth c ls hfr hlo hF hr hlk hG hl
  have hx := hF.1.1
  have hb := hF.1.2.1
  have hown := hF.1.2.2.2.1
  have hts := hF.1.2.2.2.2
  have in3 : ∀ w ∈ u_ws RX3 TX3 5, w ∈ wsX11_days := fun _ h => List.mem_cons_of_mem _ (List.mem_append_left _ (List.mem_append_right _ h))
  have in11 : ∀ w ∈ u_ws RX11 TX11 11, w ∈ wsX11_days := fun _ h => List.mem_cons_of_mem _ (List.mem_append_left _ (List.mem_append_left _ (List.mem_append_right _ h)))
  have hl : lv_has ls 6 [(0, .ref (E.2.1 96)), (1, .int a1), (2, .int a2), (3, .int a3)] := hl
  have S44 : ∀ (L44 : Int32 → Int32 → zS → Prop), (∀ (x4 : Int32) (x5 : Int32) (Z : zS) (H : Heap) (locs : List Loc) (ls : Array Slot), zG E Z s H locs → lv_has ls 6 [(0, .ref (E.2.1 96)), (1, .int a1), (3, .int a3), (4, .int x4), (5, .int x5)] → L44 x4 x5 Z → W p l e R s m args below meth c H locs 0 0 (zQi E K below args s) (F0 m 44 ls [])) → ∀ (x4 : Int32) (x5 : Int32) (Z : zS) (H : Heap) (locs : List Loc) (ls : Array Slot), zG E Z s H locs → lv_has ls 6 [(0, .ref (E.2.1 96)), (1, .int a1), (3, .int a3), (4, .int x4), (5, .int x5)] → wX11_days_44b L44 a1 a2 a3 x4 x5 Z K → W p l e R s m args below meth c H locs 0 0 (zQi E K below args s) (F0 m 44 ls []) := by
    intro L44 ih44
    have J104 : ∀ (x5 : Int32) (s0 : Int32) (s1 : Int32) (Z : zS) (H : Heap) (locs : List Loc) (ls : Array Slot), zG E Z s H locs → lv_has ls 6 [(0, .ref (E.2.1 96)), (1, .int a1), (3, .int a3), (5, .int x5)] → wX11_days_104 L44 a1 a2 a3 x5 s0 s1 Z K → W p l e R s m args below meth c H locs 0 0 (zQi E K below args s) (F0 m 104 ls [.int s0, .int s1]) := by
      intro x5 s0 s1 Z H locs ls hG hl hw
      unfold wX11_days_104 at hw
      refine lv_iadd hx hb dX11_days_104 ?_
      refine lv_topi (fun y23 ey23 => ?_)
      replace hw := hw y23 ey23
      refine lv_istore (lv' := [(4, .int y23), (0, .ref (E.2.1 96)), (1, .int a1), (3, .int a3), (5, .int x5)]) hx hb dX11_days_105 hl (by decide) rfl (fun ls hl => ?_)
      obtain ⟨y24, ey24⟩ : ∃ y : Int32, y = x5 + 1 := ⟨_, rfl⟩
      replace hw := hw y24 ey24
      refine lv_iinc (v := y24) (lv' := [(5, .int y24), (4, .int y23), (0, .ref (E.2.1 96)), (1, .int a1), (3, .int a3)]) hx hb dX11_days_107 hl (k := 4) rfl (by rw [ey24]; rfl) (by decide) rfl (fun ls hl => ?_)
      refine lv_goto (tgt := 44) hx hb dX11_days_110 (by decide) ?_
      exact ih44 y23 y24 Z _ _ _ hG (lv_sub hl [2, 3, 4, 1, 0] rfl) hw
    intro x4 x5 Z H locs ls hG hl hw
    unfold wX11_days_44b at hw
    refine lv_iload hx hb dX11_days_44 (lv_at hl 4 rfl) ?_
    refine lv_iload_n hx hb dX11_days_46 rfl (lv_at hl 1 rfl) ?_
    refine lv_icmp_ge (tgt := 113) hx hb dX11_days_47 (by decide) (fun c11 => ?_) (fun c11 => ?_)
    · replace hw := hw.1 c11
      refine lv_iload hx hb dX11_days_113 (lv_at hl 3 rfl) ?_
      exact z_iret hF hG hr hlk hw dX11_days_115
    replace hw := hw.2 c11
    refine lv_aload_n hx hb dX11_days_50 rfl (lv_at hl 0 rfl) ?_
    refine z_get hF hG 96 (by decide) z_gs rfl in11 2 (by decide) (List.mem_of_getElem? (i := 4) rfl) rfl rfl dX11_days_51 ?_
    refine lv_aload_n hx hb dX11_days_54 rfl (lv_at hl 0 rfl) ?_
    refine z_get hF hG 96 (by decide) z_gs rfl in11 1 (by decide) (List.mem_of_getElem? (i := 1) rfl) rfl rfl dX11_days_55 ?_
    refine z_cv (va_runV (rest := []) hF.1 (kX3_becomes l E Z 1 0 (by decide) (by decide) hw _) (cwV 1 hts gX11_days_X3_becomes rfl rfl rfl ⟨rfl, hS_yX3_becomes⟩ ⟨Nat.le_trans (Nat.le_of_ble_eq_true rfl) hfr, Nat.le_trans (Nat.le_of_ble_eq_true rfl) hlo⟩) (z_preV hF hG (54 + 1) (zc_pl (by decide)) (z_pl (by decide)) rfl) rfl rfl hl.1 rfl (lv_room (Nat.le_of_ble_eq_true rfl)) dX11_days_58 ⟨Nat.zero_le _, Nat.zero_le _⟩) hG (fun Z12 H locs hw hG => ?_)
    refine lv_aload_n hx hb dX11_days_61 rfl (lv_at hl 0 rfl) ?_
    refine z_cv (va_runV (rest := []) hF.1 (kX11_liveOneDay l E Z12   hw _) (cwV 0 hts gX11_days_X11_liveOneDay rfl rfl rfl ⟨rfl, hS_yX11_liveOneDay⟩ ⟨Nat.le_trans (Nat.le_of_ble_eq_true rfl) hfr, Nat.le_trans (Nat.le_of_ble_eq_true rfl) hlo⟩) (z_preV hF hG 96 (by decide) z_gs rfl) rfl rfl hl.1 rfl (lv_room (Nat.le_of_ble_eq_true rfl)) dX11_days_62 ⟨Nat.zero_le _, Nat.zero_le _⟩) hG (fun Z13 H locs hw hG => ?_)
    refine lv_iload hx hb dX11_days_65 (lv_at hl 3 rfl) ?_
    refine lv_iload_n hx hb dX11_days_67 rfl (lv_at hl 2 rfl) ?_
    refine lv_if_ne (tgt := 89) hx hb dX11_days_68 (by decide) (fun c14 => ?_) (fun c14 => ?_)
    · replace hw := hw.1 c14
      refine lv_aload_n hx hb dX11_days_89 rfl (lv_at hl 0 rfl) ?_
      refine z_get hF hG 96 (by decide) z_gs rfl in11 2 (by decide) (List.mem_of_getElem? (i := 4) rfl) rfl rfl dX11_days_90 ?_
      refine z_ci (va_runV (rest := [.int x4]) hF.1 (kX3_doneOfAll l E Z13 1 (by decide) hw _) (cwV 0 hts gX11_days_X3_doneOfAll rfl rfl rfl ⟨rfl, hS_yX3_doneOfAll⟩ ⟨Nat.le_trans (Nat.le_of_ble_eq_true rfl) hfr, Nat.le_trans (Nat.le_of_ble_eq_true rfl) hlo⟩) (z_preV hF hG (54 + 1) (zc_pl (by decide)) (z_pl (by decide)) rfl) rfl rfl hl.1 rfl (lv_room (Nat.le_of_ble_eq_true rfl)) dX11_days_93 ⟨Nat.zero_le _, Nat.zero_le _⟩) hG (fun r16 Z15 H locs hw hG => ?_)
      refine lv_aload_n hx hb dX11_days_96 rfl (lv_at hl 0 rfl) ?_
      refine z_get hF hG 96 (by decide) z_gs rfl in11 1 (by decide) (List.mem_of_getElem? (i := 1) rfl) rfl rfl dX11_days_97 ?_
      refine z_ci (va_runV (rest := [.int r16, .int x4]) hF.1 (kX3_doneOfAll l E Z15 0 (by decide) hw _) (cwV 0 hts gX11_days_X3_doneOfAll rfl rfl rfl ⟨rfl, hS_yX3_doneOfAll⟩ ⟨Nat.le_trans (Nat.le_of_ble_eq_true rfl) hfr, Nat.le_trans (Nat.le_of_ble_eq_true rfl) hlo⟩) (z_preV hF hG (54 + 0) (zc_pl (by decide)) (z_pl (by decide)) rfl) rfl rfl hl.1 rfl (lv_room (Nat.le_of_ble_eq_true rfl)) dX11_days_100 ⟨Nat.zero_le _, Nat.zero_le _⟩) hG (fun r18 Z17 H locs hw hG => ?_)
      refine lv_isub hx hb dX11_days_103 ?_
      exact J104 x5 ((r16 - r18)) x4 Z17 _ _ _ hG (lv_sub hl [0, 1, 2, 4] rfl) hw
    replace hw := hw.2 (fun h => h c14)
    refine lv_aload_n hx hb dX11_days_71 rfl (lv_at hl 0 rfl) ?_
    refine z_get hF hG 96 (by decide) z_gs rfl in11 2 (by decide) (List.mem_of_getElem? (i := 4) rfl) rfl rfl dX11_days_72 ?_
    refine z_ci (va_runV (rest := [.int x4]) hF.1 (kX3_lateOfAll l E Z13 1 (by decide) hw _) (cwV 0 hts gX11_days_X3_lateOfAll rfl rfl rfl ⟨rfl, hS_yX3_lateOfAll⟩ ⟨Nat.le_trans (Nat.le_of_ble_eq_true rfl) hfr, Nat.le_trans (Nat.le_of_ble_eq_true rfl) hlo⟩) (z_preV hF hG (54 + 1) (zc_pl (by decide)) (z_pl (by decide)) rfl) rfl rfl hl.1 rfl (lv_room (Nat.le_of_ble_eq_true rfl)) dX11_days_75 ⟨Nat.zero_le _, Nat.zero_le _⟩) hG (fun r20 Z19 H locs hw hG => ?_)
    refine lv_aload_n hx hb dX11_days_78 rfl (lv_at hl 0 rfl) ?_
    refine z_get hF hG 96 (by decide) z_gs rfl in11 1 (by decide) (List.mem_of_getElem? (i := 1) rfl) rfl rfl dX11_days_79 ?_
    refine z_ci (va_runV (rest := [.int r20, .int x4]) hF.1 (kX3_lateOfAll l E Z19 0 (by decide) hw _) (cwV 0 hts gX11_days_X3_lateOfAll rfl rfl rfl ⟨rfl, hS_yX3_lateOfAll⟩ ⟨Nat.le_trans (Nat.le_of_ble_eq_true rfl) hfr, Nat.le_trans (Nat.le_of_ble_eq_true rfl) hlo⟩) (z_preV hF hG (54 + 0) (zc_pl (by decide)) (z_pl (by decide)) rfl) rfl rfl hl.1 rfl (lv_room (Nat.le_of_ble_eq_true rfl)) dX11_days_82 ⟨Nat.zero_le _, Nat.zero_le _⟩) hG (fun r22 Z21 H locs hw hG => ?_)
    refine lv_isub hx hb dX11_days_85 ?_
    refine lv_goto (tgt := 104) hx hb dX11_days_86 (by decide) ?_
    exact J104 x5 ((r20 - r22)) x4 Z21 _ _ _ hG (lv_sub hl [0, 1, 2, 4] rfl) hw
  have J44 : ∀ n : Nat, ∀ (x4 : Int32) (x5 : Int32) (Z : zS) (H : Heap) (locs : List Loc) (ls : Array Slot), zG E Z s H locs → lv_has ls 6 [(0, .ref (E.2.1 96)), (1, .int a1), (3, .int a3), (4, .int x4), (5, .int x5)] → wX11_days_44 a1 a2 a3 K n x4 x5 Z → W p l e R s m args below meth c H locs 0 0 (zQi E K below args s) (F0 m 44 ls []) := by
    intro n
    induction n with
    | zero => intro x4 x5 Z H locs ls hG hl hw; exact hw.elim
    | succ n ih => intro x4 x5 Z H locs ls hG hl hw; exact S44 _ ih x4 x5 Z H locs ls hG hl hw
  unfold wX11_days at hw
  refine lv_iload_n hx hb dX11_days_0 rfl (lv_at hl 1 rfl) ?_
  refine lv_iconst (v := 1) hx hb dX11_days_1 (by decide) ?_
  refine lv_bipush (v := 20) hx hb dX11_days_2 (by decide) ?_
  refine z_ci (va_runS (rest := []) hF.1 (kX11_within l E Z a1 1 20  hw _) (va_cwS 3 hts gX11_days_X11_within rfl rfl rfl hS_yX11_within ⟨Nat.le_trans (Nat.le_of_ble_eq_true rfl) hfr, Nat.le_trans (Nat.le_of_ble_eq_true rfl) hlo⟩) (z_preS hF hG) rfl rfl hl.1 rfl (lv_room (Nat.le_of_ble_eq_true rfl)) dX11_days_4 ⟨Nat.zero_le _, Nat.zero_le _⟩) hG (fun r2 Z1 H locs hw hG => ?_)
  refine lv_if_eq (tgt := 19) hx hb dX11_days_7 (by decide) (fun c3 => ?_) (fun c3 => ?_)
  · replace hw := hw.1 c3
    refine lv_iconst (v := (-1)) hx hb dX11_days_19 (by decide) ?_
    exact z_iret hF hG hr hlk hw dX11_days_20
  replace hw := hw.2 c3
  refine lv_iload_n hx hb dX11_days_10 rfl (lv_at hl 3 rfl) ?_
  refine lv_iconst (v := 0) hx hb dX11_days_11 (by decide) ?_
  refine lv_iconst (v := 1) hx hb dX11_days_12 (by decide) ?_
  refine z_ci (va_runS (rest := []) hF.1 (kX11_within l E Z1 a3 0 1  hw _) (va_cwS 3 hts gX11_days_X11_within rfl rfl rfl hS_yX11_within ⟨Nat.le_trans (Nat.le_of_ble_eq_true rfl) hfr, Nat.le_trans (Nat.le_of_ble_eq_true rfl) hlo⟩) (z_preS hF hG) rfl rfl hl.1 rfl (lv_room (Nat.le_of_ble_eq_true rfl)) dX11_days_13 ⟨Nat.zero_le _, Nat.zero_le _⟩) hG (fun r5 Z4 H locs hw hG => ?_)
  refine lv_if_ne (tgt := 21) hx hb dX11_days_16 (by decide) (fun c6 => ?_) (fun c6 => ?_)
  · replace hw := hw.1 c6
    refine lv_aload_n hx hb dX11_days_21 rfl (lv_at hl 0 rfl) ?_
    refine z_get hF hG 96 (by decide) z_gs rfl in11 1 (by decide) (List.mem_of_getElem? (i := 1) rfl) rfl rfl dX11_days_22 ?_
    refine z_get hF hG (54 + 0) (zc_pl (by decide)) (z_pl (by decide)) rfl in3 1 (by decide) (List.mem_of_getElem? (i := 2) rfl) rfl rfl dX11_days_25 ?_
    refine lv_if_ne (tgt := 33) hx hb dX11_days_28 (by decide) (fun c7 => ?_) (fun c7 => ?_)
    · replace hw := hw.1 c7
      refine lv_aload_n hx hb dX11_days_33 rfl (lv_at hl 0 rfl) ?_
      refine lv_iload_n hx hb dX11_days_34 rfl (lv_at hl 2 rfl) ?_
      refine z_put hF hG 96 (by decide) z_gs rfl in11 tyX11_ok nmX11 10 (by decide) (List.mem_of_getElem? (i := 3) rfl) rfl rfl (tyX11_ok 10 (by decide)) rfl rfl (Nat.le_of_ble_eq_true rfl) a2 z_gs dX11_days_35 (fun Z8 H locs eZ8 hG => ?_)
      replace hw := hw Z8 eZ8
      refine lv_iconst (v := 0) hx hb dX11_days_38 (by decide) ?_
      refine lv_topi (fun y9 ey9 => ?_)
      replace hw := hw y9 ey9
      refine lv_istore (lv' := [(4, .int y9), (0, .ref (E.2.1 96)), (1, .int a1), (2, .int a2), (3, .int a3)]) hx hb dX11_days_39 hl (by decide) rfl (fun ls hl => ?_)
      refine lv_iconst (v := 0) hx hb dX11_days_41 (by decide) ?_
      refine lv_topi (fun y10 ey10 => ?_)
      replace hw := hw y10 ey10
      refine lv_istore (lv' := [(5, .int y10), (4, .int y9), (0, .ref (E.2.1 96)), (1, .int a1), (2, .int a2), (3, .int a3)]) hx hb dX11_days_42 hl (by decide) rfl (fun ls hl => ?_)
      obtain ⟨n44, hw⟩ := hw
      exact J44 n44 y9 y10 Z8 _ _ _ hG (lv_sub hl [2, 3, 5, 1, 0] rfl) hw
    replace hw := hw.2 (fun h => h c7)
    refine lv_iconst (v := 0) hx hb dX11_days_31 (by decide) ?_
    exact z_iret hF hG hr hlk hw dX11_days_32
  replace hw := hw.2 (fun h => h c6)
  refine lv_iconst (v := (-1)) hx hb dX11_days_19 (by decide) ?_
  exact z_iret hF hG hr hlk hw dX11_days_20
set_option maxHeartbeats 4000000 in
set_option maxRecDepth 100000 in
theorem kX11_image (l : Launch) (E : zE) (Z : zS) {K : Int32 → zS → Prop} (hw : wX11_image Z K) : zCi l yX11_image wsX11_image ({ frames := 2, cells := 0, slots := 0, locals := 44 } : Room) E Z [.ref (E.2.1 96)] K := by
  refine z_bodyi (cc := cX11_image) (nL := 1) (ret := .int) (by decide) rfl (Nat.le_of_ble_eq_true rfl) ?_
  intro p e R s m args below meth c ls hfr hlo hF hr hlk hG hl
  have hx := hF.1.1
  have hb := hF.1.2.1
  have hown := hF.1.2.2.2.1
  have hts := hF.1.2.2.2.2
  have in3 : ∀ w ∈ u_ws RX3 TX3 5, w ∈ wsX11_image := fun _ h => List.mem_cons_of_mem _ (List.mem_append_left _ (List.mem_append_right _ h))
  have in11 : ∀ w ∈ u_ws RX11 TX11 11, w ∈ wsX11_image := fun _ h => List.mem_cons_of_mem _ (List.mem_append_left _ (List.mem_append_left _ (List.mem_append_right _ h)))
  have hl : lv_has ls 1 [(0, .ref (E.2.1 96))] := hl
  unfold wX11_image at hw
  refine lv_aload_n hx hb dX11_image_0 rfl (lv_at hl 0 rfl) ?_
  refine z_get hF hG 96 (by decide) z_gs rfl in11 3 (by decide) (List.mem_of_getElem? (i := 1) rfl) rfl rfl dX11_image_1 ?_
  refine lv_aload_n hx hb dX11_image_4 rfl (lv_at hl 0 rfl) ?_
  refine z_get hF hG 96 (by decide) z_gs rfl in11 1 (by decide) (List.mem_of_getElem? (i := 2) rfl) rfl rfl dX11_image_5 ?_
  refine z_cv (va_runV (rest := []) hF.1 (kX3_becomes l E Z 2 0 (by decide) (by decide) hw _) (cwV 1 hts gX11_image_X3_becomes rfl rfl rfl ⟨rfl, hS_yX3_becomes⟩ ⟨Nat.le_trans (Nat.le_of_ble_eq_true rfl) hfr, Nat.le_trans (Nat.le_of_ble_eq_true rfl) hlo⟩) (z_preV hF hG (54 + 2) (zc_pl (by decide)) (z_pl (by decide)) rfl) rfl rfl hl.1 rfl (lv_room (Nat.le_of_ble_eq_true rfl)) dX11_image_8 ⟨Nat.zero_le _, Nat.zero_le _⟩) hG (fun Z1 H locs hw hG => ?_)
  refine lv_aload_n hx hb dX11_image_11 rfl (lv_at hl 0 rfl) ?_
  refine lv_iconst (v := 1) hx hb dX11_image_12 (by decide) ?_
  refine z_put hF hG 96 (by decide) z_gs rfl in11 tyX11_ok nmX11 4 (by decide) (List.mem_of_getElem? (i := 3) rfl) rfl rfl (tyX11_ok 4 (by decide)) (by decide) (by decide) (Nat.le_of_ble_eq_true rfl) 1 z_gs dX11_image_13 (fun Z2 H locs eZ2 hG => ?_)
  replace hw := hw Z2 eZ2
  refine lv_aload_n hx hb dX11_image_16 rfl (lv_at hl 0 rfl) ?_
  refine z_get hF hG 96 (by decide) z_gs rfl in11 1 (by decide) (List.mem_of_getElem? (i := 2) rfl) rfl rfl dX11_image_17 ?_
  refine z_get hF hG (54 + 0) (zc_pl (by decide)) (z_pl (by decide)) rfl in3 2 (by decide) (List.mem_of_getElem? (i := 4) rfl) rfl rfl dX11_image_20 ?_
  exact z_iret hF hG hr hlk hw dX11_image_23
set_option maxHeartbeats 4000000 in
set_option maxRecDepth 100000 in
theorem kX11_restore (l : Launch) (E : zE) (Z : zS) {K : Int32 → zS → Prop} (hw : wX11_restore Z K) : zCi l yX11_restore wsX11_restore ({ frames := 2, cells := 0, slots := 0, locals := 44 } : Room) E Z [.ref (E.2.1 96)] K := by
  refine z_bodyi (cc := cX11_restore) (nL := 1) (ret := .int) (by decide) rfl (Nat.le_of_ble_eq_true rfl) ?_
  intro p e R s m args below meth c ls hfr hlo hF hr hlk hG hl
  have hx := hF.1.1
  have hb := hF.1.2.1
  have hown := hF.1.2.2.2.1
  have hts := hF.1.2.2.2.2
  have in3 : ∀ w ∈ u_ws RX3 TX3 5, w ∈ wsX11_restore := fun _ h => List.mem_cons_of_mem _ (List.mem_append_left _ (List.mem_append_right _ h))
  have in11 : ∀ w ∈ u_ws RX11 TX11 11, w ∈ wsX11_restore := fun _ h => List.mem_cons_of_mem _ (List.mem_append_left _ (List.mem_append_left _ (List.mem_append_right _ h)))
  have hl : lv_has ls 1 [(0, .ref (E.2.1 96))] := hl
  unfold wX11_restore at hw
  refine lv_aload_n hx hb dX11_restore_0 rfl (lv_at hl 0 rfl) ?_
  refine z_get hF hG 96 (by decide) z_gs rfl in11 4 (by decide) (List.mem_of_getElem? (i := 1) rfl) rfl rfl dX11_restore_1 ?_
  refine lv_if_ne (tgt := 10) hx hb dX11_restore_4 (by decide) (fun c1 => ?_) (fun c1 => ?_)
  · replace hw := hw.1 c1
    refine lv_aload_n hx hb dX11_restore_10 rfl (lv_at hl 0 rfl) ?_
    refine z_get hF hG 96 (by decide) z_gs rfl in11 1 (by decide) (List.mem_of_getElem? (i := 2) rfl) rfl rfl dX11_restore_11 ?_
    refine lv_aload_n hx hb dX11_restore_14 rfl (lv_at hl 0 rfl) ?_
    refine z_get hF hG 96 (by decide) z_gs rfl in11 3 (by decide) (List.mem_of_getElem? (i := 3) rfl) rfl rfl dX11_restore_15 ?_
    refine z_cv (va_runV (rest := []) hF.1 (kX3_becomes l E Z 0 2 (by decide) (by decide) hw _) (cwV 1 hts gX11_restore_X3_becomes rfl rfl rfl ⟨rfl, hS_yX3_becomes⟩ ⟨Nat.le_trans (Nat.le_of_ble_eq_true rfl) hfr, Nat.le_trans (Nat.le_of_ble_eq_true rfl) hlo⟩) (z_preV hF hG (54 + 0) (zc_pl (by decide)) (z_pl (by decide)) rfl) rfl rfl hl.1 rfl (lv_room (Nat.le_of_ble_eq_true rfl)) dX11_restore_18 ⟨Nat.zero_le _, Nat.zero_le _⟩) hG (fun Z2 H locs hw hG => ?_)
    refine lv_aload_n hx hb dX11_restore_21 rfl (lv_at hl 0 rfl) ?_
    refine z_get hF hG 96 (by decide) z_gs rfl in11 1 (by decide) (List.mem_of_getElem? (i := 2) rfl) rfl rfl dX11_restore_22 ?_
    refine z_get hF hG (54 + 0) (zc_pl (by decide)) (z_pl (by decide)) rfl in3 2 (by decide) (List.mem_of_getElem? (i := 4) rfl) rfl rfl dX11_restore_25 ?_
    exact z_iret hF hG hr hlk hw dX11_restore_28
  replace hw := hw.2 (fun h => h c1)
  refine lv_bipush (v := (-3)) hx hb dX11_restore_7 (by decide) ?_
  exact z_iret hF hG hr hlk hw dX11_restore_9
theorem hS_yX3_readyOnes : yX3_readyOnes.cls ≠ "java/lang/invoke/MethodHandle" ∧ yX3_readyOnes.cls ≠ "java/lang/invoke/VarHandle" ∧ (parseMethodDescriptor yX3_readyOnes.desc).map (fun d => d.parameters.length) = some 0 := by decide +kernel
set_option maxHeartbeats 4000000 in
set_option maxRecDepth 100000 in
theorem kX11_count (l : Launch) (E : zE) (Z : zS) (a1 : Int32) {K : Int32 → zS → Prop} (hw : wX11_count a1 Z K) : zCi l yX11_count wsX11_count ({ frames := 2, cells := 0, slots := 0, locals := 43 } : Room) E Z [.ref (E.2.1 96), .int a1] K := by
  refine z_bodyi (cc := cX11_count) (nL := 2) (ret := .int) (by decide) rfl (Nat.le_of_ble_eq_true rfl) ?_
  intro p e R s m args below meth c ls hfr hlo hF hr hlk hG hl
  have hx := hF.1.1
  have hb := hF.1.2.1
  have hown := hF.1.2.2.2.1
  have hts := hF.1.2.2.2.2
  have in3 : ∀ w ∈ u_ws RX3 TX3 5, w ∈ wsX11_count := fun _ h => List.mem_cons_of_mem _ (List.mem_append_left _ (List.mem_append_right _ h))
  have in11 : ∀ w ∈ u_ws RX11 TX11 11, w ∈ wsX11_count := fun _ h => List.mem_cons_of_mem _ (List.mem_append_left _ (List.mem_append_left _ (List.mem_append_right _ h)))
  have hl : lv_has ls 2 [(0, .ref (E.2.1 96)), (1, .int a1)] := hl
  unfold wX11_count at hw
  refine lv_iload_n hx hb dX11_count_0 rfl (lv_at hl 1 rfl) ?_
  refine lv_topi (fun y1 ey1 => ?_)
  replace hw := hw y1 ey1
  by_cases c2 : y1 = 0
  · replace hw := hw.1 c2
    refine lv_tableIn (tgt := 52) (off := 51) hx hb dX11_count_1 (by rw [c2]; decide) (by rw [c2]; decide) (by rw [c2]; decide) (by decide) ?_
    refine lv_aload_n hx hb dX11_count_52 rfl (lv_at hl 0 rfl) ?_
    refine z_get hF hG 96 (by decide) z_gs rfl in11 1 (by decide) (List.mem_of_getElem? (i := 1) rfl) rfl rfl dX11_count_53 ?_
    refine z_get hF hG (54 + 0) (zc_pl (by decide)) (z_pl (by decide)) rfl in3 1 (by decide) (List.mem_of_getElem? (i := 2) rfl) rfl rfl dX11_count_56 ?_
    exact z_iret hF hG hr hlk hw dX11_count_59
  replace hw := hw.2 c2
  by_cases c3 : y1 = 1
  · replace hw := hw.1 c3
    refine lv_tableIn (tgt := 60) (off := 59) hx hb dX11_count_1 (by rw [c3]; decide) (by rw [c3]; decide) (by rw [c3]; decide) (by decide) ?_
    refine lv_aload_n hx hb dX11_count_60 rfl (lv_at hl 0 rfl) ?_
    refine z_get hF hG 96 (by decide) z_gs rfl in11 1 (by decide) (List.mem_of_getElem? (i := 1) rfl) rfl rfl dX11_count_61 ?_
    refine z_get hF hG (54 + 0) (zc_pl (by decide)) (z_pl (by decide)) rfl in3 2 (by decide) (List.mem_of_getElem? (i := 3) rfl) rfl rfl dX11_count_64 ?_
    exact z_iret hF hG hr hlk hw dX11_count_67
  replace hw := hw.2 c3
  by_cases c4 : y1 = 2
  · replace hw := hw.1 c4
    refine lv_tableIn (tgt := 68) (off := 67) hx hb dX11_count_1 (by rw [c4]; decide) (by rw [c4]; decide) (by rw [c4]; decide) (by decide) ?_
    refine lv_aload_n hx hb dX11_count_68 rfl (lv_at hl 0 rfl) ?_
    refine z_get hF hG 96 (by decide) z_gs rfl in11 1 (by decide) (List.mem_of_getElem? (i := 1) rfl) rfl rfl dX11_count_69 ?_
    refine z_ci (va_runV (rest := []) hF.1 (kX3_loadOfAll l E Z 0 (by decide) hw _) (cwV 0 hts gX11_count_X3_loadOfAll rfl rfl rfl ⟨rfl, hS_yX3_loadOfAll⟩ ⟨Nat.le_trans (Nat.le_of_ble_eq_true rfl) hfr, Nat.le_trans (Nat.le_of_ble_eq_true rfl) hlo⟩) (z_preV hF hG (54 + 0) (zc_pl (by decide)) (z_pl (by decide)) rfl) rfl rfl hl.1 rfl (lv_room (Nat.le_of_ble_eq_true rfl)) dX11_count_72 ⟨Nat.zero_le _, Nat.zero_le _⟩) hG (fun r6 Z5 H locs hw hG => ?_)
    exact z_iret hF hG hr hlk hw dX11_count_75
  replace hw := hw.2 c4
  by_cases c7 : y1 = 3
  · replace hw := hw.1 c7
    refine lv_tableIn (tgt := 76) (off := 75) hx hb dX11_count_1 (by rw [c7]; decide) (by rw [c7]; decide) (by rw [c7]; decide) (by decide) ?_
    refine lv_aload_n hx hb dX11_count_76 rfl (lv_at hl 0 rfl) ?_
    refine z_get hF hG 96 (by decide) z_gs rfl in11 1 (by decide) (List.mem_of_getElem? (i := 1) rfl) rfl rfl dX11_count_77 ?_
    refine z_ci (va_runV (rest := []) hF.1 (kX3_readyOnes l E Z 0 (by decide) hw _) (cwV 0 hts gX11_count_X3_readyOnes rfl rfl rfl ⟨rfl, hS_yX3_readyOnes⟩ ⟨Nat.le_trans (Nat.le_of_ble_eq_true rfl) hfr, Nat.le_trans (Nat.le_of_ble_eq_true rfl) hlo⟩) (z_preV hF hG (54 + 0) (zc_pl (by decide)) (z_pl (by decide)) rfl) rfl rfl hl.1 rfl (lv_room (Nat.le_of_ble_eq_true rfl)) dX11_count_80 ⟨Nat.zero_le _, Nat.zero_le _⟩) hG (fun r9 Z8 H locs hw hG => ?_)
    exact z_iret hF hG hr hlk hw dX11_count_83
  replace hw := hw.2 c7
  by_cases c10 : y1 = 4
  · replace hw := hw.1 c10
    refine lv_tableIn (tgt := 84) (off := 83) hx hb dX11_count_1 (by rw [c10]; decide) (by rw [c10]; decide) (by rw [c10]; decide) (by decide) ?_
    refine lv_aload_n hx hb dX11_count_84 rfl (lv_at hl 0 rfl) ?_
    refine z_get hF hG 96 (by decide) z_gs rfl in11 1 (by decide) (List.mem_of_getElem? (i := 1) rfl) rfl rfl dX11_count_85 ?_
    refine z_ci (va_runV (rest := []) hF.1 (kX3_jobsOfAll l E Z 0 (by decide) hw _) (cwV 0 hts gX11_count_X3_jobsOfAll rfl rfl rfl ⟨rfl, hS_yX3_jobsOfAll⟩ ⟨Nat.le_trans (Nat.le_of_ble_eq_true rfl) hfr, Nat.le_trans (Nat.le_of_ble_eq_true rfl) hlo⟩) (z_preV hF hG (54 + 0) (zc_pl (by decide)) (z_pl (by decide)) rfl) rfl rfl hl.1 rfl (lv_room (Nat.le_of_ble_eq_true rfl)) dX11_count_88 ⟨Nat.zero_le _, Nat.zero_le _⟩) hG (fun r12 Z11 H locs hw hG => ?_)
    exact z_iret hF hG hr hlk hw dX11_count_91
  replace hw := hw.2 c10
  by_cases c13 : y1 = 5
  · replace hw := hw.1 c13
    refine lv_tableIn (tgt := 92) (off := 91) hx hb dX11_count_1 (by rw [c13]; decide) (by rw [c13]; decide) (by rw [c13]; decide) (by decide) ?_
    refine lv_aload_n hx hb dX11_count_92 rfl (lv_at hl 0 rfl) ?_
    refine z_get hF hG 96 (by decide) z_gs rfl in11 1 (by decide) (List.mem_of_getElem? (i := 1) rfl) rfl rfl dX11_count_93 ?_
    refine z_ci (va_runV (rest := []) hF.1 (kX3_lateOfAll l E Z 0 (by decide) hw _) (cwV 0 hts gX11_count_X3_lateOfAll rfl rfl rfl ⟨rfl, hS_yX3_lateOfAll⟩ ⟨Nat.le_trans (Nat.le_of_ble_eq_true rfl) hfr, Nat.le_trans (Nat.le_of_ble_eq_true rfl) hlo⟩) (z_preV hF hG (54 + 0) (zc_pl (by decide)) (z_pl (by decide)) rfl) rfl rfl hl.1 rfl (lv_room (Nat.le_of_ble_eq_true rfl)) dX11_count_96 ⟨Nat.zero_le _, Nat.zero_le _⟩) hG (fun r15 Z14 H locs hw hG => ?_)
    exact z_iret hF hG hr hlk hw dX11_count_99
  replace hw := hw.2 c13
  by_cases c16 : y1 = 6
  · replace hw := hw.1 c16
    refine lv_tableIn (tgt := 100) (off := 99) hx hb dX11_count_1 (by rw [c16]; decide) (by rw [c16]; decide) (by rw [c16]; decide) (by decide) ?_
    refine lv_aload_n hx hb dX11_count_100 rfl (lv_at hl 0 rfl) ?_
    refine z_get hF hG 96 (by decide) z_gs rfl in11 1 (by decide) (List.mem_of_getElem? (i := 1) rfl) rfl rfl dX11_count_101 ?_
    refine lv_iconst (v := 0) hx hb dX11_count_104 (by decide) ?_
    refine z_ci (va_runV (rest := []) hF.1 (kX3_holderOf l E Z 0 0 (by decide) hw _) (cwV 1 hts gX11_count_X3_holderOf rfl rfl rfl ⟨rfl, hS_yX3_holderOf⟩ ⟨Nat.le_trans (Nat.le_of_ble_eq_true rfl) hfr, Nat.le_trans (Nat.le_of_ble_eq_true rfl) hlo⟩) (z_preV hF hG (54 + 0) (zc_pl (by decide)) (z_pl (by decide)) rfl) rfl rfl hl.1 rfl (lv_room (Nat.le_of_ble_eq_true rfl)) dX11_count_105 ⟨Nat.zero_le _, Nat.zero_le _⟩) hG (fun r18 Z17 H locs hw hG => ?_)
    exact z_iret hF hG hr hlk hw dX11_count_108
  replace hw := hw.2 c16
  by_cases c19 : y1 = 7
  · replace hw := hw.1 c19
    refine lv_tableIn (tgt := 109) (off := 108) hx hb dX11_count_1 (by rw [c19]; decide) (by rw [c19]; decide) (by rw [c19]; decide) (by decide) ?_
    refine lv_aload_n hx hb dX11_count_109 rfl (lv_at hl 0 rfl) ?_
    refine z_get hF hG 96 (by decide) z_gs rfl in11 1 (by decide) (List.mem_of_getElem? (i := 1) rfl) rfl rfl dX11_count_110 ?_
    refine lv_iconst (v := 1) hx hb dX11_count_113 (by decide) ?_
    refine z_ci (va_runV (rest := []) hF.1 (kX3_holderOf l E Z 0 1 (by decide) hw _) (cwV 1 hts gX11_count_X3_holderOf rfl rfl rfl ⟨rfl, hS_yX3_holderOf⟩ ⟨Nat.le_trans (Nat.le_of_ble_eq_true rfl) hfr, Nat.le_trans (Nat.le_of_ble_eq_true rfl) hlo⟩) (z_preV hF hG (54 + 0) (zc_pl (by decide)) (z_pl (by decide)) rfl) rfl rfl hl.1 rfl (lv_room (Nat.le_of_ble_eq_true rfl)) dX11_count_114 ⟨Nat.zero_le _, Nat.zero_le _⟩) hG (fun r21 Z20 H locs hw hG => ?_)
    exact z_iret hF hG hr hlk hw dX11_count_117
  replace hw := hw.2 c19
  by_cases c22 : y1 = 8
  · replace hw := hw.1 c22
    refine lv_tableIn (tgt := 118) (off := 117) hx hb dX11_count_1 (by rw [c22]; decide) (by rw [c22]; decide) (by rw [c22]; decide) (by decide) ?_
    refine lv_aload_n hx hb dX11_count_118 rfl (lv_at hl 0 rfl) ?_
    refine z_get hF hG 96 (by decide) z_gs rfl in11 1 (by decide) (List.mem_of_getElem? (i := 1) rfl) rfl rfl dX11_count_119 ?_
    refine lv_iconst (v := 2) hx hb dX11_count_122 (by decide) ?_
    refine z_ci (va_runV (rest := []) hF.1 (kX3_holderOf l E Z 0 2 (by decide) hw _) (cwV 1 hts gX11_count_X3_holderOf rfl rfl rfl ⟨rfl, hS_yX3_holderOf⟩ ⟨Nat.le_trans (Nat.le_of_ble_eq_true rfl) hfr, Nat.le_trans (Nat.le_of_ble_eq_true rfl) hlo⟩) (z_preV hF hG (54 + 0) (zc_pl (by decide)) (z_pl (by decide)) rfl) rfl rfl hl.1 rfl (lv_room (Nat.le_of_ble_eq_true rfl)) dX11_count_123 ⟨Nat.zero_le _, Nat.zero_le _⟩) hG (fun r24 Z23 H locs hw hG => ?_)
    exact z_iret hF hG hr hlk hw dX11_count_126
  replace hw := hw.2 c22
  refine lv_tableOut (tgt := 127) hx hb dX11_count_1 (by have t0 := lv_neT c2 (a := 0) (by decide); have t1 := lv_neT c3 (a := 1) (by decide); have t2 := lv_neT c4 (a := 2) (by decide); have t3 := lv_neT c7 (a := 3) (by decide); have t4 := lv_neT c10 (a := 4) (by decide); have t5 := lv_neT c13 (a := 5) (by decide); have t6 := lv_neT c16 (a := 6) (by decide); have t7 := lv_neT c19 (a := 7) (by decide); have t8 := lv_neT c22 (a := 8) (by decide); omega) (by decide) ?_
  refine lv_iconst (v := (-1)) hx hb dX11_count_127 (by decide) ?_
  exact z_iret hF hG hr hlk hw dX11_count_128
set_option maxHeartbeats 4000000 in
set_option maxRecDepth 100000 in
theorem kX11_isTray (l : Launch) (E : zE) (Z : zS) (a1 : Int32) {K : Int32 → zS → Prop} (hw : wX11_isTray a1 Z K) : zCi l yX11_isTray wsX11_isTray ({ frames := 1, cells := 0, slots := 0, locals := 22 } : Room) E Z [.int a1] K := by
  refine z_bodyi (cc := cX11_isTray) (nL := 1) (ret := .boolean) (by decide) rfl (Nat.le_of_ble_eq_true rfl) ?_
  intro p e R s m args below meth c ls hfr hlo hF hr hlk hG hl
  have hx := hF.1.1
  have hb := hF.1.2.1
  have hown := hF.1.2.2.2.1
  have hts := hF.1.2.2.2.2
  have hl : lv_has ls 1 [(0, .int a1)] := hl
  unfold wX11_isTray at hw
  refine lv_iload_n hx hb dX11_isTray_0 rfl (lv_at hl 0 rfl) ?_
  refine lv_iconst (v := 0) hx hb dX11_isTray_1 (by decide) ?_
  refine lv_iconst (v := 3) hx hb dX11_isTray_2 (by decide) ?_
  refine z_ci (va_runS (rest := []) hF.1 (kX11_within l E Z a1 0 3  hw _) (va_cwS 3 hts gX11_isTray_X11_within rfl rfl rfl hS_yX11_within ⟨Nat.le_trans (Nat.le_of_ble_eq_true rfl) hfr, Nat.le_trans (Nat.le_of_ble_eq_true rfl) hlo⟩) (z_preS hF hG) rfl rfl hl.1 rfl (lv_room (Nat.le_of_ble_eq_true rfl)) dX11_isTray_3 ⟨Nat.zero_le _, Nat.zero_le _⟩) hG (fun r2 Z1 H locs hw hG => ?_)
  exact z_zret hF hG hr hlk (zBo.n hw.1) hw.2 dX11_isTray_6
theorem hS_yX11_isTray : yX11_isTray.cls ≠ "java/lang/invoke/MethodHandle" ∧ yX11_isTray.cls ≠ "java/lang/invoke/VarHandle" ∧ (parseMethodDescriptor yX11_isTray.desc).map (fun d => d.parameters.length) = some 1 := by decide +kernel
theorem hS_yX10_becomeEmpty : yX10_becomeEmpty.cls ≠ "java/lang/invoke/MethodHandle" ∧ yX10_becomeEmpty.cls ≠ "java/lang/invoke/VarHandle" ∧ (parseMethodDescriptor yX10_becomeEmpty.desc).map (fun d => d.parameters.length) = some 2 := by decide +kernel
set_option maxHeartbeats 4000000 in
set_option maxRecDepth 100000 in
theorem kX11_tray (l : Launch) (E : zE) (Z : zS) (a1 : Int32) (a2 : Int32) (a3 : Int32) {K : Int32 → zS → Prop} (hw : wX11_tray a1 a2 a3 Z K) : zCi l yX11_tray wsX11_tray ({ frames := 2, cells := 0, slots := 0, locals := 45 } : Room) E Z [.ref (E.2.1 96), .int a1, .int a2, .int a3] K := by
  refine z_bodyi (cc := cX11_tray) (nL := 4) (ret := .int) (by decide) rfl (Nat.le_of_ble_eq_true rfl) ?_
  intro p e R s m args below meth c ls hfr hlo hF hr hlk hG hl
  have hx := hF.1.1
  have hb := hF.1.2.1
  have hown := hF.1.2.2.2.1
  have hts := hF.1.2.2.2.2
  have in11 : ∀ w ∈ u_ws RX11 TX11 11, w ∈ wsX11_tray := fun _ h => List.mem_cons_of_mem _ (List.mem_append_left _ (List.mem_append_right _ h))
  have hl : lv_has ls 4 [(0, .ref (E.2.1 96)), (1, .int a1), (2, .int a2), (3, .int a3)] := hl
  unfold wX11_tray at hw
  refine lv_iload_n hx hb dX11_tray_0 rfl (lv_at hl 1 rfl) ?_
  refine z_ci (va_runS (rest := []) hF.1 (kX11_isTray l E Z a1  hw _) (va_cwS 1 hts gX11_tray_X11_isTray rfl rfl rfl hS_yX11_isTray ⟨Nat.le_trans (Nat.le_of_ble_eq_true rfl) hfr, Nat.le_trans (Nat.le_of_ble_eq_true rfl) hlo⟩) (z_preS hF hG) rfl rfl hl.1 rfl (lv_room (Nat.le_of_ble_eq_true rfl)) dX11_tray_1 ⟨Nat.zero_le _, Nat.zero_le _⟩) hG (fun r2 Z1 H locs hw hG => ?_)
  refine lv_if_eq (tgt := 22) hx hb dX11_tray_4 (by decide) (fun c3 => ?_) (fun c3 => ?_)
  · replace hw := hw.1 c3
    refine lv_iconst (v := (-1)) hx hb dX11_tray_22 (by decide) ?_
    exact z_iret hF hG hr hlk hw dX11_tray_23
  replace hw := hw.2 c3
  refine lv_iload_n hx hb dX11_tray_7 rfl (lv_at hl 2 rfl) ?_
  refine lv_iconst (v := 0) hx hb dX11_tray_8 (by decide) ?_
  refine lv_iconst (v := 5) hx hb dX11_tray_9 (by decide) ?_
  refine z_ci (va_runS (rest := []) hF.1 (kX11_within l E Z1 a2 0 5  hw _) (va_cwS 3 hts gX11_tray_X11_within rfl rfl rfl hS_yX11_within ⟨Nat.le_trans (Nat.le_of_ble_eq_true rfl) hfr, Nat.le_trans (Nat.le_of_ble_eq_true rfl) hlo⟩) (z_preS hF hG) rfl rfl hl.1 rfl (lv_room (Nat.le_of_ble_eq_true rfl)) dX11_tray_10 ⟨Nat.zero_le _, Nat.zero_le _⟩) hG (fun r5 Z4 H locs hw hG => ?_)
  refine lv_if_eq (tgt := 22) hx hb dX11_tray_13 (by decide) (fun c6 => ?_) (fun c6 => ?_)
  · replace hw := hw.1 c6
    refine lv_iconst (v := (-1)) hx hb dX11_tray_22 (by decide) ?_
    exact z_iret hF hG hr hlk hw dX11_tray_23
  replace hw := hw.2 c6
  refine lv_iload_n hx hb dX11_tray_16 rfl (lv_at hl 3 rfl) ?_
  refine lv_bipush (v := 20) hx hb dX11_tray_17 (by decide) ?_
  refine lv_icmp_le (tgt := 24) hx hb dX11_tray_19 (by decide) (fun c7 => ?_) (fun c7 => ?_)
  · replace hw := hw.1 c7
    refine lv_iload_n hx hb dX11_tray_24 rfl (lv_at hl 3 rfl) ?_
    refine lv_if_ge (tgt := 31) hx hb dX11_tray_25 (by decide) (fun c8 => ?_) (fun c8 => ?_)
    · replace hw := hw.1 c8
      refine lv_aload_n hx hb dX11_tray_31 rfl (lv_at hl 0 rfl) ?_
      refine z_get hF hG 96 (by decide) z_gs rfl in11 6 (by decide) (List.mem_of_getElem? (i := 1) rfl) rfl rfl dX11_tray_32 ?_
      refine lv_iload_n hx hb dX11_tray_35 rfl (lv_at hl 1 rfl) ?_
      obtain ⟨q9, hw⟩ := hw
      refine z_aald hF hG 92 3 (by decide) z_trays rfl q9 rfl dX11_tray_36 ?_
      refine lv_aload_n hx hb dX11_tray_37 rfl (lv_at hl 0 rfl) ?_
      refine z_get hF hG 96 (by decide) z_gs rfl in11 0 (by decide) (List.mem_of_getElem? (i := 2) rfl) rfl rfl dX11_tray_38 ?_
      refine lv_iload_n hx hb dX11_tray_41 rfl (lv_at hl 2 rfl) ?_
      obtain ⟨q10, hw⟩ := hw
      refine z_aald hF hG 90 4 (by decide) z_kinds rfl q10 rfl dX11_tray_42 ?_
      refine lv_iload_n hx hb dX11_tray_43 rfl (lv_at hl 3 rfl) ?_
      refine z_cv (va_runV (rest := []) hF.1 (kX10_becomeEmpty l E Z4 ((a1 : Int32).toNatClampNeg) a2 a3 (z_ib q9) hw _) (cwV 2 hts gX11_tray_X10_becomeEmpty rfl rfl rfl ⟨rfl, hS_yX10_becomeEmpty⟩ ⟨Nat.le_trans (Nat.le_of_ble_eq_true rfl) hfr, Nat.le_trans (Nat.le_of_ble_eq_true rfl) hlo⟩) (z_preV hF hG (76 + (a1 : Int32).toNatClampNeg) (zc_tr (z_ib q9)) (z_tr (z_ib q9)) rfl) rfl rfl hl.1 rfl (lv_room (Nat.le_of_ble_eq_true rfl)) dX11_tray_44 ⟨Nat.zero_le _, Nat.zero_le _⟩) hG (fun Z11 H locs hw hG => ?_)
      refine lv_iconst (v := 1) hx hb dX11_tray_47 (by decide) ?_
      exact z_iret hF hG hr hlk hw dX11_tray_48
    replace hw := hw.2 c8
    refine lv_bipush (v := (-14)) hx hb dX11_tray_28 (by decide) ?_
    exact z_iret hF hG hr hlk hw dX11_tray_30
  replace hw := hw.2 c7
  refine lv_iconst (v := (-1)) hx hb dX11_tray_22 (by decide) ?_
  exact z_iret hF hG hr hlk hw dX11_tray_23
theorem hS_yX10_hasPlace : yX10_hasPlace.cls ≠ "java/lang/invoke/MethodHandle" ∧ yX10_hasPlace.cls ≠ "java/lang/invoke/VarHandle" ∧ (parseMethodDescriptor yX10_hasPlace.desc).map (fun d => d.parameters.length) = some 1 := by decide +kernel
theorem hS_yX1_isOrIsUnder : yX1_isOrIsUnder.cls ≠ "java/lang/invoke/MethodHandle" ∧ yX1_isOrIsUnder.cls ≠ "java/lang/invoke/VarHandle" ∧ (parseMethodDescriptor yX1_isOrIsUnder.desc).map (fun d => d.parameters.length) = some 1 := by decide +kernel
set_option maxHeartbeats 4000000 in
set_option maxRecDepth 100000 in
theorem kX11_lays (l : Launch) (E : zE) (Z : zS) (a1 : Int32) (a2 : Int32) (a3 : Int32) {K : Int32 → zS → Prop} (hw : wX11_lays a1 a2 a3 Z K) : zCi l yX11_lays wsX11_lays ({ frames := 2, cells := 0, slots := 0, locals := 43 } : Room) E Z [.ref (E.2.1 96), .int a1, .int a2, .int a3] K := by
  refine z_bodyi (cc := cX11_lays) (nL := 6) (ret := .int) (by decide) rfl (Nat.le_of_ble_eq_true rfl) ?_
  intro p e R s m args below meth c ls hfr hlo hF hr hlk hG hl
  have hx := hF.1.1
  have hb := hF.1.2.1
  have hown := hF.1.2.2.2.1
  have hts := hF.1.2.2.2.2
  have in0 : ∀ w ∈ u_ws RX0 TX0 2, w ∈ wsX11_lays := fun _ h => List.mem_cons_of_mem _ (List.mem_append_left _ (List.mem_append_left _ (List.mem_append_left _ (List.mem_append_left _ (List.mem_append_left _ (List.mem_append_right _ h))))))
  have in1 : ∀ w ∈ u_ws RX1 TX1 2, w ∈ wsX11_lays := fun _ h => List.mem_cons_of_mem _ (List.mem_append_left _ (List.mem_append_left _ (List.mem_append_left _ (List.mem_append_left _ (List.mem_append_right _ h)))))
  have in2 : ∀ w ∈ u_ws RX2 TX2 2, w ∈ wsX11_lays := fun _ h => List.mem_cons_of_mem _ (List.mem_append_left _ (List.mem_append_left _ (List.mem_append_left _ (List.mem_append_right _ h))))
  have in4 : ∀ w ∈ u_ws RX4 TX4 2, w ∈ wsX11_lays := fun _ h => List.mem_cons_of_mem _ (List.mem_append_left _ (List.mem_append_left _ (List.mem_append_right _ h)))
  have in6 : ∀ w ∈ u_ws RX6 TX6 6, w ∈ wsX11_lays := fun _ h => List.mem_cons_of_mem _ (List.mem_append_left _ (List.mem_append_left _ (List.mem_append_left _ (List.mem_append_left _ (List.mem_append_left _ (List.mem_append_left _ (List.mem_append_left _ (List.mem_append_right _ h))))))))
  have in7 : ∀ w ∈ u_ws RX7 TX7 2, w ∈ wsX11_lays := fun _ h => List.mem_cons_of_mem _ (List.mem_append_left _ (List.mem_append_right _ h))
  have in9 : ∀ w ∈ u_ws RX9 TX9 2, w ∈ wsX11_lays := fun _ h => List.mem_cons_of_mem _ (List.mem_append_right _ h)
  have in10 : ∀ w ∈ u_ws RX10 TX10 4, w ∈ wsX11_lays := fun _ h => List.mem_cons_of_mem _ (List.mem_append_left _ (List.mem_append_left _ (List.mem_append_left _ (List.mem_append_left _ (List.mem_append_left _ (List.mem_append_left _ (List.mem_append_right _ h)))))))
  have in11 : ∀ w ∈ u_ws RX11 TX11 11, w ∈ wsX11_lays := fun _ h => List.mem_cons_of_mem _ (List.mem_append_left _ (List.mem_append_left _ (List.mem_append_left _ (List.mem_append_left _ (List.mem_append_left _ (List.mem_append_left _ (List.mem_append_left _ (List.mem_append_left _ (List.mem_append_right _ h)))))))))
  have hl : lv_has ls 6 [(0, .ref (E.2.1 96)), (1, .int a1), (2, .int a2), (3, .int a3)] := hl
  unfold wX11_lays at hw
  refine lv_iload_n hx hb dX11_lays_0 rfl (lv_at hl 1 rfl) ?_
  refine z_ci (va_runS (rest := []) hF.1 (kX11_isTray l E Z a1  hw _) (va_cwS 1 hts gX11_lays_X11_isTray rfl rfl rfl hS_yX11_isTray ⟨Nat.le_trans (Nat.le_of_ble_eq_true rfl) hfr, Nat.le_trans (Nat.le_of_ble_eq_true rfl) hlo⟩) (z_preS hF hG) rfl rfl hl.1 rfl (lv_room (Nat.le_of_ble_eq_true rfl)) dX11_lays_1 ⟨Nat.zero_le _, Nat.zero_le _⟩) hG (fun r2 Z1 H locs hw hG => ?_)
  refine lv_if_eq (tgt := 14) hx hb dX11_lays_4 (by decide) (fun c3 => ?_) (fun c3 => ?_)
  · replace hw := hw.1 c3
    refine lv_iconst (v := (-1)) hx hb dX11_lays_14 (by decide) ?_
    exact z_iret hF hG hr hlk hw dX11_lays_15
  replace hw := hw.2 c3
  refine lv_iload_n hx hb dX11_lays_7 rfl (lv_at hl 3 rfl) ?_
  refine z_ci (va_runS (rest := []) hF.1 (kX11_isShelf l E Z1 a3  hw _) (va_cwS 1 hts gX11_lays_X11_isShelf rfl rfl rfl hS_yX11_isShelf ⟨Nat.le_trans (Nat.le_of_ble_eq_true rfl) hfr, Nat.le_trans (Nat.le_of_ble_eq_true rfl) hlo⟩) (z_preS hF hG) rfl rfl hl.1 rfl (lv_room (Nat.le_of_ble_eq_true rfl)) dX11_lays_8 ⟨Nat.zero_le _, Nat.zero_le _⟩) hG (fun r5 Z4 H locs hw hG => ?_)
  refine lv_if_ne (tgt := 16) hx hb dX11_lays_11 (by decide) (fun c6 => ?_) (fun c6 => ?_)
  · replace hw := hw.1 c6
    refine lv_aload_n hx hb dX11_lays_16 rfl (lv_at hl 0 rfl) ?_
    refine z_get hF hG 96 (by decide) z_gs rfl in11 5 (by decide) (List.mem_of_getElem? (i := 1) rfl) rfl rfl dX11_lays_17 ?_
    refine lv_iload_n hx hb dX11_lays_20 rfl (lv_at hl 3 rfl) ?_
    obtain ⟨q7, hw⟩ := hw
    refine z_aald hF hG 91 2 (by decide) z_shelves rfl q7 rfl dX11_lays_21 ?_
    refine z_topo (fun vv8 evv8 => ?_)
    replace hw := hw vv8 evv8
    have hvv8 : vv8 < 8 := by rw [evv8]; exact (z_ib q7)
    refine lv_astore (lv' := [(4, .ref (E.2.1 (60 + vv8))), (0, .ref (E.2.1 96)), (1, .int a1), (2, .int a2), (3, .int a3)]) hx hb dX11_lays_22 hl (by decide) rfl (fun ls hl => ?_)
    refine lv_aload hx hb dX11_lays_24 (lv_at hl 0 rfl) ?_
    refine z_get hF hG (60 + vv8) (zc_sh hvv8) (z_sh hvv8) rfl in6 0 (by decide) (List.mem_of_getElem? (i := 2) rfl) rfl rfl dX11_lays_26 ?_
    refine lv_iconst (v := 2) hx hb dX11_lays_29 (by decide) ?_
    refine lv_icmp_ne (tgt := 36) hx hb dX11_lays_30 (by decide) (fun c9 => ?_) (fun c9 => ?_)
    · replace hw := hw.1 c9
      refine lv_aload_n hx hb dX11_lays_36 rfl (lv_at hl 1 rfl) ?_
      refine z_get hF hG 96 (by decide) z_gs rfl in11 6 (by decide) (List.mem_of_getElem? (i := 3) rfl) rfl rfl dX11_lays_37 ?_
      refine lv_iload_n hx hb dX11_lays_40 rfl (lv_at hl 2 rfl) ?_
      obtain ⟨q10, hw⟩ := hw
      refine z_aald hF hG 92 3 (by decide) z_trays rfl q10 rfl dX11_lays_41 ?_
      refine z_topo (fun vv11 evv11 => ?_)
      replace hw := hw vv11 evv11
      have hvv11 : vv11 < 4 := by rw [evv11]; exact (z_ib q10)
      refine lv_astore (lv' := [(5, .ref (E.2.1 (76 + vv11))), (4, .ref (E.2.1 (60 + vv8))), (0, .ref (E.2.1 96)), (1, .int a1), (2, .int a2), (3, .int a3)]) hx hb dX11_lays_42 hl (by decide) rfl (fun ls hl => ?_)
      refine lv_aload hx hb dX11_lays_44 (lv_at hl 0 rfl) ?_
      refine z_get hF hG (76 + vv11) (zc_tr hvv11) (z_tr hvv11) rfl in10 0 (by decide) (List.mem_of_getElem? (i := 4) rfl) rfl rfl dX11_lays_46 ?_
      refine lv_if_ne (tgt := 55) hx hb dX11_lays_49 (by decide) (fun c12 => ?_) (fun c12 => ?_)
      · replace hw := hw.1 c12
        refine lv_aload hx hb dX11_lays_55 (lv_at hl 0 rfl) ?_
        refine lv_iload_n hx hb dX11_lays_57 rfl (lv_at hl 4 rfl) ?_
        refine z_ci (va_runV (rest := []) hF.1 (kX10_hasPlace l E Z4 vv11 a2 hvv11 hw _) (cwV 1 hts gX11_lays_X10_hasPlace rfl rfl rfl ⟨rfl, hS_yX10_hasPlace⟩ ⟨Nat.le_trans (Nat.le_of_ble_eq_true rfl) hfr, Nat.le_trans (Nat.le_of_ble_eq_true rfl) hlo⟩) (z_preV hF hG (76 + vv11) (zc_tr hvv11) (z_tr hvv11) rfl) rfl rfl hl.1 rfl (lv_room (Nat.le_of_ble_eq_true rfl)) dX11_lays_58 ⟨Nat.zero_le _, Nat.zero_le _⟩) hG (fun r14 Z13 H locs hw hG => ?_)
        refine lv_if_ne (tgt := 67) hx hb dX11_lays_61 (by decide) (fun c15 => ?_) (fun c15 => ?_)
        · replace hw := hw.1 c15
          refine lv_aload hx hb dX11_lays_67 (lv_at hl 1 rfl) ?_
          refine z_get hF hG (60 + vv8) (zc_sh hvv8) (z_sh hvv8) rfl in6 0 (by decide) (List.mem_of_getElem? (i := 2) rfl) rfl rfl dX11_lays_69 ?_
          refine lv_if_ne (tgt := 86) hx hb dX11_lays_72 (by decide) (fun c16 => ?_) (fun c16 => ?_)
          · replace hw := hw.1 c16
            refine lv_aload hx hb dX11_lays_86 (lv_at hl 1 rfl) ?_
            refine z_get (v := .ref (E.2.1 (84 + ((Z13 (60 + vv8) 1) : Int32).toNatClampNeg))) hF hG (60 + vv8) (zc_sh hvv8) (z_sh hvv8) rfl in6 1 (by decide) (List.mem_of_getElem? (i := 6) rfl) rfl rfl dX11_lays_88 ?_
            refine lv_aload hx hb dX11_lays_91 (lv_at hl 0 rfl) ?_
            refine z_get (v := .ref (E.2.1 (84 + ((Z13 (76 + vv11) 1) : Int32).toNatClampNeg))) hF hG (76 + vv11) (zc_tr hvv11) (z_tr hvv11) rfl in10 1 (by decide) (List.mem_of_getElem? (i := 7) rfl) rfl rfl dX11_lays_93 ?_
            obtain ⟨K1, hK1, hw⟩ : ∃ K1, _ = K1 ∧ d_isOrIsUnder ((Z13 (60 + vv8) 1)) ((Z13 (76 + vv11) 1)) Z13 K1 := ⟨_, rfl, hw⟩
            have hrun : va_Run p l e R s m args below meth c H locs 0 0 0 0 (F0 m 96 ls [.ref (E.2.1 (84 + ((Z13 (76 + vv11) 1) : Int32).toNatClampNeg)), .ref (E.2.1 (84 + ((Z13 (60 + vv8) 1) : Int32).toNatClampNeg))]) [] (va_Qi K1 (zB E) (zA E H.size) ([.ref (E.2.1 (84 + ((Z13 (60 + vv8) 1) : Int32).toNatClampNeg)), .ref (E.2.1 (84 + ((Z13 (76 + vv11) 1) : Int32).toNatClampNeg))] : List Value).toArray) (zA E H.size) := by
              rcases hw.1 with h | h | h | h | h | h
              · exact va_runV hF.1 (kX1_isOrIsUnder l E Z13 ((Z13 (60 + vv8) 1)) ((Z13 (76 + vv11) 1))  (hw.2.1 h) _) (cwV 1 hts gX11_lays_X1_isOrIsUnder rfl rfl rfl ⟨rfl, hS_yX1_isOrIsUnder⟩ ⟨Nat.le_trans (Nat.le_of_ble_eq_true rfl) hfr, Nat.le_trans (Nat.le_of_ble_eq_true rfl) hlo⟩) (z_preV hF hG (84 + ((Z13 (60 + vv8) 1) : Int32).toNatClampNeg) (zKi.lt hw.1) (z_k0 h) rfl) rfl rfl hl.1 rfl (lv_room (Nat.le_of_ble_eq_true rfl)) dX11_lays_96 ⟨Nat.zero_le _, Nat.zero_le _⟩
              · exact va_runU hF.1 (kX1_isOrIsUnder l E Z13 ((Z13 (60 + vv8) 1)) ((Z13 (76 + vv11) 1))  (hw.2.2.1 h) _) (va_cwU 1 hts gX11_lays_X1_isOrIsUnder_u352X0 rfl rfl rfl rfl hS_yX1_isOrIsUnder ⟨Nat.le_trans (Nat.le_of_ble_eq_true rfl) hfr, Nat.le_trans (Nat.le_of_ble_eq_true rfl) hlo⟩) (z_preV hF hG (84 + ((Z13 (60 + vv8) 1) : Int32).toNatClampNeg) (zKi.lt hw.1) (z_k1 h) rfl) rfl rfl hl.1 rfl (lv_room (Nat.le_of_ble_eq_true rfl)) dX11_lays_96 ⟨Nat.zero_le _, Nat.zero_le _⟩
              · exact va_runU hF.1 (kX1_isOrIsUnder l E Z13 ((Z13 (60 + vv8) 1)) ((Z13 (76 + vv11) 1))  (hw.2.2.2.1 h) _) (va_cwU 1 hts gX11_lays_X1_isOrIsUnder_u352X4 rfl rfl rfl rfl hS_yX1_isOrIsUnder ⟨Nat.le_trans (Nat.le_of_ble_eq_true rfl) hfr, Nat.le_trans (Nat.le_of_ble_eq_true rfl) hlo⟩) (z_preV hF hG (84 + ((Z13 (60 + vv8) 1) : Int32).toNatClampNeg) (zKi.lt hw.1) (z_k2 h) rfl) rfl rfl hl.1 rfl (lv_room (Nat.le_of_ble_eq_true rfl)) dX11_lays_96 ⟨Nat.zero_le _, Nat.zero_le _⟩
              · exact va_runU hF.1 (kX1_isOrIsUnder l E Z13 ((Z13 (60 + vv8) 1)) ((Z13 (76 + vv11) 1))  (hw.2.2.2.2.1 h) _) (va_cwU 1 hts gX11_lays_X1_isOrIsUnder_u352X7 rfl rfl rfl rfl hS_yX1_isOrIsUnder ⟨Nat.le_trans (Nat.le_of_ble_eq_true rfl) hfr, Nat.le_trans (Nat.le_of_ble_eq_true rfl) hlo⟩) (z_preV hF hG (84 + ((Z13 (60 + vv8) 1) : Int32).toNatClampNeg) (zKi.lt hw.1) (z_k3 h) rfl) rfl rfl hl.1 rfl (lv_room (Nat.le_of_ble_eq_true rfl)) dX11_lays_96 ⟨Nat.zero_le _, Nat.zero_le _⟩
              · exact va_runU hF.1 (kX1_isOrIsUnder l E Z13 ((Z13 (60 + vv8) 1)) ((Z13 (76 + vv11) 1))  (hw.2.2.2.2.2.1 h) _) (va_cwU 1 hts gX11_lays_X1_isOrIsUnder_u352X2 rfl rfl rfl rfl hS_yX1_isOrIsUnder ⟨Nat.le_trans (Nat.le_of_ble_eq_true rfl) hfr, Nat.le_trans (Nat.le_of_ble_eq_true rfl) hlo⟩) (z_preV hF hG (84 + ((Z13 (60 + vv8) 1) : Int32).toNatClampNeg) (zKi.lt hw.1) (z_k4 h) rfl) rfl rfl hl.1 rfl (lv_room (Nat.le_of_ble_eq_true rfl)) dX11_lays_96 ⟨Nat.zero_le _, Nat.zero_le _⟩
              · exact va_runU hF.1 (kX1_isOrIsUnder l E Z13 ((Z13 (60 + vv8) 1)) ((Z13 (76 + vv11) 1))  (hw.2.2.2.2.2.2 h) _) (va_cwU 1 hts gX11_lays_X1_isOrIsUnder_u352X9 rfl rfl rfl rfl hS_yX1_isOrIsUnder ⟨Nat.le_trans (Nat.le_of_ble_eq_true rfl) hfr, Nat.le_trans (Nat.le_of_ble_eq_true rfl) hlo⟩) (z_preV hF hG (84 + ((Z13 (60 + vv8) 1) : Int32).toNatClampNeg) (zKi.lt hw.1) (z_k5 h) rfl) rfl rfl hl.1 rfl (lv_room (Nat.le_of_ble_eq_true rfl)) dX11_lays_96 ⟨Nat.zero_le _, Nat.zero_le _⟩
            subst hK1
            refine z_ci hrun hG (fun r18 Z17 H locs hw hG => ?_)
            refine lv_if_ne (tgt := 105) hx hb dX11_lays_99 (by decide) (fun c19 => ?_) (fun c19 => ?_)
            · replace hw := hw.1 c19
              refine lv_aload hx hb dX11_lays_105 (lv_at hl 0 rfl) ?_
              refine z_get hF hG (76 + vv11) (zc_tr hvv11) (z_tr hvv11) rfl in10 3 (by decide) (List.mem_of_getElem? (i := 5) rfl) rfl rfl dX11_lays_107 ?_
              refine lv_iload_n hx hb dX11_lays_110 rfl (lv_at hl 4 rfl) ?_
              refine lv_aload hx hb dX11_lays_111 (lv_at hl 1 rfl) ?_
              refine z_get (v := .ref (E.2.1 (84 + ((Z17 (60 + vv8) 1) : Int32).toNatClampNeg))) hF hG (60 + vv8) (zc_sh hvv8) (z_sh hvv8) rfl in6 1 (by decide) (List.mem_of_getElem? (i := 6) rfl) rfl rfl dX11_lays_113 ?_
              refine z_num hF hG hw.1 in0 in1 in2 in4 in7 in9 (List.mem_of_getElem? (i := 8) rfl) dX11_lays_116 ?_
              replace hw := hw.2
              obtain ⟨q20, hw⟩ := hw
              refine z_iast hF hG (80 + vv11) (zc_ps hvv11) (fun _ => (z_ps hvv11)) q20 dX11_lays_119 (fun Z21 H locs eZ21 hG => ?_)
              replace hw := hw Z21 eZ21
              refine lv_iconst (v := 1) hx hb dX11_lays_120 (by decide) ?_
              exact z_iret hF hG hr hlk hw dX11_lays_121
            replace hw := hw.2 (fun h => h c19)
            refine lv_bipush (v := (-16)) hx hb dX11_lays_102 (by decide) ?_
            exact z_iret hF hG hr hlk hw dX11_lays_104
          replace hw := hw.2 (fun h => h c16)
          refine lv_aload hx hb dX11_lays_75 (lv_at hl 0 rfl) ?_
          refine z_get hF hG (76 + vv11) (zc_tr hvv11) (z_tr hvv11) rfl in10 3 (by decide) (List.mem_of_getElem? (i := 5) rfl) rfl rfl dX11_lays_77 ?_
          refine lv_iload_n hx hb dX11_lays_80 rfl (lv_at hl 4 rfl) ?_
          refine lv_bipush (v := (-4)) hx hb dX11_lays_81 (by decide) ?_
          obtain ⟨q22, hw⟩ := hw
          refine z_iast hF hG (80 + vv11) (zc_ps hvv11) (fun _ => (z_ps hvv11)) q22 dX11_lays_83 (fun Z23 H locs eZ23 hG => ?_)
          replace hw := hw Z23 eZ23
          refine lv_iconst (v := 1) hx hb dX11_lays_84 (by decide) ?_
          exact z_iret hF hG hr hlk hw dX11_lays_85
        replace hw := hw.2 (fun h => h c15)
        refine lv_bipush (v := (-13)) hx hb dX11_lays_64 (by decide) ?_
        exact z_iret hF hG hr hlk hw dX11_lays_66
      replace hw := hw.2 (fun h => h c12)
      refine lv_bipush (v := (-11)) hx hb dX11_lays_52 (by decide) ?_
      exact z_iret hF hG hr hlk hw dX11_lays_54
    replace hw := hw.2 (fun h => h c9)
    refine lv_bipush (v := (-12)) hx hb dX11_lays_33 (by decide) ?_
    exact z_iret hF hG hr hlk hw dX11_lays_35
  replace hw := hw.2 (fun h => h c6)
  refine lv_iconst (v := (-1)) hx hb dX11_lays_14 (by decide) ?_
  exact z_iret hF hG hr hlk hw dX11_lays_15
set_option maxHeartbeats 4000000 in
set_option maxRecDepth 100000 in
theorem kX11_laid (l : Launch) (E : zE) (Z : zS) (a1 : Int32) (a2 : Int32) {K : Int32 → zS → Prop} (hw : wX11_laid a1 a2 Z K) : zCi l yX11_laid wsX11_laid ({ frames := 2, cells := 0, slots := 0, locals := 43 } : Room) E Z [.ref (E.2.1 96), .int a1, .int a2] K := by
  refine z_bodyi (cc := cX11_laid) (nL := 4) (ret := .int) (by decide) rfl (Nat.le_of_ble_eq_true rfl) ?_
  intro p e R s m args below meth c ls hfr hlo hF hr hlk hG hl
  have hx := hF.1.1
  have hb := hF.1.2.1
  have hown := hF.1.2.2.2.1
  have hts := hF.1.2.2.2.2
  have in10 : ∀ w ∈ u_ws RX10 TX10 4, w ∈ wsX11_laid := fun _ h => List.mem_cons_of_mem _ (List.mem_append_right _ h)
  have in11 : ∀ w ∈ u_ws RX11 TX11 11, w ∈ wsX11_laid := fun _ h => List.mem_cons_of_mem _ (List.mem_append_left _ (List.mem_append_right _ h))
  have hl : lv_has ls 4 [(0, .ref (E.2.1 96)), (1, .int a1), (2, .int a2)] := hl
  unfold wX11_laid at hw
  refine lv_iload_n hx hb dX11_laid_0 rfl (lv_at hl 1 rfl) ?_
  refine z_ci (va_runS (rest := []) hF.1 (kX11_isTray l E Z a1  hw _) (va_cwS 1 hts gX11_laid_X11_isTray rfl rfl rfl hS_yX11_isTray ⟨Nat.le_trans (Nat.le_of_ble_eq_true rfl) hfr, Nat.le_trans (Nat.le_of_ble_eq_true rfl) hlo⟩) (z_preS hF hG) rfl rfl hl.1 rfl (lv_room (Nat.le_of_ble_eq_true rfl)) dX11_laid_1 ⟨Nat.zero_le _, Nat.zero_le _⟩) hG (fun r2 Z1 H locs hw hG => ?_)
  refine lv_if_ne (tgt := 9) hx hb dX11_laid_4 (by decide) (fun c3 => ?_) (fun c3 => ?_)
  · replace hw := hw.1 c3
    refine lv_aload_n hx hb dX11_laid_9 rfl (lv_at hl 0 rfl) ?_
    refine z_get hF hG 96 (by decide) z_gs rfl in11 6 (by decide) (List.mem_of_getElem? (i := 1) rfl) rfl rfl dX11_laid_10 ?_
    refine lv_iload_n hx hb dX11_laid_13 rfl (lv_at hl 1 rfl) ?_
    obtain ⟨q4, hw⟩ := hw
    refine z_aald hF hG 92 3 (by decide) z_trays rfl q4 rfl dX11_laid_14 ?_
    refine z_topo (fun vv5 evv5 => ?_)
    replace hw := hw vv5 evv5
    have hvv5 : vv5 < 4 := by rw [evv5]; exact (z_ib q4)
    refine lv_astore_n (lv' := [(3, .ref (E.2.1 (76 + vv5))), (0, .ref (E.2.1 96)), (1, .int a1), (2, .int a2)]) hx hb dX11_laid_15 rfl hl (by decide) rfl (fun ls hl => ?_)
    refine lv_aload_n hx hb dX11_laid_16 rfl (lv_at hl 0 rfl) ?_
    refine z_get hF hG (76 + vv5) (zc_tr hvv5) (z_tr hvv5) rfl in10 0 (by decide) (List.mem_of_getElem? (i := 2) rfl) rfl rfl dX11_laid_17 ?_
    refine lv_if_ne (tgt := 26) hx hb dX11_laid_20 (by decide) (fun c6 => ?_) (fun c6 => ?_)
    · replace hw := hw.1 c6
      refine lv_aload_n hx hb dX11_laid_26 rfl (lv_at hl 0 rfl) ?_
      refine lv_iload_n hx hb dX11_laid_27 rfl (lv_at hl 3 rfl) ?_
      refine z_ci (va_runV (rest := []) hF.1 (kX10_hasPlace l E Z1 vv5 a2 hvv5 hw _) (cwV 1 hts gX11_laid_X10_hasPlace rfl rfl rfl ⟨rfl, hS_yX10_hasPlace⟩ ⟨Nat.le_trans (Nat.le_of_ble_eq_true rfl) hfr, Nat.le_trans (Nat.le_of_ble_eq_true rfl) hlo⟩) (z_preV hF hG (76 + vv5) (zc_tr hvv5) (z_tr hvv5) rfl) rfl rfl hl.1 rfl (lv_room (Nat.le_of_ble_eq_true rfl)) dX11_laid_28 ⟨Nat.zero_le _, Nat.zero_le _⟩) hG (fun r8 Z7 H locs hw hG => ?_)
      refine lv_if_ne (tgt := 37) hx hb dX11_laid_31 (by decide) (fun c9 => ?_) (fun c9 => ?_)
      · replace hw := hw.1 c9
        refine lv_aload_n hx hb dX11_laid_37 rfl (lv_at hl 0 rfl) ?_
        refine z_get hF hG (76 + vv5) (zc_tr hvv5) (z_tr hvv5) rfl in10 3 (by decide) (List.mem_of_getElem? (i := 3) rfl) rfl rfl dX11_laid_38 ?_
        refine lv_iload_n hx hb dX11_laid_41 rfl (lv_at hl 3 rfl) ?_
        obtain ⟨q10, hw⟩ := hw
        refine z_iald hF hG (80 + vv5) (zc_ps hvv5) (z_ps hvv5) q10 dX11_laid_42 ?_
        refine lv_bipush (v := (-4)) hx hb dX11_laid_43 (by decide) ?_
        refine lv_icmp_ne (tgt := 53) hx hb dX11_laid_45 (by decide) (fun c11 => ?_) (fun c11 => ?_)
        · replace hw := hw.1 c11
          refine lv_aload_n hx hb dX11_laid_53 rfl (lv_at hl 0 rfl) ?_
          refine z_get hF hG (76 + vv5) (zc_tr hvv5) (z_tr hvv5) rfl in10 3 (by decide) (List.mem_of_getElem? (i := 3) rfl) rfl rfl dX11_laid_54 ?_
          refine lv_iload_n hx hb dX11_laid_57 rfl (lv_at hl 3 rfl) ?_
          obtain ⟨q12, hw⟩ := hw
          refine z_iald hF hG (80 + vv5) (zc_ps hvv5) (z_ps hvv5) q12 dX11_laid_58 ?_
          exact z_iret hF hG hr hlk hw dX11_laid_59
        replace hw := hw.2 (fun h => h c11)
        refine lv_bipush (v := (-11)) hx hb dX11_laid_48 (by decide) ?_
        refine lv_goto (tgt := 59) hx hb dX11_laid_50 (by decide) ?_
        exact z_iret hF hG hr hlk hw dX11_laid_59
      replace hw := hw.2 (fun h => h c9)
      refine lv_bipush (v := (-13)) hx hb dX11_laid_34 (by decide) ?_
      exact z_iret hF hG hr hlk hw dX11_laid_36
    replace hw := hw.2 (fun h => h c6)
    refine lv_bipush (v := (-11)) hx hb dX11_laid_23 (by decide) ?_
    exact z_iret hF hG hr hlk hw dX11_laid_25
  replace hw := hw.2 (fun h => h c3)
  refine lv_iconst (v := (-1)) hx hb dX11_laid_7 (by decide) ?_
  exact z_iret hF hG hr hlk hw dX11_laid_8
theorem hS_yX10_becomeLike : yX10_becomeLike.cls ≠ "java/lang/invoke/MethodHandle" ∧ yX10_becomeLike.cls ≠ "java/lang/invoke/VarHandle" ∧ (parseMethodDescriptor yX10_becomeLike.desc).map (fun d => d.parameters.length) = some 1 := by decide +kernel
set_option maxHeartbeats 4000000 in
set_option maxRecDepth 100000 in
theorem kX11_like (l : Launch) (E : zE) (Z : zS) (a1 : Int32) (a2 : Int32) {K : Int32 → zS → Prop} (hw : wX11_like a1 a2 Z K) : zCi l yX11_like wsX11_like ({ frames := 2, cells := 0, slots := 0, locals := 61 } : Room) E Z [.ref (E.2.1 96), .int a1, .int a2] K := by
  refine z_bodyi (cc := cX11_like) (nL := 3) (ret := .int) (by decide) rfl (Nat.le_of_ble_eq_true rfl) ?_
  intro p e R s m args below meth c ls hfr hlo hF hr hlk hG hl
  have hx := hF.1.1
  have hb := hF.1.2.1
  have hown := hF.1.2.2.2.1
  have hts := hF.1.2.2.2.2
  have in10 : ∀ w ∈ u_ws RX10 TX10 4, w ∈ wsX11_like := fun _ h => List.mem_cons_of_mem _ (List.mem_append_right _ h)
  have in11 : ∀ w ∈ u_ws RX11 TX11 11, w ∈ wsX11_like := fun _ h => List.mem_cons_of_mem _ (List.mem_append_left _ (List.mem_append_right _ h))
  have hl : lv_has ls 3 [(0, .ref (E.2.1 96)), (1, .int a1), (2, .int a2)] := hl
  unfold wX11_like at hw
  refine lv_iload_n hx hb dX11_like_0 rfl (lv_at hl 1 rfl) ?_
  refine z_ci (va_runS (rest := []) hF.1 (kX11_isTray l E Z a1  hw _) (va_cwS 1 hts gX11_like_X11_isTray rfl rfl rfl hS_yX11_isTray ⟨Nat.le_trans (Nat.le_of_ble_eq_true rfl) hfr, Nat.le_trans (Nat.le_of_ble_eq_true rfl) hlo⟩) (z_preS hF hG) rfl rfl hl.1 rfl (lv_room (Nat.le_of_ble_eq_true rfl)) dX11_like_1 ⟨Nat.zero_le _, Nat.zero_le _⟩) hG (fun r2 Z1 H locs hw hG => ?_)
  refine lv_if_eq (tgt := 14) hx hb dX11_like_4 (by decide) (fun c3 => ?_) (fun c3 => ?_)
  · replace hw := hw.1 c3
    refine lv_iconst (v := (-1)) hx hb dX11_like_14 (by decide) ?_
    exact z_iret hF hG hr hlk hw dX11_like_15
  replace hw := hw.2 c3
  refine lv_iload_n hx hb dX11_like_7 rfl (lv_at hl 2 rfl) ?_
  refine z_ci (va_runS (rest := []) hF.1 (kX11_isTray l E Z1 a2  hw _) (va_cwS 1 hts gX11_like_X11_isTray rfl rfl rfl hS_yX11_isTray ⟨Nat.le_trans (Nat.le_of_ble_eq_true rfl) hfr, Nat.le_trans (Nat.le_of_ble_eq_true rfl) hlo⟩) (z_preS hF hG) rfl rfl hl.1 rfl (lv_room (Nat.le_of_ble_eq_true rfl)) dX11_like_8 ⟨Nat.zero_le _, Nat.zero_le _⟩) hG (fun r5 Z4 H locs hw hG => ?_)
  refine lv_if_ne (tgt := 16) hx hb dX11_like_11 (by decide) (fun c6 => ?_) (fun c6 => ?_)
  · replace hw := hw.1 c6
    refine lv_aload_n hx hb dX11_like_16 rfl (lv_at hl 0 rfl) ?_
    refine z_get hF hG 96 (by decide) z_gs rfl in11 6 (by decide) (List.mem_of_getElem? (i := 1) rfl) rfl rfl dX11_like_17 ?_
    refine lv_iload_n hx hb dX11_like_20 rfl (lv_at hl 2 rfl) ?_
    obtain ⟨q7, hw⟩ := hw
    refine z_aald hF hG 92 3 (by decide) z_trays rfl q7 rfl dX11_like_21 ?_
    refine z_get hF hG (76 + (a2 : Int32).toNatClampNeg) (zc_tr (z_ib q7)) (z_tr (z_ib q7)) rfl in10 0 (by decide) (List.mem_of_getElem? (i := 2) rfl) rfl rfl dX11_like_22 ?_
    refine lv_if_ne (tgt := 31) hx hb dX11_like_25 (by decide) (fun c8 => ?_) (fun c8 => ?_)
    · replace hw := hw.1 c8
      refine lv_aload_n hx hb dX11_like_31 rfl (lv_at hl 0 rfl) ?_
      refine z_get hF hG 96 (by decide) z_gs rfl in11 6 (by decide) (List.mem_of_getElem? (i := 1) rfl) rfl rfl dX11_like_32 ?_
      refine lv_iload_n hx hb dX11_like_35 rfl (lv_at hl 1 rfl) ?_
      obtain ⟨q9, hw⟩ := hw
      refine z_aald hF hG 92 3 (by decide) z_trays rfl q9 rfl dX11_like_36 ?_
      refine lv_aload_n hx hb dX11_like_37 rfl (lv_at hl 0 rfl) ?_
      refine z_get hF hG 96 (by decide) z_gs rfl in11 6 (by decide) (List.mem_of_getElem? (i := 1) rfl) rfl rfl dX11_like_38 ?_
      refine lv_iload_n hx hb dX11_like_41 rfl (lv_at hl 2 rfl) ?_
      obtain ⟨q10, hw⟩ := hw
      refine z_aald hF hG 92 3 (by decide) z_trays rfl q10 rfl dX11_like_42 ?_
      refine z_cv (va_runV (rest := []) hF.1 (kX10_becomeLike l E Z4 ((a1 : Int32).toNatClampNeg) ((a2 : Int32).toNatClampNeg) (z_ib q9) (z_ib q10) hw _) (cwV 1 hts gX11_like_X10_becomeLike rfl rfl rfl ⟨rfl, hS_yX10_becomeLike⟩ ⟨Nat.le_trans (Nat.le_of_ble_eq_true rfl) hfr, Nat.le_trans (Nat.le_of_ble_eq_true rfl) hlo⟩) (z_preV hF hG (76 + (a1 : Int32).toNatClampNeg) (zc_tr (z_ib q9)) (z_tr (z_ib q9)) rfl) rfl rfl hl.1 rfl (lv_room (Nat.le_of_ble_eq_true rfl)) dX11_like_43 ⟨Nat.zero_le _, Nat.zero_le _⟩) hG (fun Z11 H locs hw hG => ?_)
      refine lv_aload_n hx hb dX11_like_46 rfl (lv_at hl 0 rfl) ?_
      refine z_get hF hG 96 (by decide) z_gs rfl in11 6 (by decide) (List.mem_of_getElem? (i := 1) rfl) rfl rfl dX11_like_47 ?_
      refine lv_iload_n hx hb dX11_like_50 rfl (lv_at hl 1 rfl) ?_
      obtain ⟨q12, hw⟩ := hw
      refine z_aald hF hG 92 3 (by decide) z_trays rfl q12 rfl dX11_like_51 ?_
      refine z_get hF hG (76 + (a1 : Int32).toNatClampNeg) (zc_tr (z_ib q12)) (z_tr (z_ib q12)) rfl in10 2 (by decide) (List.mem_of_getElem? (i := 3) rfl) rfl rfl dX11_like_52 ?_
      exact z_iret hF hG hr hlk hw dX11_like_55
    replace hw := hw.2 (fun h => h c8)
    refine lv_bipush (v := (-11)) hx hb dX11_like_28 (by decide) ?_
    exact z_iret hF hG hr hlk hw dX11_like_30
  replace hw := hw.2 (fun h => h c6)
  refine lv_iconst (v := (-1)) hx hb dX11_like_14 (by decide) ?_
  exact z_iret hF hG hr hlk hw dX11_like_15
theorem hS_yX6_holdSort : yX6_holdSort.cls ≠ "java/lang/invoke/MethodHandle" ∧ yX6_holdSort.cls ≠ "java/lang/invoke/VarHandle" ∧ (parseMethodDescriptor yX6_holdSort.desc).map (fun d => d.parameters.length) = some 2 := by decide +kernel
set_option maxHeartbeats 4000000 in
set_option maxRecDepth 100000 in
theorem kX11_keep (l : Launch) (E : zE) (Z : zS) (a1 : Int32) (a2 : Int32) (a3 : Int32) (a4 : Int32) {K : Int32 → zS → Prop} (hw : wX11_keep a1 a2 a3 a4 Z K) : zCi l yX11_keep wsX11_keep ({ frames := 2, cells := 0, slots := 0, locals := 42 } : Room) E Z [.ref (E.2.1 96), .int a1, .int a2, .int a3, .int a4] K := by
  refine z_bodyi (cc := cX11_keep) (nL := 5) (ret := .int) (by decide) rfl (Nat.le_of_ble_eq_true rfl) ?_
  intro p e R s m args below meth c ls hfr hlo hF hr hlk hG hl
  have hx := hF.1.1
  have hb := hF.1.2.1
  have hown := hF.1.2.2.2.1
  have hts := hF.1.2.2.2.2
  have in6 : ∀ w ∈ u_ws RX6 TX6 6, w ∈ wsX11_keep := fun _ h => List.mem_cons_of_mem _ (List.mem_append_right _ h)
  have in11 : ∀ w ∈ u_ws RX11 TX11 11, w ∈ wsX11_keep := fun _ h => List.mem_cons_of_mem _ (List.mem_append_left _ (List.mem_append_right _ h))
  have hl : lv_has ls 5 [(0, .ref (E.2.1 96)), (1, .int a1), (2, .int a2), (3, .int a3), (4, .int a4)] := hl
  unfold wX11_keep at hw
  refine lv_iload_n hx hb dX11_keep_0 rfl (lv_at hl 1 rfl) ?_
  refine z_ci (va_runS (rest := []) hF.1 (kX11_isShelf l E Z a1  hw _) (va_cwS 1 hts gX11_keep_X11_isShelf rfl rfl rfl hS_yX11_isShelf ⟨Nat.le_trans (Nat.le_of_ble_eq_true rfl) hfr, Nat.le_trans (Nat.le_of_ble_eq_true rfl) hlo⟩) (z_preS hF hG) rfl rfl hl.1 rfl (lv_room (Nat.le_of_ble_eq_true rfl)) dX11_keep_1 ⟨Nat.zero_le _, Nat.zero_le _⟩) hG (fun r2 Z1 H locs hw hG => ?_)
  refine lv_if_eq (tgt := 16) hx hb dX11_keep_4 (by decide) (fun c3 => ?_) (fun c3 => ?_)
  · replace hw := hw.1 c3
    refine lv_iconst (v := (-1)) hx hb dX11_keep_16 (by decide) ?_
    exact z_iret hF hG hr hlk hw dX11_keep_17
  replace hw := hw.2 c3
  refine lv_iload_n hx hb dX11_keep_7 rfl (lv_at hl 2 rfl) ?_
  refine lv_iconst (v := 0) hx hb dX11_keep_8 (by decide) ?_
  refine lv_iconst (v := 1) hx hb dX11_keep_9 (by decide) ?_
  refine z_ci (va_runS (rest := []) hF.1 (kX11_within l E Z1 a2 0 1  hw _) (va_cwS 3 hts gX11_keep_X11_within rfl rfl rfl hS_yX11_within ⟨Nat.le_trans (Nat.le_of_ble_eq_true rfl) hfr, Nat.le_trans (Nat.le_of_ble_eq_true rfl) hlo⟩) (z_preS hF hG) rfl rfl hl.1 rfl (lv_room (Nat.le_of_ble_eq_true rfl)) dX11_keep_10 ⟨Nat.zero_le _, Nat.zero_le _⟩) hG (fun r5 Z4 H locs hw hG => ?_)
  refine lv_if_ne (tgt := 18) hx hb dX11_keep_13 (by decide) (fun c6 => ?_) (fun c6 => ?_)
  · replace hw := hw.1 c6
    refine lv_iload_n hx hb dX11_keep_18 rfl (lv_at hl 2 rfl) ?_
    refine lv_if_ne (tgt := 34) hx hb dX11_keep_19 (by decide) (fun c7 => ?_) (fun c7 => ?_)
    · replace hw := hw.1 c7
      refine lv_iload_n hx hb dX11_keep_34 rfl (lv_at hl 3 rfl) ?_
      refine lv_iconst (v := 0) hx hb dX11_keep_35 (by decide) ?_
      refine lv_iconst (v := 5) hx hb dX11_keep_36 (by decide) ?_
      refine z_ci (va_runS (rest := []) hF.1 (kX11_within l E Z4 a3 0 5  hw _) (va_cwS 3 hts gX11_keep_X11_within rfl rfl rfl hS_yX11_within ⟨Nat.le_trans (Nat.le_of_ble_eq_true rfl) hfr, Nat.le_trans (Nat.le_of_ble_eq_true rfl) hlo⟩) (z_preS hF hG) rfl rfl hl.1 rfl (lv_room (Nat.le_of_ble_eq_true rfl)) dX11_keep_37 ⟨Nat.zero_le _, Nat.zero_le _⟩) hG (fun r9 Z8 H locs hw hG => ?_)
      refine lv_if_eq (tgt := 54) hx hb dX11_keep_40 (by decide) (fun c10 => ?_) (fun c10 => ?_)
      · replace hw := hw.1 c10
        refine lv_iconst (v := (-1)) hx hb dX11_keep_54 (by decide) ?_
        exact z_iret hF hG hr hlk hw dX11_keep_55
      replace hw := hw.2 c10
      refine lv_iload hx hb dX11_keep_43 (lv_at hl 4 rfl) ?_
      refine lv_iconst (v := 0) hx hb dX11_keep_45 (by decide) ?_
      refine lv_bipush (v := 9) hx hb dX11_keep_46 (by decide) ?_
      refine z_ci (va_runS (rest := []) hF.1 (kX11_within l E Z8 a4 0 9  hw _) (va_cwS 3 hts gX11_keep_X11_within rfl rfl rfl hS_yX11_within ⟨Nat.le_trans (Nat.le_of_ble_eq_true rfl) hfr, Nat.le_trans (Nat.le_of_ble_eq_true rfl) hlo⟩) (z_preS hF hG) rfl rfl hl.1 rfl (lv_room (Nat.le_of_ble_eq_true rfl)) dX11_keep_48 ⟨Nat.zero_le _, Nat.zero_le _⟩) hG (fun r12 Z11 H locs hw hG => ?_)
      refine lv_if_ne (tgt := 56) hx hb dX11_keep_51 (by decide) (fun c13 => ?_) (fun c13 => ?_)
      · replace hw := hw.1 c13
        refine lv_aload_n hx hb dX11_keep_56 rfl (lv_at hl 0 rfl) ?_
        refine z_get hF hG 96 (by decide) z_gs rfl in11 5 (by decide) (List.mem_of_getElem? (i := 1) rfl) rfl rfl dX11_keep_57 ?_
        refine lv_iload_n hx hb dX11_keep_60 rfl (lv_at hl 1 rfl) ?_
        obtain ⟨q14, hw⟩ := hw
        refine z_aald hF hG 91 2 (by decide) z_shelves rfl q14 rfl dX11_keep_61 ?_
        refine lv_aload_n hx hb dX11_keep_62 rfl (lv_at hl 0 rfl) ?_
        refine z_get hF hG 96 (by decide) z_gs rfl in11 0 (by decide) (List.mem_of_getElem? (i := 3) rfl) rfl rfl dX11_keep_63 ?_
        refine lv_iload_n hx hb dX11_keep_66 rfl (lv_at hl 3 rfl) ?_
        obtain ⟨q15, hw⟩ := hw
        refine z_aald hF hG 90 4 (by decide) z_kinds rfl q15 rfl dX11_keep_67 ?_
        refine lv_iload hx hb dX11_keep_68 (lv_at hl 4 rfl) ?_
        refine z_cv (va_runV (rest := []) hF.1 (kX6_holdSort l E Z11 ((a1 : Int32).toNatClampNeg) a3 a4 (z_ib q14) hw _) (cwV 2 hts gX11_keep_X6_holdSort rfl rfl rfl ⟨rfl, hS_yX6_holdSort⟩ ⟨Nat.le_trans (Nat.le_of_ble_eq_true rfl) hfr, Nat.le_trans (Nat.le_of_ble_eq_true rfl) hlo⟩) (z_preV hF hG (60 + (a1 : Int32).toNatClampNeg) (zc_sh (z_ib q14)) (z_sh (z_ib q14)) rfl) rfl rfl hl.1 rfl (lv_room (Nat.le_of_ble_eq_true rfl)) dX11_keep_70 ⟨Nat.zero_le _, Nat.zero_le _⟩) hG (fun Z16 H locs hw hG => ?_)
        refine lv_iconst (v := 0) hx hb dX11_keep_73 (by decide) ?_
        exact z_iret hF hG hr hlk hw dX11_keep_74
      replace hw := hw.2 (fun h => h c13)
      refine lv_iconst (v := (-1)) hx hb dX11_keep_54 (by decide) ?_
      exact z_iret hF hG hr hlk hw dX11_keep_55
    replace hw := hw.2 (fun h => h c7)
    refine lv_aload_n hx hb dX11_keep_22 rfl (lv_at hl 0 rfl) ?_
    refine z_get hF hG 96 (by decide) z_gs rfl in11 5 (by decide) (List.mem_of_getElem? (i := 1) rfl) rfl rfl dX11_keep_23 ?_
    refine lv_iload_n hx hb dX11_keep_26 rfl (lv_at hl 1 rfl) ?_
    obtain ⟨q17, hw⟩ := hw
    refine z_aald hF hG 91 2 (by decide) z_shelves rfl q17 rfl dX11_keep_27 ?_
    refine lv_iconst (v := 0) hx hb dX11_keep_28 (by decide) ?_
    refine z_put hF hG (60 + (a1 : Int32).toNatClampNeg) (zc_sh (z_ib q17)) (z_sh (z_ib q17)) rfl in6 tyX6_ok nmX6 0 (by decide) (List.mem_of_getElem? (i := 2) rfl) rfl rfl (tyX6_ok 0 (by decide)) rfl rfl (Nat.le_of_ble_eq_true rfl) 0 (z_sh (z_ib q17)) dX11_keep_29 (fun Z18 H locs eZ18 hG => ?_)
    replace hw := hw Z18 eZ18
    refine lv_iconst (v := 0) hx hb dX11_keep_32 (by decide) ?_
    exact z_iret hF hG hr hlk hw dX11_keep_33
  replace hw := hw.2 (fun h => h c6)
  refine lv_iconst (v := (-1)) hx hb dX11_keep_16 (by decide) ?_
  exact z_iret hF hG hr hlk hw dX11_keep_17
theorem hS_yX6_holdRow : yX6_holdRow.cls ≠ "java/lang/invoke/MethodHandle" ∧ yX6_holdRow.cls ≠ "java/lang/invoke/VarHandle" ∧ (parseMethodDescriptor yX6_holdRow.desc).map (fun d => d.parameters.length) = some 2 := by decide +kernel
set_option maxHeartbeats 4000000 in
set_option maxRecDepth 100000 in
theorem kX11_row (l : Launch) (E : zE) (Z : zS) (a1 : Int32) (a2 : Int32) (a3 : Int32) {K : Int32 → zS → Prop} (hw : wX11_row a1 a2 a3 Z K) : zCi l yX11_row wsX11_row ({ frames := 2, cells := 0, slots := 0, locals := 45 } : Room) E Z [.ref (E.2.1 96), .int a1, .int a2, .int a3] K := by
  refine z_bodyi (cc := cX11_row) (nL := 4) (ret := .int) (by decide) rfl (Nat.le_of_ble_eq_true rfl) ?_
  intro p e R s m args below meth c ls hfr hlo hF hr hlk hG hl
  have hx := hF.1.1
  have hb := hF.1.2.1
  have hown := hF.1.2.2.2.1
  have hts := hF.1.2.2.2.2
  have in11 : ∀ w ∈ u_ws RX11 TX11 11, w ∈ wsX11_row := fun _ h => List.mem_cons_of_mem _ (List.mem_append_left _ (List.mem_append_right _ h))
  have hl : lv_has ls 4 [(0, .ref (E.2.1 96)), (1, .int a1), (2, .int a2), (3, .int a3)] := hl
  unfold wX11_row at hw
  refine lv_iload_n hx hb dX11_row_0 rfl (lv_at hl 1 rfl) ?_
  refine z_ci (va_runS (rest := []) hF.1 (kX11_isShelf l E Z a1  hw _) (va_cwS 1 hts gX11_row_X11_isShelf rfl rfl rfl hS_yX11_isShelf ⟨Nat.le_trans (Nat.le_of_ble_eq_true rfl) hfr, Nat.le_trans (Nat.le_of_ble_eq_true rfl) hlo⟩) (z_preS hF hG) rfl rfl hl.1 rfl (lv_room (Nat.le_of_ble_eq_true rfl)) dX11_row_1 ⟨Nat.zero_le _, Nat.zero_le _⟩) hG (fun r2 Z1 H locs hw hG => ?_)
  refine lv_if_eq (tgt := 22) hx hb dX11_row_4 (by decide) (fun c3 => ?_) (fun c3 => ?_)
  · replace hw := hw.1 c3
    refine lv_iconst (v := (-1)) hx hb dX11_row_22 (by decide) ?_
    exact z_iret hF hG hr hlk hw dX11_row_23
  replace hw := hw.2 c3
  refine lv_iload_n hx hb dX11_row_7 rfl (lv_at hl 2 rfl) ?_
  refine lv_iconst (v := 0) hx hb dX11_row_8 (by decide) ?_
  refine lv_iconst (v := 2) hx hb dX11_row_9 (by decide) ?_
  refine z_ci (va_runS (rest := []) hF.1 (kX11_within l E Z1 a2 0 2  hw _) (va_cwS 3 hts gX11_row_X11_within rfl rfl rfl hS_yX11_within ⟨Nat.le_trans (Nat.le_of_ble_eq_true rfl) hfr, Nat.le_trans (Nat.le_of_ble_eq_true rfl) hlo⟩) (z_preS hF hG) rfl rfl hl.1 rfl (lv_room (Nat.le_of_ble_eq_true rfl)) dX11_row_10 ⟨Nat.zero_le _, Nat.zero_le _⟩) hG (fun r5 Z4 H locs hw hG => ?_)
  refine lv_if_eq (tgt := 22) hx hb dX11_row_13 (by decide) (fun c6 => ?_) (fun c6 => ?_)
  · replace hw := hw.1 c6
    refine lv_iconst (v := (-1)) hx hb dX11_row_22 (by decide) ?_
    exact z_iret hF hG hr hlk hw dX11_row_23
  replace hw := hw.2 c6
  refine lv_iload_n hx hb dX11_row_16 rfl (lv_at hl 3 rfl) ?_
  refine lv_bipush (v := 100) hx hb dX11_row_17 (by decide) ?_
  refine lv_icmp_le (tgt := 24) hx hb dX11_row_19 (by decide) (fun c7 => ?_) (fun c7 => ?_)
  · replace hw := hw.1 c7
    refine lv_iload_n hx hb dX11_row_24 rfl (lv_at hl 3 rfl) ?_
    refine lv_if_ge (tgt := 31) hx hb dX11_row_25 (by decide) (fun c8 => ?_) (fun c8 => ?_)
    · replace hw := hw.1 c8
      refine lv_aload_n hx hb dX11_row_31 rfl (lv_at hl 0 rfl) ?_
      refine z_get hF hG 96 (by decide) z_gs rfl in11 5 (by decide) (List.mem_of_getElem? (i := 1) rfl) rfl rfl dX11_row_32 ?_
      refine lv_iload_n hx hb dX11_row_35 rfl (lv_at hl 1 rfl) ?_
      obtain ⟨q9, hw⟩ := hw
      refine z_aald hF hG 91 2 (by decide) z_shelves rfl q9 rfl dX11_row_36 ?_
      refine lv_iload_n hx hb dX11_row_37 rfl (lv_at hl 2 rfl) ?_
      refine lv_iload_n hx hb dX11_row_38 rfl (lv_at hl 3 rfl) ?_
      refine z_cv (va_runV (rest := []) hF.1 (kX6_holdRow l E Z4 ((a1 : Int32).toNatClampNeg) a2 a3 (z_ib q9) hw _) (cwV 2 hts gX11_row_X6_holdRow rfl rfl rfl ⟨rfl, hS_yX6_holdRow⟩ ⟨Nat.le_trans (Nat.le_of_ble_eq_true rfl) hfr, Nat.le_trans (Nat.le_of_ble_eq_true rfl) hlo⟩) (z_preV hF hG (60 + (a1 : Int32).toNatClampNeg) (zc_sh (z_ib q9)) (z_sh (z_ib q9)) rfl) rfl rfl hl.1 rfl (lv_room (Nat.le_of_ble_eq_true rfl)) dX11_row_39 ⟨Nat.zero_le _, Nat.zero_le _⟩) hG (fun Z10 H locs hw hG => ?_)
      refine lv_iconst (v := 0) hx hb dX11_row_42 (by decide) ?_
      exact z_iret hF hG hr hlk hw dX11_row_43
    replace hw := hw.2 c8
    refine lv_bipush (v := (-14)) hx hb dX11_row_28 (by decide) ?_
    exact z_iret hF hG hr hlk hw dX11_row_30
  replace hw := hw.2 c7
  refine lv_iconst (v := (-1)) hx hb dX11_row_22 (by decide) ?_
  exact z_iret hF hG hr hlk hw dX11_row_23
theorem hS_yX6_hasPlaces : yX6_hasPlaces.cls ≠ "java/lang/invoke/MethodHandle" ∧ yX6_hasPlaces.cls ≠ "java/lang/invoke/VarHandle" ∧ (parseMethodDescriptor yX6_hasPlaces.desc).map (fun d => d.parameters.length) = some 2 := by decide +kernel
theorem hS_yX6_setElement : yX6_setElement.cls ≠ "java/lang/invoke/MethodHandle" ∧ yX6_setElement.cls ≠ "java/lang/invoke/VarHandle" ∧ (parseMethodDescriptor yX6_setElement.desc).map (fun d => d.parameters.length) = some 2 := by decide +kernel
set_option maxHeartbeats 4000000 in
set_option maxRecDepth 100000 in
theorem kX11_put (l : Launch) (E : zE) (Z : zS) (a1 : Int32) (a2 : Int32) (a3 : Int32) {K : Int32 → zS → Prop} (hw : wX11_put a1 a2 a3 Z K) : zCi l yX11_put wsX11_put ({ frames := 4, cells := 0, slots := 0, locals := 85 } : Room) E Z [.ref (E.2.1 96), .int a1, .int a2, .int a3] K := by
  refine z_bodyi (cc := cX11_put) (nL := 5) (ret := .int) (by decide) rfl (Nat.le_of_ble_eq_true rfl) ?_
  intro p e R s m args below meth c ls hfr hlo hF hr hlk hG hl
  have hx := hF.1.1
  have hb := hF.1.2.1
  have hown := hF.1.2.2.2.1
  have hts := hF.1.2.2.2.2
  have in11 : ∀ w ∈ u_ws RX11 TX11 11, w ∈ wsX11_put := fun _ h => List.mem_cons_of_mem _ (List.mem_append_left _ (List.mem_append_right _ h))
  have hl : lv_has ls 5 [(0, .ref (E.2.1 96)), (1, .int a1), (2, .int a2), (3, .int a3)] := hl
  unfold wX11_put at hw
  refine lv_aload_n hx hb dX11_put_0 rfl (lv_at hl 0 rfl) ?_
  refine lv_iload_n hx hb dX11_put_1 rfl (lv_at hl 1 rfl) ?_
  refine z_ci (va_runV (rest := []) hF.1 (kX11_rowRefusal l E Z a1  hw _) (cwV 1 hts gX11_put_X11_rowRefusal rfl rfl rfl ⟨rfl, hS_yX11_rowRefusal⟩ ⟨Nat.le_trans (Nat.le_of_ble_eq_true rfl) hfr, Nat.le_trans (Nat.le_of_ble_eq_true rfl) hlo⟩) (z_preV hF hG 96 (by decide) z_gs rfl) rfl rfl hl.1 rfl (lv_room (Nat.le_of_ble_eq_true rfl)) dX11_put_2 ⟨Nat.zero_le _, Nat.zero_le _⟩) hG (fun r2 Z1 H locs hw hG => ?_)
  refine lv_istore (lv' := [(4, .int r2), (0, .ref (E.2.1 96)), (1, .int a1), (2, .int a2), (3, .int a3)]) hx hb dX11_put_5 hl (by decide) rfl (fun ls hl => ?_)
  refine lv_iload hx hb dX11_put_7 (lv_at hl 0 rfl) ?_
  refine lv_if_eq (tgt := 15) hx hb dX11_put_9 (by decide) (fun c3 => ?_) (fun c3 => ?_)
  · replace hw := hw.1 c3
    refine lv_aload_n hx hb dX11_put_15 rfl (lv_at hl 1 rfl) ?_
    refine z_get hF hG 96 (by decide) z_gs rfl in11 5 (by decide) (List.mem_of_getElem? (i := 1) rfl) rfl rfl dX11_put_16 ?_
    refine lv_iload_n hx hb dX11_put_19 rfl (lv_at hl 2 rfl) ?_
    obtain ⟨q4, hw⟩ := hw
    refine z_aald hF hG 91 2 (by decide) z_shelves rfl q4 rfl dX11_put_20 ?_
    refine lv_iload_n hx hb dX11_put_21 rfl (lv_at hl 3 rfl) ?_
    refine lv_iconst (v := 1) hx hb dX11_put_22 (by decide) ?_
    refine z_ci (va_runV (rest := []) hF.1 (kX6_hasPlaces l E Z1 ((a1 : Int32).toNatClampNeg) a2 1 (z_ib q4) hw _) (cwV 2 hts gX11_put_X6_hasPlaces rfl rfl rfl ⟨rfl, hS_yX6_hasPlaces⟩ ⟨Nat.le_trans (Nat.le_of_ble_eq_true rfl) hfr, Nat.le_trans (Nat.le_of_ble_eq_true rfl) hlo⟩) (z_preV hF hG (60 + (a1 : Int32).toNatClampNeg) (zc_sh (z_ib q4)) (z_sh (z_ib q4)) rfl) rfl rfl hl.1 rfl (lv_room (Nat.le_of_ble_eq_true rfl)) dX11_put_23 ⟨Nat.zero_le _, Nat.zero_le _⟩) hG (fun r6 Z5 H locs hw hG => ?_)
    refine lv_if_ne (tgt := 32) hx hb dX11_put_26 (by decide) (fun c7 => ?_) (fun c7 => ?_)
    · replace hw := hw.1 c7
      refine lv_aload_n hx hb dX11_put_32 rfl (lv_at hl 1 rfl) ?_
      refine z_get hF hG 96 (by decide) z_gs rfl in11 5 (by decide) (List.mem_of_getElem? (i := 1) rfl) rfl rfl dX11_put_33 ?_
      refine lv_iload_n hx hb dX11_put_36 rfl (lv_at hl 2 rfl) ?_
      obtain ⟨q8, hw⟩ := hw
      refine z_aald hF hG 91 2 (by decide) z_shelves rfl q8 rfl dX11_put_37 ?_
      refine lv_iload_n hx hb dX11_put_38 rfl (lv_at hl 3 rfl) ?_
      refine lv_iload_n hx hb dX11_put_39 rfl (lv_at hl 4 rfl) ?_
      refine z_cv (va_runV (rest := []) hF.1 (kX6_setElement l E Z5 ((a1 : Int32).toNatClampNeg) a2 a3 (z_ib q8) hw _) (cwV 2 hts gX11_put_X6_setElement rfl rfl rfl ⟨rfl, hS_yX6_setElement⟩ ⟨Nat.le_trans (Nat.le_of_ble_eq_true rfl) hfr, Nat.le_trans (Nat.le_of_ble_eq_true rfl) hlo⟩) (z_preV hF hG (60 + (a1 : Int32).toNatClampNeg) (zc_sh (z_ib q8)) (z_sh (z_ib q8)) rfl) rfl rfl hl.1 rfl (lv_room (Nat.le_of_ble_eq_true rfl)) dX11_put_40 ⟨Nat.zero_le _, Nat.zero_le _⟩) hG (fun Z9 H locs hw hG => ?_)
      refine lv_iconst (v := 0) hx hb dX11_put_43 (by decide) ?_
      exact z_iret hF hG hr hlk hw dX11_put_44
    replace hw := hw.2 (fun h => h c7)
    refine lv_bipush (v := (-13)) hx hb dX11_put_29 (by decide) ?_
    exact z_iret hF hG hr hlk hw dX11_put_31
  replace hw := hw.2 c3
  refine lv_iload hx hb dX11_put_12 (lv_at hl 0 rfl) ?_
  exact z_iret hF hG hr hlk hw dX11_put_14
set_option maxHeartbeats 4000000 in
set_option maxRecDepth 100000 in
theorem kX11_copy (l : Launch) (E : zE) (Z : zS) (a1 : Int32) (a2 : Int32) (a3 : Int32) (a4 : Int32) (a5 : Int32) {K : Int32 → zS → Prop} (hw : wX11_copy a1 a2 a3 a4 a5 Z K) : zCi l yX11_copy wsX11_copy ({ frames := 2, cells := 0, slots := 0, locals := 44 } : Room) E Z [.ref (E.2.1 96), .int a1, .int a2, .int a3, .int a4, .int a5] K := by
  refine z_bodyi (cc := cX11_copy) (nL := 8) (ret := .int) (by decide) rfl (Nat.le_of_ble_eq_true rfl) ?_
  intro p e R s m args below meth c ls hfr hlo hF hr hlk hG hl
  have hx := hF.1.1
  have hb := hF.1.2.1
  have hown := hF.1.2.2.2.1
  have hts := hF.1.2.2.2.2
  have in6 : ∀ w ∈ u_ws RX6 TX6 6, w ∈ wsX11_copy := fun _ h => List.mem_cons_of_mem _ (List.mem_append_right _ h)
  have in11 : ∀ w ∈ u_ws RX11 TX11 11, w ∈ wsX11_copy := fun _ h => List.mem_cons_of_mem _ (List.mem_append_left _ (List.mem_append_right _ h))
  have hl : lv_has ls 8 [(0, .ref (E.2.1 96)), (1, .int a1), (2, .int a2), (3, .int a3), (4, .int a4), (5, .int a5)] := hl
  unfold wX11_copy at hw
  refine lv_iload_n hx hb dX11_copy_0 rfl (lv_at hl 1 rfl) ?_
  refine z_ci (va_runS (rest := []) hF.1 (kX11_isShelf l E Z a1  hw _) (va_cwS 1 hts gX11_copy_X11_isShelf rfl rfl rfl hS_yX11_isShelf ⟨Nat.le_trans (Nat.le_of_ble_eq_true rfl) hfr, Nat.le_trans (Nat.le_of_ble_eq_true rfl) hlo⟩) (z_preS hF hG) rfl rfl hl.1 rfl (lv_room (Nat.le_of_ble_eq_true rfl)) dX11_copy_1 ⟨Nat.zero_le _, Nat.zero_le _⟩) hG (fun r2 Z1 H locs hw hG => ?_)
  refine lv_if_eq (tgt := 14) hx hb dX11_copy_4 (by decide) (fun c3 => ?_) (fun c3 => ?_)
  · replace hw := hw.1 c3
    refine lv_iconst (v := (-1)) hx hb dX11_copy_14 (by decide) ?_
    exact z_iret hF hG hr hlk hw dX11_copy_15
  replace hw := hw.2 c3
  refine lv_iload_n hx hb dX11_copy_7 rfl (lv_at hl 3 rfl) ?_
  refine z_ci (va_runS (rest := []) hF.1 (kX11_isShelf l E Z1 a3  hw _) (va_cwS 1 hts gX11_copy_X11_isShelf rfl rfl rfl hS_yX11_isShelf ⟨Nat.le_trans (Nat.le_of_ble_eq_true rfl) hfr, Nat.le_trans (Nat.le_of_ble_eq_true rfl) hlo⟩) (z_preS hF hG) rfl rfl hl.1 rfl (lv_room (Nat.le_of_ble_eq_true rfl)) dX11_copy_8 ⟨Nat.zero_le _, Nat.zero_le _⟩) hG (fun r5 Z4 H locs hw hG => ?_)
  refine lv_if_ne (tgt := 16) hx hb dX11_copy_11 (by decide) (fun c6 => ?_) (fun c6 => ?_)
  · replace hw := hw.1 c6
    refine lv_aload_n hx hb dX11_copy_16 rfl (lv_at hl 0 rfl) ?_
    refine z_get hF hG 96 (by decide) z_gs rfl in11 5 (by decide) (List.mem_of_getElem? (i := 1) rfl) rfl rfl dX11_copy_17 ?_
    refine lv_iload_n hx hb dX11_copy_20 rfl (lv_at hl 1 rfl) ?_
    obtain ⟨q7, hw⟩ := hw
    refine z_aald hF hG 91 2 (by decide) z_shelves rfl q7 rfl dX11_copy_21 ?_
    refine z_topo (fun vv8 evv8 => ?_)
    replace hw := hw vv8 evv8
    have hvv8 : vv8 < 8 := by rw [evv8]; exact (z_ib q7)
    refine lv_astore (lv' := [(6, .ref (E.2.1 (60 + vv8))), (0, .ref (E.2.1 96)), (1, .int a1), (2, .int a2), (3, .int a3), (4, .int a4), (5, .int a5)]) hx hb dX11_copy_22 hl (by decide) rfl (fun ls hl => ?_)
    refine lv_aload_n hx hb dX11_copy_24 rfl (lv_at hl 1 rfl) ?_
    refine z_get hF hG 96 (by decide) z_gs rfl in11 5 (by decide) (List.mem_of_getElem? (i := 1) rfl) rfl rfl dX11_copy_25 ?_
    refine lv_iload_n hx hb dX11_copy_28 rfl (lv_at hl 4 rfl) ?_
    obtain ⟨q9, hw⟩ := hw
    refine z_aald hF hG 91 2 (by decide) z_shelves rfl q9 rfl dX11_copy_29 ?_
    refine z_topo (fun vv10 evv10 => ?_)
    replace hw := hw vv10 evv10
    have hvv10 : vv10 < 8 := by rw [evv10]; exact (z_ib q9)
    refine lv_astore (lv' := [(7, .ref (E.2.1 (60 + vv10))), (6, .ref (E.2.1 (60 + vv8))), (0, .ref (E.2.1 96)), (1, .int a1), (2, .int a2), (3, .int a3), (4, .int a4), (5, .int a5)]) hx hb dX11_copy_30 hl (by decide) rfl (fun ls hl => ?_)
    refine lv_aload hx hb dX11_copy_32 (lv_at hl 1 rfl) ?_
    refine z_get hF hG (60 + vv8) (zc_sh hvv8) (z_sh hvv8) rfl in6 0 (by decide) (List.mem_of_getElem? (i := 2) rfl) rfl rfl dX11_copy_34 ?_
    refine lv_if_eq (tgt := 48) hx hb dX11_copy_37 (by decide) (fun c11 => ?_) (fun c11 => ?_)
    · replace hw := hw.1 c11
      refine lv_bipush (v := (-11)) hx hb dX11_copy_48 (by decide) ?_
      exact z_iret hF hG hr hlk hw dX11_copy_50
    replace hw := hw.2 c11
    refine lv_aload hx hb dX11_copy_40 (lv_at hl 0 rfl) ?_
    refine z_get hF hG (60 + vv10) (zc_sh hvv10) (z_sh hvv10) rfl in6 0 (by decide) (List.mem_of_getElem? (i := 2) rfl) rfl rfl dX11_copy_42 ?_
    refine lv_if_ne (tgt := 51) hx hb dX11_copy_45 (by decide) (fun c12 => ?_) (fun c12 => ?_)
    · replace hw := hw.1 c12
      refine lv_aload hx hb dX11_copy_51 (lv_at hl 1 rfl) ?_
      refine z_get hF hG (60 + vv8) (zc_sh hvv8) (z_sh hvv8) rfl in6 0 (by decide) (List.mem_of_getElem? (i := 2) rfl) rfl rfl dX11_copy_53 ?_
      refine lv_iconst (v := 2) hx hb dX11_copy_56 (by decide) ?_
      refine lv_icmp_ne (tgt := 82) hx hb dX11_copy_57 (by decide) (fun c13 => ?_) (fun c13 => ?_)
      · replace hw := hw.1 c13
        refine lv_bipush (v := (-12)) hx hb dX11_copy_82 (by decide) ?_
        exact z_iret hF hG hr hlk hw dX11_copy_84
      replace hw := hw.2 (fun h => h c13)
      refine lv_aload hx hb dX11_copy_60 (lv_at hl 0 rfl) ?_
      refine z_get hF hG (60 + vv10) (zc_sh hvv10) (z_sh hvv10) rfl in6 0 (by decide) (List.mem_of_getElem? (i := 2) rfl) rfl rfl dX11_copy_62 ?_
      refine lv_iconst (v := 2) hx hb dX11_copy_65 (by decide) ?_
      refine lv_icmp_ne (tgt := 82) hx hb dX11_copy_66 (by decide) (fun c14 => ?_) (fun c14 => ?_)
      · replace hw := hw.1 c14
        refine lv_bipush (v := (-12)) hx hb dX11_copy_82 (by decide) ?_
        exact z_iret hF hG hr hlk hw dX11_copy_84
      replace hw := hw.2 (fun h => h c14)
      refine lv_aload hx hb dX11_copy_69 (lv_at hl 1 rfl) ?_
      refine z_get hF hG (60 + vv8) (zc_sh hvv8) (z_sh hvv8) rfl in6 3 (by decide) (List.mem_of_getElem? (i := 3) rfl) rfl rfl dX11_copy_71 ?_
      refine lv_aload hx hb dX11_copy_74 (lv_at hl 0 rfl) ?_
      refine z_get hF hG (60 + vv10) (zc_sh hvv10) (z_sh hvv10) rfl in6 3 (by decide) (List.mem_of_getElem? (i := 3) rfl) rfl rfl dX11_copy_76 ?_
      refine lv_icmp_eq (tgt := 85) hx hb dX11_copy_79 (by decide) (fun c15 => ?_) (fun c15 => ?_)
      · replace hw := hw.1 c15
        refine lv_aload hx hb dX11_copy_85 (lv_at hl 1 rfl) ?_
        refine lv_iload_n hx hb dX11_copy_87 rfl (lv_at hl 4 rfl) ?_
        refine lv_iload hx hb dX11_copy_88 (lv_at hl 7 rfl) ?_
        refine z_ci (va_runV (rest := []) hF.1 (kX6_hasPlaces l E Z4 vv8 a2 a5 hvv8 hw _) (cwV 2 hts gX11_copy_X6_hasPlaces rfl rfl rfl ⟨rfl, hS_yX6_hasPlaces⟩ ⟨Nat.le_trans (Nat.le_of_ble_eq_true rfl) hfr, Nat.le_trans (Nat.le_of_ble_eq_true rfl) hlo⟩) (z_preV hF hG (60 + vv8) (zc_sh hvv8) (z_sh hvv8) rfl) rfl rfl hl.1 rfl (lv_room (Nat.le_of_ble_eq_true rfl)) dX11_copy_90 ⟨Nat.zero_le _, Nat.zero_le _⟩) hG (fun r17 Z16 H locs hw hG => ?_)
        refine lv_if_eq (tgt := 108) hx hb dX11_copy_93 (by decide) (fun c18 => ?_) (fun c18 => ?_)
        · replace hw := hw.1 c18
          refine lv_bipush (v := (-13)) hx hb dX11_copy_108 (by decide) ?_
          exact z_iret hF hG hr hlk hw dX11_copy_110
        replace hw := hw.2 c18
        refine lv_aload hx hb dX11_copy_96 (lv_at hl 0 rfl) ?_
        refine lv_iload hx hb dX11_copy_98 (lv_at hl 6 rfl) ?_
        refine lv_iload hx hb dX11_copy_100 (lv_at hl 7 rfl) ?_
        refine z_ci (va_runV (rest := []) hF.1 (kX6_hasPlaces l E Z16 vv10 a4 a5 hvv10 hw _) (cwV 2 hts gX11_copy_X6_hasPlaces rfl rfl rfl ⟨rfl, hS_yX6_hasPlaces⟩ ⟨Nat.le_trans (Nat.le_of_ble_eq_true rfl) hfr, Nat.le_trans (Nat.le_of_ble_eq_true rfl) hlo⟩) (z_preV hF hG (60 + vv10) (zc_sh hvv10) (z_sh hvv10) rfl) rfl rfl hl.1 rfl (lv_room (Nat.le_of_ble_eq_true rfl)) dX11_copy_102 ⟨Nat.zero_le _, Nat.zero_le _⟩) hG (fun r20 Z19 H locs hw hG => ?_)
        refine lv_if_ne (tgt := 111) hx hb dX11_copy_105 (by decide) (fun c21 => ?_) (fun c21 => ?_)
        · replace hw := hw.1 c21
          refine lv_aload hx hb dX11_copy_111 (lv_at hl 1 rfl) ?_
          refine z_get hF hG (60 + vv8) (zc_sh hvv8) (z_sh hvv8) rfl in6 5 (by decide) (List.mem_of_getElem? (i := 4) rfl) rfl rfl dX11_copy_113 ?_
          refine lv_iload_n hx hb dX11_copy_116 rfl (lv_at hl 4 rfl) ?_
          refine lv_aload hx hb dX11_copy_117 (lv_at hl 0 rfl) ?_
          refine z_get hF hG (60 + vv10) (zc_sh hvv10) (z_sh hvv10) rfl in6 5 (by decide) (List.mem_of_getElem? (i := 4) rfl) rfl rfl dX11_copy_119 ?_
          refine lv_iload hx hb dX11_copy_122 (lv_at hl 6 rfl) ?_
          refine lv_iload hx hb dX11_copy_124 (lv_at hl 7 rfl) ?_
          obtain ⟨hq, hw⟩ := hw
          refine z_copy hF hG hl.1 (68 + vv8) (68 + vv10) (zc_el hvv8) (zc_el hvv10) (z_el hvv8) (fun _ => (z_el hvv10)) hq (hts (.methodLink RX11 388 arraycopyName) (List.mem_of_getElem? (i := 5) rfl)) (hts (.native arraycopyName) (List.mem_of_getElem? (i := 6) rfl)) (hts (.static arraycopyName) (List.mem_of_getElem? (i := 7) rfl)) (hts (.initialized "java/lang/System") (List.mem_of_getElem? (i := 8) rfl)) (Nat.le_trans (Nat.le_of_ble_eq_true rfl) hfr) (Nat.le_trans (by decide) hlo) dX11_copy_126 (fun Z22 H locs eZ22 hG => ?_)
          replace hw := hw Z22 eZ22
          refine lv_iload hx hb dX11_copy_129 (lv_at hl 7 rfl) ?_
          exact z_iret hF hG hr hlk hw dX11_copy_131
        replace hw := hw.2 (fun h => h c21)
        refine lv_bipush (v := (-13)) hx hb dX11_copy_108 (by decide) ?_
        exact z_iret hF hG hr hlk hw dX11_copy_110
      replace hw := hw.2 c15
      refine lv_bipush (v := (-12)) hx hb dX11_copy_82 (by decide) ?_
      exact z_iret hF hG hr hlk hw dX11_copy_84
    replace hw := hw.2 (fun h => h c12)
    refine lv_bipush (v := (-11)) hx hb dX11_copy_48 (by decide) ?_
    exact z_iret hF hG hr hlk hw dX11_copy_50
  replace hw := hw.2 (fun h => h c6)
  refine lv_iconst (v := (-1)) hx hb dX11_copy_14 (by decide) ?_
  exact z_iret hF hG hr hlk hw dX11_copy_15
theorem hS_yX1_worth : yX1_worth.cls ≠ "java/lang/invoke/MethodHandle" ∧ yX1_worth.cls ≠ "java/lang/invoke/VarHandle" ∧ (parseMethodDescriptor yX1_worth.desc).map (fun d => d.parameters.length) = some 1 := by decide +kernel
theorem hS_yX7_worth : yX7_worth.cls ≠ "java/lang/invoke/MethodHandle" ∧ yX7_worth.cls ≠ "java/lang/invoke/VarHandle" ∧ (parseMethodDescriptor yX7_worth.desc).map (fun d => d.parameters.length) = some 1 := by decide +kernel
theorem hS_yX2_worth : yX2_worth.cls ≠ "java/lang/invoke/MethodHandle" ∧ yX2_worth.cls ≠ "java/lang/invoke/VarHandle" ∧ (parseMethodDescriptor yX2_worth.desc).map (fun d => d.parameters.length) = some 1 := by decide +kernel
theorem hS_yX9_worth : yX9_worth.cls ≠ "java/lang/invoke/MethodHandle" ∧ yX9_worth.cls ≠ "java/lang/invoke/VarHandle" ∧ (parseMethodDescriptor yX9_worth.desc).map (fun d => d.parameters.length) = some 1 := by decide +kernel
set_option maxHeartbeats 4000000 in
set_option maxRecDepth 100000 in
theorem kX11_cost (l : Launch) (E : zE) (Z : zS) (a1 : Int32) {K : Int32 → zS → Prop} (hw : wX11_cost a1 Z K) : zCi l yX11_cost wsX11_cost ({ frames := 4, cells := 0, slots := 0, locals := 85 } : Room) E Z [.ref (E.2.1 96), .int a1] K := by
  refine z_bodyi (cc := cX11_cost) (nL := 3) (ret := .int) (by decide) rfl (Nat.le_of_ble_eq_true rfl) ?_
  intro p e R s m args below meth c ls hfr hlo hF hr hlk hG hl
  have hx := hF.1.1
  have hb := hF.1.2.1
  have hown := hF.1.2.2.2.1
  have hts := hF.1.2.2.2.2
  have in6 : ∀ w ∈ u_ws RX6 TX6 6, w ∈ wsX11_cost := fun _ h => List.mem_cons_of_mem _ (List.mem_append_right _ h)
  have in11 : ∀ w ∈ u_ws RX11 TX11 11, w ∈ wsX11_cost := fun _ h => List.mem_cons_of_mem _ (List.mem_append_left _ (List.mem_append_right _ h))
  have hl : lv_has ls 3 [(0, .ref (E.2.1 96)), (1, .int a1)] := hl
  unfold wX11_cost at hw
  refine lv_aload_n hx hb dX11_cost_0 rfl (lv_at hl 0 rfl) ?_
  refine lv_iload_n hx hb dX11_cost_1 rfl (lv_at hl 1 rfl) ?_
  refine z_ci (va_runV (rest := []) hF.1 (kX11_sortRefusal l E Z a1  hw _) (cwV 1 hts gX11_cost_X11_sortRefusal rfl rfl rfl ⟨rfl, hS_yX11_sortRefusal⟩ ⟨Nat.le_trans (Nat.le_of_ble_eq_true rfl) hfr, Nat.le_trans (Nat.le_of_ble_eq_true rfl) hlo⟩) (z_preV hF hG 96 (by decide) z_gs rfl) rfl rfl hl.1 rfl (lv_room (Nat.le_of_ble_eq_true rfl)) dX11_cost_2 ⟨Nat.zero_le _, Nat.zero_le _⟩) hG (fun r2 Z1 H locs hw hG => ?_)
  refine lv_istore_n (lv' := [(2, .int r2), (0, .ref (E.2.1 96)), (1, .int a1)]) hx hb dX11_cost_5 rfl hl (by decide) rfl (fun ls hl => ?_)
  refine lv_iload_n hx hb dX11_cost_6 rfl (lv_at hl 0 rfl) ?_
  refine lv_if_eq (tgt := 12) hx hb dX11_cost_7 (by decide) (fun c3 => ?_) (fun c3 => ?_)
  · replace hw := hw.1 c3
    refine lv_aload_n hx hb dX11_cost_12 rfl (lv_at hl 1 rfl) ?_
    refine z_get hF hG 96 (by decide) z_gs rfl in11 5 (by decide) (List.mem_of_getElem? (i := 1) rfl) rfl rfl dX11_cost_13 ?_
    refine lv_iload_n hx hb dX11_cost_16 rfl (lv_at hl 2 rfl) ?_
    obtain ⟨q4, hw⟩ := hw
    refine z_aald hF hG 91 2 (by decide) z_shelves rfl q4 rfl dX11_cost_17 ?_
    refine z_get (v := .ref (E.2.1 (84 + ((Z1 (60 + (a1 : Int32).toNatClampNeg) 1) : Int32).toNatClampNeg))) hF hG (60 + (a1 : Int32).toNatClampNeg) (zc_sh (z_ib q4)) (z_sh (z_ib q4)) rfl in6 1 (by decide) (List.mem_of_getElem? (i := 2) rfl) rfl rfl dX11_cost_18 ?_
    refine lv_aload_n hx hb dX11_cost_21 rfl (lv_at hl 1 rfl) ?_
    refine z_get hF hG 96 (by decide) z_gs rfl in11 5 (by decide) (List.mem_of_getElem? (i := 1) rfl) rfl rfl dX11_cost_22 ?_
    refine lv_iload_n hx hb dX11_cost_25 rfl (lv_at hl 2 rfl) ?_
    obtain ⟨q5, hw⟩ := hw
    refine z_aald hF hG 91 2 (by decide) z_shelves rfl q5 rfl dX11_cost_26 ?_
    refine z_get hF hG (60 + (a1 : Int32).toNatClampNeg) (zc_sh (z_ib q5)) (z_sh (z_ib q5)) rfl in6 2 (by decide) (List.mem_of_getElem? (i := 3) rfl) rfl rfl dX11_cost_27 ?_
    obtain ⟨K1, hK1, hw⟩ : ∃ K1, _ = K1 ∧ d_worth ((Z1 (60 + (a1 : Int32).toNatClampNeg) 1)) ((Z1 (60 + (a1 : Int32).toNatClampNeg) 2)) Z1 K1 := ⟨_, rfl, hw⟩
    have hrun : va_Run p l e R s m args below meth c H locs 0 0 0 0 (F0 m 30 ls [.int ((Z1 (60 + (a1 : Int32).toNatClampNeg) 2)), .ref (E.2.1 (84 + ((Z1 (60 + (a1 : Int32).toNatClampNeg) 1) : Int32).toNatClampNeg))]) [] (va_Qi K1 (zB E) (zA E H.size) ([.ref (E.2.1 (84 + ((Z1 (60 + (a1 : Int32).toNatClampNeg) 1) : Int32).toNatClampNeg)), .int ((Z1 (60 + (a1 : Int32).toNatClampNeg) 2))] : List Value).toArray) (zA E H.size) := by
      rcases hw.1 with h | h | h | h | h | h
      · exact va_runV hF.1 (kX1_worth l E Z1 ((Z1 (60 + (a1 : Int32).toNatClampNeg) 1)) ((Z1 (60 + (a1 : Int32).toNatClampNeg) 2))  (hw.2.1 h) _) (cwV 1 hts gX11_cost_X1_worth rfl rfl rfl ⟨rfl, hS_yX1_worth⟩ ⟨Nat.le_trans (Nat.le_of_ble_eq_true rfl) hfr, Nat.le_trans (Nat.le_of_ble_eq_true rfl) hlo⟩) (z_preV hF hG (84 + ((Z1 (60 + (a1 : Int32).toNatClampNeg) 1) : Int32).toNatClampNeg) (zKi.lt hw.1) (z_k0 h) rfl) rfl rfl hl.1 rfl (lv_room (Nat.le_of_ble_eq_true rfl)) dX11_cost_30 ⟨Nat.zero_le _, Nat.zero_le _⟩
      · exact va_runU hF.1 (kX0_worth l E Z1 ((Z1 (60 + (a1 : Int32).toNatClampNeg) 1)) ((Z1 (60 + (a1 : Int32).toNatClampNeg) 2))  (hw.2.2.1 h) _) (va_cwO 1 hts gX11_cost_X0_worth_u394X0 rfl rfl rfl (b0 := cX1_worth) (m0 := 2) (r0 := (some .int)) (List.mem_of_getElem? (i := 27) rfl) hS_yX1_worth ⟨Nat.le_trans (Nat.le_of_ble_eq_true rfl) hfr, Nat.le_trans (Nat.le_of_ble_eq_true rfl) hlo⟩) (z_preV hF hG (84 + ((Z1 (60 + (a1 : Int32).toNatClampNeg) 1) : Int32).toNatClampNeg) (zKi.lt hw.1) (z_k1 h) rfl) rfl rfl hl.1 rfl (lv_room (Nat.le_of_ble_eq_true rfl)) dX11_cost_30 ⟨Nat.zero_le _, Nat.zero_le _⟩
      · exact va_runU hF.1 (kX4_worth l E Z1 ((Z1 (60 + (a1 : Int32).toNatClampNeg) 1)) ((Z1 (60 + (a1 : Int32).toNatClampNeg) 2))  (hw.2.2.2.1 h) _) (va_cwO 1 hts gX11_cost_X4_worth_u394X4 rfl rfl rfl (b0 := cX1_worth) (m0 := 2) (r0 := (some .int)) (List.mem_of_getElem? (i := 27) rfl) hS_yX1_worth ⟨Nat.le_trans (Nat.le_of_ble_eq_true rfl) hfr, Nat.le_trans (Nat.le_of_ble_eq_true rfl) hlo⟩) (z_preV hF hG (84 + ((Z1 (60 + (a1 : Int32).toNatClampNeg) 1) : Int32).toNatClampNeg) (zKi.lt hw.1) (z_k2 h) rfl) rfl rfl hl.1 rfl (lv_room (Nat.le_of_ble_eq_true rfl)) dX11_cost_30 ⟨Nat.zero_le _, Nat.zero_le _⟩
      · exact va_runU hF.1 (kX7_worth l E Z1 ((Z1 (60 + (a1 : Int32).toNatClampNeg) 1)) ((Z1 (60 + (a1 : Int32).toNatClampNeg) 2))  (hw.2.2.2.2.1 h) _) (va_cwO 1 hts gX11_cost_X7_worth_u394X7 rfl rfl rfl (b0 := cX1_worth) (m0 := 2) (r0 := (some .int)) (List.mem_of_getElem? (i := 27) rfl) hS_yX1_worth ⟨Nat.le_trans (Nat.le_of_ble_eq_true rfl) hfr, Nat.le_trans (Nat.le_of_ble_eq_true rfl) hlo⟩) (z_preV hF hG (84 + ((Z1 (60 + (a1 : Int32).toNatClampNeg) 1) : Int32).toNatClampNeg) (zKi.lt hw.1) (z_k3 h) rfl) rfl rfl hl.1 rfl (lv_room (Nat.le_of_ble_eq_true rfl)) dX11_cost_30 ⟨Nat.zero_le _, Nat.zero_le _⟩
      · exact va_runU hF.1 (kX2_worth l E Z1 ((Z1 (60 + (a1 : Int32).toNatClampNeg) 1)) ((Z1 (60 + (a1 : Int32).toNatClampNeg) 2))  (hw.2.2.2.2.2.1 h) _) (va_cwO 1 hts gX11_cost_X2_worth_u394X2 rfl rfl rfl (b0 := cX1_worth) (m0 := 2) (r0 := (some .int)) (List.mem_of_getElem? (i := 27) rfl) hS_yX1_worth ⟨Nat.le_trans (Nat.le_of_ble_eq_true rfl) hfr, Nat.le_trans (Nat.le_of_ble_eq_true rfl) hlo⟩) (z_preV hF hG (84 + ((Z1 (60 + (a1 : Int32).toNatClampNeg) 1) : Int32).toNatClampNeg) (zKi.lt hw.1) (z_k4 h) rfl) rfl rfl hl.1 rfl (lv_room (Nat.le_of_ble_eq_true rfl)) dX11_cost_30 ⟨Nat.zero_le _, Nat.zero_le _⟩
      · exact va_runU hF.1 (kX9_worth l E Z1 ((Z1 (60 + (a1 : Int32).toNatClampNeg) 1)) ((Z1 (60 + (a1 : Int32).toNatClampNeg) 2))  (hw.2.2.2.2.2.2 h) _) (va_cwO 1 hts gX11_cost_X9_worth_u394X9 rfl rfl rfl (b0 := cX1_worth) (m0 := 2) (r0 := (some .int)) (List.mem_of_getElem? (i := 27) rfl) hS_yX1_worth ⟨Nat.le_trans (Nat.le_of_ble_eq_true rfl) hfr, Nat.le_trans (Nat.le_of_ble_eq_true rfl) hlo⟩) (z_preV hF hG (84 + ((Z1 (60 + (a1 : Int32).toNatClampNeg) 1) : Int32).toNatClampNeg) (zKi.lt hw.1) (z_k5 h) rfl) rfl rfl hl.1 rfl (lv_room (Nat.le_of_ble_eq_true rfl)) dX11_cost_30 ⟨Nat.zero_le _, Nat.zero_le _⟩
    subst hK1
    refine z_ci hrun hG (fun r7 Z6 H locs hw hG => ?_)
    exact z_iret hF hG hr hlk hw dX11_cost_33
  replace hw := hw.2 c3
  refine lv_iload_n hx hb dX11_cost_10 rfl (lv_at hl 0 rfl) ?_
  exact z_iret hF hG hr hlk hw dX11_cost_11
