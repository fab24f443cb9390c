set_option maxHeartbeats 4000000 in
set_option maxRecDepth 100000 in
theorem kX0_pays (l : Launch) (E : zE) (Z : zS) (v : Int32) (u1 : Nat) (a2 : Int32) (hu1 : u1 < 18) {K : Int32 → zS → Prop} (hw : wX0_pays v u1 a2 Z K) : zCi l yX0_pays wsX0_pays ({ frames := 1, cells := 0, slots := 0, locals := 13 } : Room) E Z [.ref (E.2.1 (84 + (v : Int32).toNatClampNeg)), .ref (E.2.1 u1), .int a2] K := by
  refine z_bodyi (cc := cX0_pays) (nL := 3) (ret := .int) (by decide) rfl (Nat.le_of_ble_eq_true rfl) ?_
  intro p e R s m args below meth c ls hfr hlo hF hr hlk hG hl
  have hx := hF.1.1
  have hb := hF.1.2.1
  have hown := hF.1.2.2.2.1
  have hts := hF.1.2.2.2.2
  have in5 : ∀ w ∈ u_ws RX5 TX5 15, w ∈ wsX0_pays := fun _ h => List.mem_cons_of_mem _ (List.mem_append_right _ h)
  have hl : lv_has ls 3 [(0, .ref (E.2.1 (84 + (v : Int32).toNatClampNeg))), (1, .ref (E.2.1 u1)), (2, .int a2)] := hl
  unfold wX0_pays at hw
  refine lv_iload_n hx hb dX0_pays_0 rfl (lv_at hl 2 rfl) ?_
  refine lv_aload_n hx hb dX0_pays_1 rfl (lv_at hl 1 rfl) ?_
  refine z_get hF hG u1 (zc_sv hu1) (z_sv hu1) rfl in5 4 (by decide) (List.mem_of_getElem? (i := 1) rfl) rfl rfl dX0_pays_2 ?_
  refine va_mmax hx hb (hF.1.2.2.1.trans hl.1.symm) hown (hts (.methodLink RX0 15 Lib.Math.max.name) (List.mem_of_getElem? (i := 2) rfl)) (hts (.static Lib.Math.max.name) (List.mem_of_getElem? (i := 3) rfl)) (hts (.initialized "java/lang/Math") (List.mem_of_getElem? (i := 4) rfl)) (hts (.code Lib.Math.max.name Lib.Math.max.code 2 (some .int)) (List.mem_of_getElem? (i := 5) rfl)) (Nat.le_trans (Nat.le_of_ble_eq_true rfl) hfr) (Nat.le_trans (Nat.le_of_ble_eq_true rfl) hlo) (Nat.zero_le _) (Nat.zero_le _) dX0_pays_5 ?_
  refine lv_bipush (v := 60) hx hb dX0_pays_8 (by decide) ?_
  refine va_mmin hx hb (hF.1.2.2.1.trans hl.1.symm) hown (hts (.methodLink RX0 21 Lib.Math.min.name) (List.mem_of_getElem? (i := 6) rfl)) (hts (.static Lib.Math.min.name) (List.mem_of_getElem? (i := 7) rfl)) (hts (.initialized "java/lang/Math") (List.mem_of_getElem? (i := 4) rfl)) (hts (.code Lib.Math.min.name Lib.Math.min.code 2 (some .int)) (List.mem_of_getElem? (i := 8) rfl)) (Nat.le_trans (Nat.le_of_ble_eq_true rfl) hfr) (Nat.le_trans (Nat.le_of_ble_eq_true rfl) hlo) (Nat.zero_le _) (Nat.zero_le _) dX0_pays_10 ?_
  exact z_iret hF hG hr hlk hw dX0_pays_13
set_option maxHeartbeats 4000000 in
set_option maxRecDepth 100000 in
theorem kX0_worth (l : Launch) (E : zE) (Z : zS) (v : Int32) (a1 : Int32) {K : Int32 → zS → Prop} (hw : wX0_worth v a1 Z K) : zCi l yX0_worth wsX0_worth ({ frames := 0, cells := 0, slots := 0, locals := 0 } : Room) E Z [.ref (E.2.1 (84 + (v : Int32).toNatClampNeg)), .int a1] K := by
  refine z_bodyi (cc := cX0_worth) (nL := 2) (ret := .int) (by decide) rfl (Nat.le_of_ble_eq_true rfl) ?_
  intro p e R s m args below meth c ls hfr hlo hF hr hlk hG hl
  have hx := hF.1.1
  have hb := hF.1.2.1
  have hown := hF.1.2.2.2.1
  have hts := hF.1.2.2.2.2
  have hl : lv_has ls 2 [(0, .ref (E.2.1 (84 + (v : Int32).toNatClampNeg))), (1, .int a1)] := hl
  unfold wX0_worth at hw
  refine lv_iconst (v := 1) hx hb dX0_worth_0 (by decide) ?_
  exact z_iret hF hG hr hlk hw dX0_worth_1
set_option maxHeartbeats 4000000 in
set_option maxRecDepth 100000 in
theorem kX1_isOrIsUnder (l : Launch) (E : zE) (Z : zS) (v : Int32) (u1 : Int32) {K : Int32 → zS → Prop} (hw : wX1_isOrIsUnder v u1 Z K) : zCi l yX1_isOrIsUnder wsX1_isOrIsUnder ({ frames := 0, cells := 0, slots := 0, locals := 0 } : Room) E Z [.ref (E.2.1 (84 + v.toNatClampNeg)), .ref (E.2.1 (84 + u1.toNatClampNeg))] K := by
  refine z_bodyi (cc := cX1_isOrIsUnder) (nL := 3) (ret := .boolean) (by decide) rfl (Nat.le_of_ble_eq_true rfl) ?_
  intro p e R s m args below meth c ls hfr hlo hF hr hlk hG hl
  have hx := hF.1.1
  have hb := hF.1.2.1
  obtain ⟨hv, hu, hw⟩ := hw
  have in0 : ∀ w ∈ u_ws RX0 TX0 2, w ∈ wsX1_isOrIsUnder := fun _ h => List.mem_cons_of_mem _ (List.mem_append_left _ (List.mem_append_left _ (List.mem_append_left _ (List.mem_append_left _ (List.mem_append_left _ (List.mem_append_right _ h))))))
  have in1 : ∀ w ∈ u_ws RX1 TX1 2, w ∈ wsX1_isOrIsUnder := fun _ h => List.mem_cons_of_mem _ (List.mem_append_left _ (List.mem_append_left _ (List.mem_append_left _ (List.mem_append_left _ (List.mem_append_right _ h)))))
  have in2 : ∀ w ∈ u_ws RX2 TX2 2, w ∈ wsX1_isOrIsUnder := fun _ h => List.mem_cons_of_mem _ (List.mem_append_left _ (List.mem_append_left _ (List.mem_append_left _ (List.mem_append_right _ h))))
  have in4 : ∀ w ∈ u_ws RX4 TX4 2, w ∈ wsX1_isOrIsUnder := fun _ h => List.mem_cons_of_mem _ (List.mem_append_left _ (List.mem_append_left _ (List.mem_append_right _ h)))
  have in7 : ∀ w ∈ u_ws RX7 TX7 2, w ∈ wsX1_isOrIsUnder := fun _ h => List.mem_cons_of_mem _ (List.mem_append_left _ (List.mem_append_right _ h))
  have in9 : ∀ w ∈ u_ws RX9 TX9 2, w ∈ wsX1_isOrIsUnder := fun _ h => List.mem_cons_of_mem _ (List.mem_append_right _ h)
  have J0 : ∀ ls : Array Slot, lv_has ls 3 [(0, .ref (E.2.1 (84 + v.toNatClampNeg))), (1, .ref (E.2.1 (84 + u1.toNatClampNeg))), (2, .ref (E.2.1 (84 + (0 : Int32).toNatClampNeg)))] → K (zch0 u1) Z → W p l e R s m args below meth c s.heap [] 0 0 (zQi E K below args s) (F0 m 2 ls []) := by
    intro ls hl hw
    unfold zch0 at hw
    refine lv_aload_n hx hb dX1_isOrIsUnder_2 rfl (lv_at hl 2 rfl) ?_
    refine lv_ifnull hx hb dX1_isOrIsUnder_3 ?_
    refine lv_aload_n hx hb dX1_isOrIsUnder_6 rfl (lv_at hl 2 rfl) ?_
    refine z_num hF hG (x := 0) (by unfold zKi; decide) in0 in1 in2 in4 in7 in9 (by decide +kernel) dX1_isOrIsUnder_7 ?_
    refine lv_aload_n hx hb dX1_isOrIsUnder_10 rfl (lv_at hl 1 rfl) ?_
    refine z_num hF hG hu in0 in1 in2 in4 in7 in9 (by decide +kernel) dX1_isOrIsUnder_11 ?_
    refine lv_icmp_ne (tgt := 19) hx hb dX1_isOrIsUnder_14 (by decide) (fun c => ?_) (fun c => ?_)
    · rw [if_neg (fun h => c h.symm)] at hw
      refine lv_aload_n hx hb dX1_isOrIsUnder_19 rfl (lv_at hl 2 rfl) ?_
      refine z_get hF hG (84 + (0 : Int32).toNatClampNeg) (by decide) (z_k0 rfl) rfl in1 1 (by decide) (by decide +kernel) rfl rfl dX1_isOrIsUnder_20 ?_
      refine lv_astore_nN (lv' := [(2, .null), (0, .ref (E.2.1 (84 + v.toNatClampNeg))), (1, .ref (E.2.1 (84 + u1.toNatClampNeg)))]) hx hb dX1_isOrIsUnder_23 rfl hl (by decide) rfl (fun ls hl => ?_)
      refine lv_goto (tgt := 2) hx hb dX1_isOrIsUnder_24 (by decide) ?_
      refine lv_aload_nN hx hb dX1_isOrIsUnder_2 rfl (lv_at hl 0 rfl) ?_
      refine lv_ifnullN (tgt := 27) hx hb dX1_isOrIsUnder_3 (by decide) ?_
      refine lv_iconst (v := 0) hx hb dX1_isOrIsUnder_27 (by decide) ?_
      exact z_zret hF hG hr hlk (by decide) hw dX1_isOrIsUnder_28
    · rw [if_pos c.symm] at hw
      refine lv_iconst (v := 1) hx hb dX1_isOrIsUnder_17 (by decide) ?_
      exact z_zret hF hG hr hlk (by decide) hw dX1_isOrIsUnder_18
  have J1 : ∀ ls : Array Slot, lv_has ls 3 [(0, .ref (E.2.1 (84 + v.toNatClampNeg))), (1, .ref (E.2.1 (84 + u1.toNatClampNeg))), (2, .ref (E.2.1 (84 + (1 : Int32).toNatClampNeg)))] → K (zch1 u1) Z → W p l e R s m args below meth c s.heap [] 0 0 (zQi E K below args s) (F0 m 2 ls []) := by
    intro ls hl hw
    unfold zch1 at hw
    refine lv_aload_n hx hb dX1_isOrIsUnder_2 rfl (lv_at hl 2 rfl) ?_
    refine lv_ifnull hx hb dX1_isOrIsUnder_3 ?_
    refine lv_aload_n hx hb dX1_isOrIsUnder_6 rfl (lv_at hl 2 rfl) ?_
    refine z_num hF hG (x := 1) (by unfold zKi; decide) in0 in1 in2 in4 in7 in9 (by decide +kernel) dX1_isOrIsUnder_7 ?_
    refine lv_aload_n hx hb dX1_isOrIsUnder_10 rfl (lv_at hl 1 rfl) ?_
    refine z_num hF hG hu in0 in1 in2 in4 in7 in9 (by decide +kernel) dX1_isOrIsUnder_11 ?_
    refine lv_icmp_ne (tgt := 19) hx hb dX1_isOrIsUnder_14 (by decide) (fun c => ?_) (fun c => ?_)
    · rw [if_neg (fun h => c h.symm)] at hw
      refine lv_aload_n hx hb dX1_isOrIsUnder_19 rfl (lv_at hl 2 rfl) ?_
      refine z_get hF hG (84 + (1 : Int32).toNatClampNeg) (by decide) (z_k1 rfl) rfl in0 1 (by decide) (by decide +kernel) rfl rfl dX1_isOrIsUnder_20 ?_
      refine lv_astore_n (lv' := [(2, .ref (E.2.1 (84 + (0 : Int32).toNatClampNeg))), (0, .ref (E.2.1 (84 + v.toNatClampNeg))), (1, .ref (E.2.1 (84 + u1.toNatClampNeg)))]) hx hb dX1_isOrIsUnder_23 rfl hl (by decide) rfl (fun ls hl => ?_)
      refine lv_goto (tgt := 2) hx hb dX1_isOrIsUnder_24 (by decide) ?_
      exact J0 ls (lv_sub hl [1, 2, 0] rfl) hw
    · rw [if_pos c.symm] at hw
      refine lv_iconst (v := 1) hx hb dX1_isOrIsUnder_17 (by decide) ?_
      exact z_zret hF hG hr hlk (by decide) hw dX1_isOrIsUnder_18
  have J2 : ∀ ls : Array Slot, lv_has ls 3 [(0, .ref (E.2.1 (84 + v.toNatClampNeg))), (1, .ref (E.2.1 (84 + u1.toNatClampNeg))), (2, .ref (E.2.1 (84 + (2 : Int32).toNatClampNeg)))] → K (zch2 u1) Z → W p l e R s m args below meth c s.heap [] 0 0 (zQi E K below args s) (F0 m 2 ls []) := by
    intro ls hl hw
    unfold zch2 at hw
    refine lv_aload_n hx hb dX1_isOrIsUnder_2 rfl (lv_at hl 2 rfl) ?_
    refine lv_ifnull hx hb dX1_isOrIsUnder_3 ?_
    refine lv_aload_n hx hb dX1_isOrIsUnder_6 rfl (lv_at hl 2 rfl) ?_
    refine z_num hF hG (x := 2) (by unfold zKi; decide) in0 in1 in2 in4 in7 in9 (by decide +kernel) dX1_isOrIsUnder_7 ?_
    refine lv_aload_n hx hb dX1_isOrIsUnder_10 rfl (lv_at hl 1 rfl) ?_
    refine z_num hF hG hu in0 in1 in2 in4 in7 in9 (by decide +kernel) dX1_isOrIsUnder_11 ?_
    refine lv_icmp_ne (tgt := 19) hx hb dX1_isOrIsUnder_14 (by decide) (fun c => ?_) (fun c => ?_)
    · rw [if_neg (fun h => c h.symm)] at hw
      refine lv_aload_n hx hb dX1_isOrIsUnder_19 rfl (lv_at hl 2 rfl) ?_
      refine z_get hF hG (84 + (2 : Int32).toNatClampNeg) (by decide) (z_k2 rfl) rfl in4 1 (by decide) (by decide +kernel) rfl rfl dX1_isOrIsUnder_20 ?_
      refine lv_astore_n (lv' := [(2, .ref (E.2.1 (84 + (0 : Int32).toNatClampNeg))), (0, .ref (E.2.1 (84 + v.toNatClampNeg))), (1, .ref (E.2.1 (84 + u1.toNatClampNeg)))]) hx hb dX1_isOrIsUnder_23 rfl hl (by decide) rfl (fun ls hl => ?_)
      refine lv_goto (tgt := 2) hx hb dX1_isOrIsUnder_24 (by decide) ?_
      exact J0 ls (lv_sub hl [1, 2, 0] rfl) hw
    · rw [if_pos c.symm] at hw
      refine lv_iconst (v := 1) hx hb dX1_isOrIsUnder_17 (by decide) ?_
      exact z_zret hF hG hr hlk (by decide) hw dX1_isOrIsUnder_18
  have J3 : ∀ ls : Array Slot, lv_has ls 3 [(0, .ref (E.2.1 (84 + v.toNatClampNeg))), (1, .ref (E.2.1 (84 + u1.toNatClampNeg))), (2, .ref (E.2.1 (84 + (3 : Int32).toNatClampNeg)))] → K (zch3 u1) Z → W p l e R s m args below meth c s.heap [] 0 0 (zQi E K below args s) (F0 m 2 ls []) := by
    intro ls hl hw
    unfold zch3 at hw
    refine lv_aload_n hx hb dX1_isOrIsUnder_2 rfl (lv_at hl 2 rfl) ?_
    refine lv_ifnull hx hb dX1_isOrIsUnder_3 ?_
    refine lv_aload_n hx hb dX1_isOrIsUnder_6 rfl (lv_at hl 2 rfl) ?_
    refine z_num hF hG (x := 3) (by unfold zKi; decide) in0 in1 in2 in4 in7 in9 (by decide +kernel) dX1_isOrIsUnder_7 ?_
    refine lv_aload_n hx hb dX1_isOrIsUnder_10 rfl (lv_at hl 1 rfl) ?_
    refine z_num hF hG hu in0 in1 in2 in4 in7 in9 (by decide +kernel) dX1_isOrIsUnder_11 ?_
    refine lv_icmp_ne (tgt := 19) hx hb dX1_isOrIsUnder_14 (by decide) (fun c => ?_) (fun c => ?_)
    · rw [if_neg (fun h => c h.symm)] at hw
      refine lv_aload_n hx hb dX1_isOrIsUnder_19 rfl (lv_at hl 2 rfl) ?_
      refine z_get hF hG (84 + (3 : Int32).toNatClampNeg) (by decide) (z_k3 rfl) rfl in7 1 (by decide) (by decide +kernel) rfl rfl dX1_isOrIsUnder_20 ?_
      refine lv_astore_n (lv' := [(2, .ref (E.2.1 (84 + (1 : Int32).toNatClampNeg))), (0, .ref (E.2.1 (84 + v.toNatClampNeg))), (1, .ref (E.2.1 (84 + u1.toNatClampNeg)))]) hx hb dX1_isOrIsUnder_23 rfl hl (by decide) rfl (fun ls hl => ?_)
      refine lv_goto (tgt := 2) hx hb dX1_isOrIsUnder_24 (by decide) ?_
      exact J1 ls (lv_sub hl [1, 2, 0] rfl) hw
    · rw [if_pos c.symm] at hw
      refine lv_iconst (v := 1) hx hb dX1_isOrIsUnder_17 (by decide) ?_
      exact z_zret hF hG hr hlk (by decide) hw dX1_isOrIsUnder_18
  have J4 : ∀ ls : Array Slot, lv_has ls 3 [(0, .ref (E.2.1 (84 + v.toNatClampNeg))), (1, .ref (E.2.1 (84 + u1.toNatClampNeg))), (2, .ref (E.2.1 (84 + (4 : Int32).toNatClampNeg)))] → K (zch4 u1) Z → W p l e R s m args below meth c s.heap [] 0 0 (zQi E K below args s) (F0 m 2 ls []) := by
    intro ls hl hw
    unfold zch4 at hw
    refine lv_aload_n hx hb dX1_isOrIsUnder_2 rfl (lv_at hl 2 rfl) ?_
    refine lv_ifnull hx hb dX1_isOrIsUnder_3 ?_
    refine lv_aload_n hx hb dX1_isOrIsUnder_6 rfl (lv_at hl 2 rfl) ?_
    refine z_num hF hG (x := 4) (by unfold zKi; decide) in0 in1 in2 in4 in7 in9 (by decide +kernel) dX1_isOrIsUnder_7 ?_
    refine lv_aload_n hx hb dX1_isOrIsUnder_10 rfl (lv_at hl 1 rfl) ?_
    refine z_num hF hG hu in0 in1 in2 in4 in7 in9 (by decide +kernel) dX1_isOrIsUnder_11 ?_
    refine lv_icmp_ne (tgt := 19) hx hb dX1_isOrIsUnder_14 (by decide) (fun c => ?_) (fun c => ?_)
    · rw [if_neg (fun h => c h.symm)] at hw
      refine lv_aload_n hx hb dX1_isOrIsUnder_19 rfl (lv_at hl 2 rfl) ?_
      refine z_get hF hG (84 + (4 : Int32).toNatClampNeg) (by decide) (z_k4 rfl) rfl in2 1 (by decide) (by decide +kernel) rfl rfl dX1_isOrIsUnder_20 ?_
      refine lv_astore_n (lv' := [(2, .ref (E.2.1 (84 + (1 : Int32).toNatClampNeg))), (0, .ref (E.2.1 (84 + v.toNatClampNeg))), (1, .ref (E.2.1 (84 + u1.toNatClampNeg)))]) hx hb dX1_isOrIsUnder_23 rfl hl (by decide) rfl (fun ls hl => ?_)
      refine lv_goto (tgt := 2) hx hb dX1_isOrIsUnder_24 (by decide) ?_
      exact J1 ls (lv_sub hl [1, 2, 0] rfl) hw
    · rw [if_pos c.symm] at hw
      refine lv_iconst (v := 1) hx hb dX1_isOrIsUnder_17 (by decide) ?_
      exact z_zret hF hG hr hlk (by decide) hw dX1_isOrIsUnder_18
  have J5 : ∀ ls : Array Slot, lv_has ls 3 [(0, .ref (E.2.1 (84 + v.toNatClampNeg))), (1, .ref (E.2.1 (84 + u1.toNatClampNeg))), (2, .ref (E.2.1 (84 + (5 : Int32).toNatClampNeg)))] → K (zch5 u1) Z → W p l e R s m args below meth c s.heap [] 0 0 (zQi E K below args s) (F0 m 2 ls []) := by
    intro ls hl hw
    unfold zch5 at hw
    refine lv_aload_n hx hb dX1_isOrIsUnder_2 rfl (lv_at hl 2 rfl) ?_
    refine lv_ifnull hx hb dX1_isOrIsUnder_3 ?_
    refine lv_aload_n hx hb dX1_isOrIsUnder_6 rfl (lv_at hl 2 rfl) ?_
    refine z_num hF hG (x := 5) (by unfold zKi; decide) in0 in1 in2 in4 in7 in9 (by decide +kernel) dX1_isOrIsUnder_7 ?_
    refine lv_aload_n hx hb dX1_isOrIsUnder_10 rfl (lv_at hl 1 rfl) ?_
    refine z_num hF hG hu in0 in1 in2 in4 in7 in9 (by decide +kernel) dX1_isOrIsUnder_11 ?_
    refine lv_icmp_ne (tgt := 19) hx hb dX1_isOrIsUnder_14 (by decide) (fun c => ?_) (fun c => ?_)
    · rw [if_neg (fun h => c h.symm)] at hw
      refine lv_aload_n hx hb dX1_isOrIsUnder_19 rfl (lv_at hl 2 rfl) ?_
      refine z_get hF hG (84 + (5 : Int32).toNatClampNeg) (by decide) (z_k5 rfl) rfl in9 1 (by decide) (by decide +kernel) rfl rfl dX1_isOrIsUnder_20 ?_
      refine lv_astore_n (lv' := [(2, .ref (E.2.1 (84 + (2 : Int32).toNatClampNeg))), (0, .ref (E.2.1 (84 + v.toNatClampNeg))), (1, .ref (E.2.1 (84 + u1.toNatClampNeg)))]) hx hb dX1_isOrIsUnder_23 rfl hl (by decide) rfl (fun ls hl => ?_)
      refine lv_goto (tgt := 2) hx hb dX1_isOrIsUnder_24 (by decide) ?_
      exact J2 ls (lv_sub hl [1, 2, 0] rfl) hw
    · rw [if_pos c.symm] at hw
      refine lv_iconst (v := 1) hx hb dX1_isOrIsUnder_17 (by decide) ?_
      exact z_zret hF hG hr hlk (by decide) hw dX1_isOrIsUnder_18
  have hl : lv_has ls 3 [(0, .ref (E.2.1 (84 + v.toNatClampNeg))), (1, .ref (E.2.1 (84 + u1.toNatClampNeg)))] := hl
  refine lv_aload_n hx hb dX1_isOrIsUnder_0 rfl (lv_at hl 0 rfl) ?_
  refine lv_astore_n (lv' := [(2, .ref (E.2.1 (84 + v.toNatClampNeg))), (0, .ref (E.2.1 (84 + v.toNatClampNeg))), (1, .ref (E.2.1 (84 + u1.toNatClampNeg)))]) hx hb dX1_isOrIsUnder_1 rfl hl (by decide) rfl (fun ls hl => ?_)
  have hl := lv_sub hl [1, 2, 0] rfl
  rcases hv with rfl | rfl | rfl | rfl | rfl | rfl
  · exact J0 ls hl hw
  · exact J1 ls hl hw
  · exact J2 ls hl hw
  · exact J3 ls hl hw
  · exact J4 ls hl hw
  · exact J5 ls hl hw
set_option maxHeartbeats 4000000 in
set_option maxRecDepth 100000 in
theorem kX1_pays (l : Launch) (E : zE) (Z : zS) (v : Int32) (u1 : Nat) (a2 : Int32) (hu1 : u1 < 18) {K : Int32 → zS → Prop} (hw : wX1_pays v u1 a2 Z K) : zCi l yX1_pays wsX1_pays ({ frames := 0, cells := 0, slots := 0, locals := 0 } : Room) E Z [.ref (E.2.1 (84 + (v : Int32).toNatClampNeg)), .ref (E.2.1 u1), .int a2] K := by
  refine z_bodyi (cc := cX1_pays) (nL := 3) (ret := .int) (by decide) rfl (Nat.le_of_ble_eq_true rfl) ?_
  intro p e R s m args below meth c ls hfr hlo hF hr hlk hG hl
  have hx := hF.1.1
  have hb := hF.1.2.1
  have hown := hF.1.2.2.2.1
  have hts := hF.1.2.2.2.2
  have hl : lv_has ls 3 [(0, .ref (E.2.1 (84 + (v : Int32).toNatClampNeg))), (1, .ref (E.2.1 u1)), (2, .int a2)] := hl
  unfold wX1_pays at hw
  refine lv_bipush (v := 60) hx hb dX1_pays_0 (by decide) ?_
  exact z_iret hF hG hr hlk hw dX1_pays_2
set_option maxHeartbeats 4000000 in
set_option maxRecDepth 100000 in
theorem kX1_refill (l : Launch) (E : zE) (Z : zS) (v : Int32) (u1 : Nat) (hu1 : u1 < 18) {K : zS → Prop} (hw : wX1_refill v u1 Z K) : zCv l yX1_refill wsX1_refill ({ frames := 0, cells := 0, slots := 0, locals := 0 } : Room) E Z [.ref (E.2.1 (84 + (v : Int32).toNatClampNeg)), .ref (E.2.1 u1)] K := by
  refine z_bodyv (cc := cX1_refill) (nL := 3) (by decide) rfl (Nat.le_of_ble_eq_true rfl) ?_
  intro p e R s m args below meth c ls hfr hlo hF hr hlk hG hl
  have hx := hF.1.1
  have hb := hF.1.2.1
  have hown := hF.1.2.2.2.1
  have hts := hF.1.2.2.2.2
  have in5 : ∀ w ∈ u_ws RX5 TX5 15, w ∈ wsX1_refill := fun _ h => List.mem_cons_of_mem _ (List.mem_append_right _ h)
  have hl : lv_has ls 3 [(0, .ref (E.2.1 (84 + (v : Int32).toNatClampNeg))), (1, .ref (E.2.1 u1))] := hl
  have S2 : ∀ (L2 : Int32 → zS → Prop), (∀ (x2 : Int32) (Z : zS) (H : Heap) (locs : List Loc) (ls : Array Slot), zG E Z s H locs → lv_has ls 3 [(1, .ref (E.2.1 u1)), (2, .int x2)] → L2 x2 Z → W p l e R s m args below meth c H locs 0 0 (zQv E K below args s) (F0 m 2 ls [])) → ∀ (x2 : Int32) (Z : zS) (H : Heap) (locs : List Loc) (ls : Array Slot), zG E Z s H locs → lv_has ls 3 [(1, .ref (E.2.1 u1)), (2, .int x2)] → wX1_refill_2b L2 v u1 x2 Z K → W p l e R s m args below meth c H locs 0 0 (zQv E K below args s) (F0 m 2 ls []) := by
    intro L2 ih2
    intro x2 Z H locs ls hG hl hw
    unfold wX1_refill_2b at hw
    refine lv_iload_n hx hb dX1_refill_2 rfl (lv_at hl 1 rfl) ?_
    refine lv_sipush (v := 1000) hx hb dX1_refill_3 (by decide) ?_
    refine lv_icmp_ge (tgt := 51) hx hb dX1_refill_6 (by decide) (fun c2 => ?_) (fun c2 => ?_)
    · replace hw := hw.1 c2
      exact z_vret hF hG hr hlk hw dX1_refill_51
    replace hw := hw.2 c2
    refine lv_aload_n hx hb dX1_refill_9 rfl (lv_at hl 0 rfl) ?_
    refine z_get hF hG u1 (zc_sv hu1) (z_sv hu1) rfl in5 5 (by decide) (List.mem_of_getElem? (i := 1) rfl) rfl rfl dX1_refill_10 ?_
    refine lv_if_gt (tgt := 51) hx hb dX1_refill_13 (by decide) (fun c3 => ?_) (fun c3 => ?_)
    · replace hw := hw.1 c3
      exact z_vret hF hG hr hlk hw dX1_refill_51
    replace hw := hw.2 c3
    refine lv_aload_n hx hb dX1_refill_16 rfl (lv_at hl 0 rfl) ?_
    refine lv_dup hx hb dX1_refill_17 rfl ?_
    refine z_get hF hG u1 (zc_sv hu1) (z_sv hu1) rfl in5 5 (by decide) (List.mem_of_getElem? (i := 1) rfl) rfl rfl dX1_refill_18 ?_
    refine lv_bipush (v := 60) hx hb dX1_refill_21 (by decide) ?_
    refine lv_aload_n hx hb dX1_refill_23 rfl (lv_at hl 0 rfl) ?_
    refine z_get hF hG u1 (zc_sv hu1) (z_sv hu1) rfl in5 2 (by decide) (List.mem_of_getElem? (i := 2) rfl) rfl rfl dX1_refill_24 ?_
    refine lv_imul hx hb dX1_refill_27 ?_
    refine lv_iadd hx hb dX1_refill_28 ?_
    refine z_put hF hG u1 (zc_sv hu1) (z_sv hu1) rfl in5 tyX5_ok nmX5 5 (by decide) (List.mem_of_getElem? (i := 1) rfl) rfl rfl (tyX5_ok 5 (by decide)) rfl rfl (Nat.le_of_ble_eq_true rfl) (((Z u1 5) + (60 * (Z u1 2)))) (z_sv hu1) dX1_refill_29 (fun Z4 H locs eZ4 hG => ?_)
    replace hw := hw Z4 eZ4
    refine lv_aload_n hx hb dX1_refill_32 rfl (lv_at hl 0 rfl) ?_
    refine lv_dup hx hb dX1_refill_33 rfl ?_
    refine z_get hF hG u1 (zc_sv hu1) (z_sv hu1) rfl in5 6 (by decide) (List.mem_of_getElem? (i := 3) rfl) rfl rfl dX1_refill_34 ?_
    refine lv_aload_n hx hb dX1_refill_37 rfl (lv_at hl 0 rfl) ?_
    refine z_get hF hG u1 (zc_sv hu1) (z_sv hu1) rfl in5 3 (by decide) (List.mem_of_getElem? (i := 4) rfl) rfl rfl dX1_refill_38 ?_
    refine lv_iadd hx hb dX1_refill_41 ?_
    refine z_put hF hG u1 (zc_sv hu1) (z_sv hu1) rfl in5 tyX5_ok nmX5 6 (by decide) (List.mem_of_getElem? (i := 3) rfl) rfl rfl (tyX5_ok 6 (by decide)) rfl rfl (Nat.le_of_ble_eq_true rfl) (((Z4 u1 6) + (Z4 u1 3))) (z_sv hu1) dX1_refill_42 (fun Z5 H locs eZ5 hG => ?_)
    replace hw := hw Z5 eZ5
    obtain ⟨y6, ey6⟩ : ∃ y : Int32, y = x2 + 1 := ⟨_, rfl⟩
    replace hw := hw y6 ey6
    refine lv_iinc (v := y6) (lv' := [(2, .int y6), (1, .ref (E.2.1 u1))]) hx hb dX1_refill_45 hl (k := 1) rfl (by rw [ey6]; rfl) (by decide) rfl (fun ls hl => ?_)
    refine lv_goto (tgt := 2) hx hb dX1_refill_48 (by decide) ?_
    exact ih2 y6 Z5 _ _ _ hG (lv_sub hl [1, 0] rfl) hw
  have J2 : ∀ n : Nat, ∀ (x2 : Int32) (Z : zS) (H : Heap) (locs : List Loc) (ls : Array Slot), zG E Z s H locs → lv_has ls 3 [(1, .ref (E.2.1 u1)), (2, .int x2)] → wX1_refill_2 v u1 K n x2 Z → W p l e R s m args below meth c H locs 0 0 (zQv E K below args s) (F0 m 2 ls []) := by
    intro n
    induction n with
    | zero => intro x2 Z H locs ls hG hl hw; exact hw.elim
    | succ n ih => intro x2 Z H locs ls hG hl hw; exact S2 _ ih x2 Z H locs ls hG hl hw
  unfold wX1_refill at hw
  refine lv_iconst (v := 0) hx hb dX1_refill_0 (by decide) ?_
  refine lv_topi (fun y1 ey1 => ?_)
  replace hw := hw y1 ey1
  refine lv_istore_n (lv' := [(2, .int y1), (0, .ref (E.2.1 (84 + (v : Int32).toNatClampNeg))), (1, .ref (E.2.1 u1))]) hx hb dX1_refill_1 rfl hl (by decide) rfl (fun ls hl => ?_)
  obtain ⟨n2, hw⟩ := hw
  exact J2 n2 y1 Z _ _ _ hG (lv_sub hl [2, 0] rfl) hw
set_option maxHeartbeats 4000000 in
set_option maxRecDepth 100000 in
theorem kX1_wake (l : Launch) (E : zE) (Z : zS) (v : Int32) (u1 : Nat) (hu1 : u1 < 18) {K : zS → Prop} (hw : wX1_wake v u1 Z K) : zCv l yX1_wake wsX1_wake ({ frames := 0, cells := 0, slots := 0, locals := 0 } : Room) E Z [.ref (E.2.1 (84 + (v : Int32).toNatClampNeg)), .ref (E.2.1 u1)] K := by
  refine z_bodyv (cc := cX1_wake) (nL := 2) (by decide) rfl (Nat.le_of_ble_eq_true rfl) ?_
  intro p e R s m args below meth c ls hfr hlo hF hr hlk hG hl
  have hx := hF.1.1
  have hb := hF.1.2.1
  have hown := hF.1.2.2.2.1
  have hts := hF.1.2.2.2.2
  have in5 : ∀ w ∈ u_ws RX5 TX5 15, w ∈ wsX1_wake := fun _ h => List.mem_cons_of_mem _ (List.mem_append_right _ h)
  have hl : lv_has ls 2 [(0, .ref (E.2.1 (84 + (v : Int32).toNatClampNeg))), (1, .ref (E.2.1 u1))] := hl
  unfold wX1_wake at hw
  refine lv_aload_n hx hb dX1_wake_0 rfl (lv_at hl 1 rfl) ?_
  refine lv_iconst (v := 1) hx hb dX1_wake_1 (by decide) ?_
  refine z_put hF hG u1 (zc_sv hu1) (z_sv hu1) rfl in5 tyX5_ok nmX5 7 (by decide) (List.mem_of_getElem? (i := 1) rfl) rfl rfl (tyX5_ok 7 (by decide)) rfl rfl (Nat.le_of_ble_eq_true rfl) 1 (z_sv hu1) dX1_wake_2 (fun Z1 H locs eZ1 hG => ?_)
  replace hw := hw Z1 eZ1
  refine lv_aload_n hx hb dX1_wake_5 rfl (lv_at hl 1 rfl) ?_
  refine lv_bipush (v := 60) hx hb dX1_wake_6 (by decide) ?_
  refine lv_aload_n hx hb dX1_wake_8 rfl (lv_at hl 1 rfl) ?_
  refine z_get hF hG u1 (zc_sv hu1) (z_sv hu1) rfl in5 2 (by decide) (List.mem_of_getElem? (i := 2) rfl) rfl rfl dX1_wake_9 ?_
  refine lv_imul hx hb dX1_wake_12 ?_
  refine z_put hF hG u1 (zc_sv hu1) (z_sv hu1) rfl in5 tyX5_ok nmX5 5 (by decide) (List.mem_of_getElem? (i := 3) rfl) rfl rfl (tyX5_ok 5 (by decide)) rfl rfl (Nat.le_of_ble_eq_true rfl) ((60 * (Z1 u1 2))) (z_sv hu1) dX1_wake_13 (fun Z2 H locs eZ2 hG => ?_)
  replace hw := hw Z2 eZ2
  refine lv_aload_n hx hb dX1_wake_16 rfl (lv_at hl 1 rfl) ?_
  refine lv_dup hx hb dX1_wake_17 rfl ?_
  refine z_get hF hG u1 (zc_sv hu1) (z_sv hu1) rfl in5 6 (by decide) (List.mem_of_getElem? (i := 4) rfl) rfl rfl dX1_wake_18 ?_
  refine lv_aload_n hx hb dX1_wake_21 rfl (lv_at hl 1 rfl) ?_
  refine z_get hF hG u1 (zc_sv hu1) (z_sv hu1) rfl in5 3 (by decide) (List.mem_of_getElem? (i := 5) rfl) rfl rfl dX1_wake_22 ?_
  refine lv_iadd hx hb dX1_wake_25 ?_
  refine z_put hF hG u1 (zc_sv hu1) (z_sv hu1) rfl in5 tyX5_ok nmX5 6 (by decide) (List.mem_of_getElem? (i := 4) rfl) rfl rfl (tyX5_ok 6 (by decide)) rfl rfl (Nat.le_of_ble_eq_true rfl) (((Z2 u1 6) + (Z2 u1 3))) (z_sv hu1) dX1_wake_26 (fun Z3 H locs eZ3 hG => ?_)
  replace hw := hw Z3 eZ3
  exact z_vret hF hG hr hlk hw dX1_wake_29
set_option maxHeartbeats 4000000 in
set_option maxRecDepth 100000 in
theorem kX1_worth (l : Launch) (E : zE) (Z : zS) (v : Int32) (a1 : Int32) {K : Int32 → zS → Prop} (hw : wX1_worth v a1 Z K) : zCi l yX1_worth wsX1_worth ({ frames := 0, cells := 0, slots := 0, locals := 0 } : Room) E Z [.ref (E.2.1 (84 + (v : Int32).toNatClampNeg)), .int a1] K := by
  refine z_bodyi (cc := cX1_worth) (nL := 2) (ret := .int) (by decide) rfl (Nat.le_of_ble_eq_true rfl) ?_
  intro p e R s m args below meth c ls hfr hlo hF hr hlk hG hl
  have hx := hF.1.1
  have hb := hF.1.2.1
  have hown := hF.1.2.2.2.1
  have hts := hF.1.2.2.2.2
  have hl : lv_has ls 2 [(0, .ref (E.2.1 (84 + (v : Int32).toNatClampNeg))), (1, .int a1)] := hl
  unfold wX1_worth at hw
  refine lv_iload_n hx hb dX1_worth_0 rfl (lv_at hl 1 rfl) ?_
  exact z_iret hF hG hr hlk hw dX1_worth_1
theorem hS_yX0_pays : yX0_pays.cls ≠ "java/lang/invoke/MethodHandle" ∧ yX0_pays.cls ≠ "java/lang/invoke/VarHandle" ∧ (parseMethodDescriptor yX0_pays.desc).map (fun d => d.parameters.length) = some 2 := by decide +kernel
set_option maxHeartbeats 4000000 in
set_option maxRecDepth 100000 in
theorem kX2_pays (l : Launch) (E : zE) (Z : zS) (v : Int32) (u1 : Nat) (a2 : Int32) (hu1 : u1 < 18) {K : Int32 → zS → Prop} (hw : wX2_pays v u1 a2 Z K) : zCi l yX2_pays wsX2_pays ({ frames := 2, cells := 0, slots := 0, locals := 35 } : Room) E Z [.ref (E.2.1 (84 + (v : Int32).toNatClampNeg)), .ref (E.2.1 u1), .int a2] K := by
  refine z_bodyi (cc := cX2_pays) (nL := 3) (ret := .int) (by decide) rfl (Nat.le_of_ble_eq_true rfl) ?_
  intro p e R s m args below meth c ls hfr hlo hF hr hlk hG hl
  have hx := hF.1.1
  have hb := hF.1.2.1
  have hown := hF.1.2.2.2.1
  have hts := hF.1.2.2.2.2
  have hl : lv_has ls 3 [(0, .ref (E.2.1 (84 + (v : Int32).toNatClampNeg))), (1, .ref (E.2.1 u1)), (2, .int a2)] := hl
  unfold wX2_pays at hw
  refine lv_bipush (v := 60) hx hb dX2_pays_0 (by decide) ?_
  refine lv_aload_n hx hb dX2_pays_2 rfl (lv_at hl 0 rfl) ?_
  refine lv_aload_n hx hb dX2_pays_3 rfl (lv_at hl 1 rfl) ?_
  refine lv_iload_n hx hb dX2_pays_4 rfl (lv_at hl 2 rfl) ?_
  obtain ⟨hki, hw⟩ := hw
  obtain ⟨C0, cC0, hcat, hpv⟩ := z_preK hF hG (As := [.ref (E.2.1 u1), .int a2]) hki
  refine z_ci (va_runSU (rest := [.int 60]) hcat hF.1 (kX0_pays l E Z v u1 a2 hu1 hw _) (va_cwSU 2 hts gX2_pays_X0_pays_s9 rfl rfl rfl ⟨by decide, hS_yX0_pays.2.2⟩ ⟨Nat.le_trans (Nat.le_of_ble_eq_true rfl) hfr, Nat.le_trans (Nat.le_of_ble_eq_true rfl) hlo⟩) hpv rfl rfl hl.1 rfl (lv_room (Nat.le_of_ble_eq_true rfl)) dX2_pays_5 ⟨Nat.zero_le _, Nat.zero_le _⟩) hG (fun r2 Z1 H locs hw hG => ?_)
  refine lv_iadd hx hb dX2_pays_8 ?_
  refine lv_iconst (v := 2) hx hb dX2_pays_9 (by decide) ?_
  refine lv_idiv hx hb dX2_pays_10 hw.1 ?_
  replace hw := hw.2
  exact z_iret hF hG hr hlk hw dX2_pays_11
set_option maxHeartbeats 4000000 in
set_option maxRecDepth 100000 in
theorem kX2_worth (l : Launch) (E : zE) (Z : zS) (v : Int32) (a1 : Int32) {K : Int32 → zS → Prop} (hw : wX2_worth v a1 Z K) : zCi l yX2_worth wsX2_worth ({ frames := 0, cells := 0, slots := 0, locals := 0 } : Room) E Z [.ref (E.2.1 (84 + (v : Int32).toNatClampNeg)), .int a1] K := by
  refine z_bodyi (cc := cX2_worth) (nL := 2) (ret := .int) (by decide) rfl (Nat.le_of_ble_eq_true rfl) ?_
  intro p e R s m args below meth c ls hfr hlo hF hr hlk hG hl
  have hx := hF.1.1
  have hb := hF.1.2.1
  have hown := hF.1.2.2.2.1
  have hts := hF.1.2.2.2.2
  have hl : lv_has ls 2 [(0, .ref (E.2.1 (84 + (v : Int32).toNatClampNeg))), (1, .int a1)] := hl
  unfold wX2_worth at hw
  refine lv_iconst (v := 0) hx hb dX2_worth_0 (by decide) ?_
  exact z_iret hF hG hr hlk hw dX2_worth_1
set_option maxHeartbeats 4000000 in
set_option maxRecDepth 100000 in
theorem kX5_becomes (l : Launch) (E : zE) (Z : zS) (v : Nat) (u1 : Nat) (hv : v < 18) (hu1 : u1 < 18) {K : zS → Prop} (hw : wX5_becomes v u1 Z K) : zCv l yX5_becomes wsX5_becomes ({ frames := 0, cells := 0, slots := 0, locals := 0 } : Room) E Z [.ref (E.2.1 v), .ref (E.2.1 u1)] K := by
  refine z_bodyv (cc := cX5_becomes) (nL := 3) (by decide) rfl (Nat.le_of_ble_eq_true rfl) ?_
  intro p e R s m args below meth c ls hfr hlo hF hr hlk hG hl
  have hx := hF.1.1
  have hb := hF.1.2.1
  have hown := hF.1.2.2.2.1
  have hts := hF.1.2.2.2.2
  have in5 : ∀ w ∈ u_ws RX5 TX5 15, w ∈ wsX5_becomes := fun _ h => List.mem_cons_of_mem _ (List.mem_append_right _ h)
  have hl : lv_has ls 3 [(0, .ref (E.2.1 v)), (1, .ref (E.2.1 u1))] := hl
  have S90 : ∀ (L90 : Int32 → zS → Prop), (∀ (x2 : Int32) (Z : zS) (H : Heap) (locs : List Loc) (ls : Array Slot), zG E Z s H locs → lv_has ls 3 [(0, .ref (E.2.1 v)), (1, .ref (E.2.1 u1)), (2, .int x2)] → L90 x2 Z → W p l e R s m args below meth c H locs 0 0 (zQv E K below args s) (F0 m 90 ls [])) → ∀ (x2 : Int32) (Z : zS) (H : Heap) (locs : List Loc) (ls : Array Slot), zG E Z s H locs → lv_has ls 3 [(0, .ref (E.2.1 v)), (1, .ref (E.2.1 u1)), (2, .int x2)] → wX5_becomes_90b L90 v u1 x2 Z K → W p l e R s m args below meth c H locs 0 0 (zQv E K below args s) (F0 m 90 ls []) := by
    intro L90 ih90
    intro x2 Z H locs ls hG hl hw
    unfold wX5_becomes_90b at hw
    refine lv_iload_n hx hb dX5_becomes_90 rfl (lv_at hl 2 rfl) ?_
    refine lv_aload_n hx hb dX5_becomes_91 rfl (lv_at hl 1 rfl) ?_
    refine z_get hF hG u1 (zc_sv hu1) (z_sv hu1) rfl in5 10 (by decide) (List.mem_of_getElem? (i := 11) rfl) rfl rfl dX5_becomes_92 ?_
    refine lv_icmp_ge (tgt := 128) hx hb dX5_becomes_95 (by decide) (fun c13 => ?_) (fun c13 => ?_)
    · replace hw := hw.1 c13
      refine lv_aload_n hx hb dX5_becomes_128 rfl (lv_at hl 0 rfl) ?_
      refine lv_aload_n hx hb dX5_becomes_129 rfl (lv_at hl 1 rfl) ?_
      refine z_get hF hG u1 (zc_sv hu1) (z_sv hu1) rfl in5 13 (by decide) (List.mem_of_getElem? (i := 14) rfl) rfl rfl dX5_becomes_130 ?_
      have hbo := hw.1
      replace hw := hw.2
      refine z_put hF hG v (zc_sv hv) (z_sv hv) rfl in5 tyX5_ok nmX5 13 (by decide) (List.mem_of_getElem? (i := 14) rfl) rfl rfl (tyX5_ok 13 (by decide)) (zBo.n hbo) (zBo.t hbo) (Nat.le_of_ble_eq_true rfl) ((Z u1 13)) (z_sv hv) dX5_becomes_133 (fun Z14 H locs eZ14 hG => ?_)
      replace hw := hw Z14 eZ14
      refine lv_aload_n hx hb dX5_becomes_136 rfl (lv_at hl 0 rfl) ?_
      refine lv_aload_n hx hb dX5_becomes_137 rfl (lv_at hl 1 rfl) ?_
      refine z_get hF hG u1 (zc_sv hu1) (z_sv hu1) rfl in5 14 (by decide) (List.mem_of_getElem? (i := 15) rfl) rfl rfl dX5_becomes_138 ?_
      refine z_put hF hG v (zc_sv hv) (z_sv hv) rfl in5 tyX5_ok nmX5 14 (by decide) (List.mem_of_getElem? (i := 15) rfl) rfl rfl (tyX5_ok 14 (by decide)) rfl rfl (Nat.le_of_ble_eq_true rfl) ((Z14 u1 14)) (z_sv hv) dX5_becomes_141 (fun Z15 H locs eZ15 hG => ?_)
      replace hw := hw Z15 eZ15
      exact z_vret hF hG hr hlk hw dX5_becomes_144
    replace hw := hw.2 c13
    refine lv_aload_n hx hb dX5_becomes_98 rfl (lv_at hl 0 rfl) ?_
    refine z_get hF hG v (zc_sv hv) (z_sv hv) rfl in5 11 (by decide) (List.mem_of_getElem? (i := 12) rfl) rfl rfl dX5_becomes_99 ?_
    refine lv_iload_n hx hb dX5_becomes_102 rfl (lv_at hl 2 rfl) ?_
    refine lv_aload_n hx hb dX5_becomes_103 rfl (lv_at hl 1 rfl) ?_
    refine z_get hF hG u1 (zc_sv hu1) (z_sv hu1) rfl in5 11 (by decide) (List.mem_of_getElem? (i := 12) rfl) rfl rfl dX5_becomes_104 ?_
    refine lv_iload_n hx hb dX5_becomes_107 rfl (lv_at hl 2 rfl) ?_
    obtain ⟨q16, hw⟩ := hw
    refine z_iald hF hG (18 + u1) (zc_wk hu1) (z_wk hu1) q16 dX5_becomes_108 ?_
    obtain ⟨q17, hw⟩ := hw
    refine z_iast hF hG (18 + v) (zc_wk hv) (fun _ => (z_wk hv)) q17 dX5_becomes_109 (fun Z18 H locs eZ18 hG => ?_)
    replace hw := hw Z18 eZ18
    refine lv_aload_n hx hb dX5_becomes_110 rfl (lv_at hl 0 rfl) ?_
    refine z_get hF hG v (zc_sv hv) (z_sv hv) rfl in5 12 (by decide) (List.mem_of_getElem? (i := 13) rfl) rfl rfl dX5_becomes_111 ?_
    refine lv_iload_n hx hb dX5_becomes_114 rfl (lv_at hl 2 rfl) ?_
    refine lv_aload_n hx hb dX5_becomes_115 rfl (lv_at hl 1 rfl) ?_
    refine z_get hF hG u1 (zc_sv hu1) (z_sv hu1) rfl in5 12 (by decide) (List.mem_of_getElem? (i := 13) rfl) rfl rfl dX5_becomes_116 ?_
    refine lv_iload_n hx hb dX5_becomes_119 rfl (lv_at hl 2 rfl) ?_
    obtain ⟨q19, hw⟩ := hw
    refine z_iald hF hG (36 + u1) (zc_lk hu1) (z_lk hu1) q19 dX5_becomes_120 ?_
    obtain ⟨q20, hw⟩ := hw
    refine z_iast hF hG (36 + v) (zc_lk hv) (fun _ => (z_lk hv)) q20 dX5_becomes_121 (fun Z21 H locs eZ21 hG => ?_)
    replace hw := hw Z21 eZ21
    obtain ⟨y22, ey22⟩ : ∃ y : Int32, y = x2 + 1 := ⟨_, rfl⟩
    replace hw := hw y22 ey22
    refine lv_iinc (v := y22) (lv' := [(2, .int y22), (0, .ref (E.2.1 v)), (1, .ref (E.2.1 u1))]) hx hb dX5_becomes_122 hl (k := 2) rfl (by rw [ey22]; rfl) (by decide) rfl (fun ls hl => ?_)
    refine lv_goto (tgt := 90) hx hb dX5_becomes_125 (by decide) ?_
    exact ih90 y22 Z21 _ _ _ hG (lv_sub hl [1, 2, 0] rfl) hw
  have J90 : ∀ n : Nat, ∀ (x2 : Int32) (Z : zS) (H : Heap) (locs : List Loc) (ls : Array Slot), zG E Z s H locs → lv_has ls 3 [(0, .ref (E.2.1 v)), (1, .ref (E.2.1 u1)), (2, .int x2)] → wX5_becomes_90 v u1 K n x2 Z → W p l e R s m args below meth c H locs 0 0 (zQv E K below args s) (F0 m 90 ls []) := by
    intro n
    induction n with
    | zero => intro x2 Z H locs ls hG hl hw; exact hw.elim
    | succ n ih => intro x2 Z H locs ls hG hl hw; exact S90 _ ih x2 Z H locs ls hG hl hw
  unfold wX5_becomes at hw
  refine lv_aload_n hx hb dX5_becomes_0 rfl (lv_at hl 0 rfl) ?_
  refine lv_aload_n hx hb dX5_becomes_1 rfl (lv_at hl 1 rfl) ?_
  refine z_get (v := .ref (E.2.1 (84 + ((Z u1 0) : Int32).toNatClampNeg))) hF hG u1 (zc_sv hu1) (z_sv hu1) rfl in5 0 (by decide) (List.mem_of_getElem? (i := 1) rfl) rfl rfl dX5_becomes_2 ?_
  refine z_put hF hG v (zc_sv hv) (z_sv hv) rfl in5 tyX5_ok nmX5 0 (by decide) (List.mem_of_getElem? (i := 1) rfl) rfl rfl (tyX5_ok 0 (by decide)) rfl rfl (Nat.le_of_ble_eq_true rfl) ((Z u1 0)) (z_sv hv) dX5_becomes_5 (fun Z1 H locs eZ1 hG => ?_)
  replace hw := hw Z1 eZ1
  refine lv_aload_n hx hb dX5_becomes_8 rfl (lv_at hl 0 rfl) ?_
  refine lv_aload_n hx hb dX5_becomes_9 rfl (lv_at hl 1 rfl) ?_
  refine z_get hF hG u1 (zc_sv hu1) (z_sv hu1) rfl in5 1 (by decide) (List.mem_of_getElem? (i := 2) rfl) rfl rfl dX5_becomes_10 ?_
  refine z_put hF hG v (zc_sv hv) (z_sv hv) rfl in5 tyX5_ok nmX5 1 (by decide) (List.mem_of_getElem? (i := 2) rfl) rfl rfl (tyX5_ok 1 (by decide)) rfl rfl (Nat.le_of_ble_eq_true rfl) ((Z1 u1 1)) (z_sv hv) dX5_becomes_13 (fun Z2 H locs eZ2 hG => ?_)
  replace hw := hw Z2 eZ2
  refine lv_aload_n hx hb dX5_becomes_16 rfl (lv_at hl 0 rfl) ?_
  refine lv_aload_n hx hb dX5_becomes_17 rfl (lv_at hl 1 rfl) ?_
  refine z_get hF hG u1 (zc_sv hu1) (z_sv hu1) rfl in5 2 (by decide) (List.mem_of_getElem? (i := 3) rfl) rfl rfl dX5_becomes_18 ?_
  refine z_put hF hG v (zc_sv hv) (z_sv hv) rfl in5 tyX5_ok nmX5 2 (by decide) (List.mem_of_getElem? (i := 3) rfl) rfl rfl (tyX5_ok 2 (by decide)) rfl rfl (Nat.le_of_ble_eq_true rfl) ((Z2 u1 2)) (z_sv hv) dX5_becomes_21 (fun Z3 H locs eZ3 hG => ?_)
  replace hw := hw Z3 eZ3
  refine lv_aload_n hx hb dX5_becomes_24 rfl (lv_at hl 0 rfl) ?_
  refine lv_aload_n hx hb dX5_becomes_25 rfl (lv_at hl 1 rfl) ?_
  refine z_get hF hG u1 (zc_sv hu1) (z_sv hu1) rfl in5 3 (by decide) (List.mem_of_getElem? (i := 4) rfl) rfl rfl dX5_becomes_26 ?_
  refine z_put hF hG v (zc_sv hv) (z_sv hv) rfl in5 tyX5_ok nmX5 3 (by decide) (List.mem_of_getElem? (i := 4) rfl) rfl rfl (tyX5_ok 3 (by decide)) rfl rfl (Nat.le_of_ble_eq_true rfl) ((Z3 u1 3)) (z_sv hv) dX5_becomes_29 (fun Z4 H locs eZ4 hG => ?_)
  replace hw := hw Z4 eZ4
  refine lv_aload_n hx hb dX5_becomes_32 rfl (lv_at hl 0 rfl) ?_
  refine lv_aload_n hx hb dX5_becomes_33 rfl (lv_at hl 1 rfl) ?_
  refine z_get hF hG u1 (zc_sv hu1) (z_sv hu1) rfl in5 4 (by decide) (List.mem_of_getElem? (i := 5) rfl) rfl rfl dX5_becomes_34 ?_
  refine z_put hF hG v (zc_sv hv) (z_sv hv) rfl in5 tyX5_ok nmX5 4 (by decide) (List.mem_of_getElem? (i := 5) rfl) rfl rfl (tyX5_ok 4 (by decide)) rfl rfl (Nat.le_of_ble_eq_true rfl) ((Z4 u1 4)) (z_sv hv) dX5_becomes_37 (fun Z5 H locs eZ5 hG => ?_)
  replace hw := hw Z5 eZ5
  refine lv_aload_n hx hb dX5_becomes_40 rfl (lv_at hl 0 rfl) ?_
  refine lv_aload_n hx hb dX5_becomes_41 rfl (lv_at hl 1 rfl) ?_
  refine z_get hF hG u1 (zc_sv hu1) (z_sv hu1) rfl in5 5 (by decide) (List.mem_of_getElem? (i := 6) rfl) rfl rfl dX5_becomes_42 ?_
  refine z_put hF hG v (zc_sv hv) (z_sv hv) rfl in5 tyX5_ok nmX5 5 (by decide) (List.mem_of_getElem? (i := 6) rfl) rfl rfl (tyX5_ok 5 (by decide)) rfl rfl (Nat.le_of_ble_eq_true rfl) ((Z5 u1 5)) (z_sv hv) dX5_becomes_45 (fun Z6 H locs eZ6 hG => ?_)
  replace hw := hw Z6 eZ6
  refine lv_aload_n hx hb dX5_becomes_48 rfl (lv_at hl 0 rfl) ?_
  refine lv_aload_n hx hb dX5_becomes_49 rfl (lv_at hl 1 rfl) ?_
  refine z_get hF hG u1 (zc_sv hu1) (z_sv hu1) rfl in5 6 (by decide) (List.mem_of_getElem? (i := 7) rfl) rfl rfl dX5_becomes_50 ?_
  refine z_put hF hG v (zc_sv hv) (z_sv hv) rfl in5 tyX5_ok nmX5 6 (by decide) (List.mem_of_getElem? (i := 7) rfl) rfl rfl (tyX5_ok 6 (by decide)) rfl rfl (Nat.le_of_ble_eq_true rfl) ((Z6 u1 6)) (z_sv hv) dX5_becomes_53 (fun Z7 H locs eZ7 hG => ?_)
  replace hw := hw Z7 eZ7
  refine lv_aload_n hx hb dX5_becomes_56 rfl (lv_at hl 0 rfl) ?_
  refine lv_aload_n hx hb dX5_becomes_57 rfl (lv_at hl 1 rfl) ?_
  refine z_get hF hG u1 (zc_sv hu1) (z_sv hu1) rfl in5 7 (by decide) (List.mem_of_getElem? (i := 8) rfl) rfl rfl dX5_becomes_58 ?_
  refine z_put hF hG v (zc_sv hv) (z_sv hv) rfl in5 tyX5_ok nmX5 7 (by decide) (List.mem_of_getElem? (i := 8) rfl) rfl rfl (tyX5_ok 7 (by decide)) rfl rfl (Nat.le_of_ble_eq_true rfl) ((Z7 u1 7)) (z_sv hv) dX5_becomes_61 (fun Z8 H locs eZ8 hG => ?_)
  replace hw := hw Z8 eZ8
  refine lv_aload_n hx hb dX5_becomes_64 rfl (lv_at hl 0 rfl) ?_
  refine lv_aload_n hx hb dX5_becomes_65 rfl (lv_at hl 1 rfl) ?_
  refine z_get hF hG u1 (zc_sv hu1) (z_sv hu1) rfl in5 8 (by decide) (List.mem_of_getElem? (i := 9) rfl) rfl rfl dX5_becomes_66 ?_
  refine z_put hF hG v (zc_sv hv) (z_sv hv) rfl in5 tyX5_ok nmX5 8 (by decide) (List.mem_of_getElem? (i := 9) rfl) rfl rfl (tyX5_ok 8 (by decide)) rfl rfl (Nat.le_of_ble_eq_true rfl) ((Z8 u1 8)) (z_sv hv) dX5_becomes_69 (fun Z9 H locs eZ9 hG => ?_)
  replace hw := hw Z9 eZ9
  refine lv_aload_n hx hb dX5_becomes_72 rfl (lv_at hl 0 rfl) ?_
  refine lv_aload_n hx hb dX5_becomes_73 rfl (lv_at hl 1 rfl) ?_
  refine z_get hF hG u1 (zc_sv hu1) (z_sv hu1) rfl in5 9 (by decide) (List.mem_of_getElem? (i := 10) rfl) rfl rfl dX5_becomes_74 ?_
  refine z_put hF hG v (zc_sv hv) (z_sv hv) rfl in5 tyX5_ok nmX5 9 (by decide) (List.mem_of_getElem? (i := 10) rfl) rfl rfl (tyX5_ok 9 (by decide)) rfl rfl (Nat.le_of_ble_eq_true rfl) ((Z9 u1 9)) (z_sv hv) dX5_becomes_77 (fun Z10 H locs eZ10 hG => ?_)
  replace hw := hw Z10 eZ10
  refine lv_aload_n hx hb dX5_becomes_80 rfl (lv_at hl 0 rfl) ?_
  refine lv_aload_n hx hb dX5_becomes_81 rfl (lv_at hl 1 rfl) ?_
  refine z_get hF hG u1 (zc_sv hu1) (z_sv hu1) rfl in5 10 (by decide) (List.mem_of_getElem? (i := 11) rfl) rfl rfl dX5_becomes_82 ?_
  refine z_put hF hG v (zc_sv hv) (z_sv hv) rfl in5 tyX5_ok nmX5 10 (by decide) (List.mem_of_getElem? (i := 11) rfl) rfl rfl (tyX5_ok 10 (by decide)) rfl rfl (Nat.le_of_ble_eq_true rfl) ((Z10 u1 10)) (z_sv hv) dX5_becomes_85 (fun Z11 H locs eZ11 hG => ?_)
  replace hw := hw Z11 eZ11
  refine lv_iconst (v := 0) hx hb dX5_becomes_88 (by decide) ?_
  refine lv_topi (fun y12 ey12 => ?_)
  replace hw := hw y12 ey12
  refine lv_istore_n (lv' := [(2, .int y12), (0, .ref (E.2.1 v)), (1, .ref (E.2.1 u1))]) hx hb dX5_becomes_89 rfl hl (by decide) rfl (fun ls hl => ?_)
  obtain ⟨n90, hw⟩ := hw
  exact J90 n90 y12 Z11 _ _ _ hG (lv_sub hl [1, 2, 0] rfl) hw
theorem hS_yX5_becomes : yX5_becomes.cls ≠ "java/lang/invoke/MethodHandle" ∧ yX5_becomes.cls ≠ "java/lang/invoke/VarHandle" ∧ (parseMethodDescriptor yX5_becomes.desc).map (fun d => d.parameters.length) = some 1 := by decide +kernel
set_option maxHeartbeats 4000000 in
set_option maxRecDepth 100000 in
theorem kX3_becomes (l : Launch) (E : zE) (Z : zS) (v : Nat) (u1 : Nat) (hv : v < 3) (hu1 : u1 < 3) {K : zS → Prop} (hw : wX3_becomes v u1 Z K) : zCv l yX3_becomes wsX3_becomes ({ frames := 1, cells := 0, slots := 0, locals := 22 } : Room) E Z [.ref (E.2.1 (54 + v)), .ref (E.2.1 (54 + u1))] K := by
  refine z_bodyv (cc := cX3_becomes) (nL := 3) (by decide) rfl (Nat.le_of_ble_eq_true rfl) ?_
  intro p e R s m args below meth c ls hfr hlo hF hr hlk hG hl
  have hx := hF.1.1
  have hb := hF.1.2.1
  have hown := hF.1.2.2.2.1
  have hts := hF.1.2.2.2.2
  have in3 : ∀ w ∈ u_ws RX3 TX3 5, w ∈ wsX3_becomes := fun _ h => List.mem_cons_of_mem _ (List.mem_append_left _ (List.mem_append_right _ h))
  have hl : lv_has ls 3 [(0, .ref (E.2.1 (54 + v))), (1, .ref (E.2.1 (54 + u1)))] := hl
  have S18 : ∀ (L18 : Int32 → zS → Prop), (∀ (x2 : Int32) (Z : zS) (H : Heap) (locs : List Loc) (ls : Array Slot), zG E Z s H locs → lv_has ls 3 [(0, .ref (E.2.1 (54 + v))), (1, .ref (E.2.1 (54 + u1))), (2, .int x2)] → L18 x2 Z → W p l e R s m args below meth c H locs 0 0 (zQv E K below args s) (F0 m 18 ls [])) → ∀ (x2 : Int32) (Z : zS) (H : Heap) (locs : List Loc) (ls : Array Slot), zG E Z s H locs → lv_has ls 3 [(0, .ref (E.2.1 (54 + v))), (1, .ref (E.2.1 (54 + u1))), (2, .int x2)] → wX3_becomes_18b L18 v u1 x2 Z K → W p l e R s m args below meth c H locs 0 0 (zQv E K below args s) (F0 m 18 ls []) := by
    intro L18 ih18
    intro x2 Z H locs ls hG hl hw
    unfold wX3_becomes_18b at hw
    refine lv_iload_n hx hb dX3_becomes_18 rfl (lv_at hl 2 rfl) ?_
    refine lv_aload_n hx hb dX3_becomes_19 rfl (lv_at hl 1 rfl) ?_
    refine z_get hF hG (54 + u1) (zc_pl hu1) (z_pl hu1) rfl in3 1 (by decide) (List.mem_of_getElem? (i := 1) rfl) rfl rfl dX3_becomes_20 ?_
    refine lv_icmp_ge (tgt := 47) hx hb dX3_becomes_23 (by decide) (fun c4 => ?_) (fun c4 => ?_)
    · replace hw := hw.1 c4
      exact z_vret hF hG hr hlk hw dX3_becomes_47
    replace hw := hw.2 c4
    refine lv_aload_n hx hb dX3_becomes_26 rfl (lv_at hl 0 rfl) ?_
    refine z_get hF hG (54 + v) (zc_pl hv) (z_pl hv) rfl in3 0 (by decide) (List.mem_of_getElem? (i := 3) rfl) rfl rfl dX3_becomes_27 ?_
    refine lv_iload_n hx hb dX3_becomes_30 rfl (lv_at hl 2 rfl) ?_
    obtain ⟨q5, hw⟩ := hw
    refine z_aald hF hG (57 + v) 1 (zc_pr hv) (z_pr hv) rfl q5 rfl dX3_becomes_31 ?_
    refine lv_aload_n hx hb dX3_becomes_32 rfl (lv_at hl 1 rfl) ?_
    refine z_get hF hG (54 + u1) (zc_pl hu1) (z_pl hu1) rfl in3 0 (by decide) (List.mem_of_getElem? (i := 3) rfl) rfl rfl dX3_becomes_33 ?_
    refine lv_iload_n hx hb dX3_becomes_36 rfl (lv_at hl 2 rfl) ?_
    obtain ⟨q6, hw⟩ := hw
    refine z_aald hF hG (57 + u1) 1 (zc_pr hu1) (z_pr hu1) rfl q6 rfl dX3_becomes_37 ?_
    refine z_cv (va_runV (rest := []) hF.1 (kX5_becomes l E Z ((6 * v + (x2 : Int32).toNatClampNeg)) ((6 * u1 + (x2 : Int32).toNatClampNeg)) (z_vb hv q5) (z_vb hu1 q6) hw _) (cwV 1 hts gX3_becomes_X5_becomes rfl rfl rfl ⟨rfl, hS_yX5_becomes⟩ ⟨Nat.le_trans (Nat.le_of_ble_eq_true rfl) hfr, Nat.le_trans (Nat.le_of_ble_eq_true rfl) hlo⟩) (z_preV hF hG (6 * v + (x2 : Int32).toNatClampNeg) (zc_sv (z_vb hv q5)) (z_sv (z_vb hv q5)) rfl) rfl rfl hl.1 rfl (lv_room (Nat.le_of_ble_eq_true rfl)) dX3_becomes_38 ⟨Nat.zero_le _, Nat.zero_le _⟩) hG (fun Z7 H locs hw hG => ?_)
    obtain ⟨y8, ey8⟩ : ∃ y : Int32, y = x2 + 1 := ⟨_, rfl⟩
    replace hw := hw y8 ey8
    refine lv_iinc (v := y8) (lv' := [(2, .int y8), (0, .ref (E.2.1 (54 + v))), (1, .ref (E.2.1 (54 + u1)))]) hx hb dX3_becomes_41 hl (k := 2) rfl (by rw [ey8]; rfl) (by decide) rfl (fun ls hl => ?_)
    refine lv_goto (tgt := 18) hx hb dX3_becomes_44 (by decide) ?_
    exact ih18 y8 Z7 _ _ _ hG (lv_sub hl [1, 2, 0] rfl) hw
  have J18 : ∀ n : Nat, ∀ (x2 : Int32) (Z : zS) (H : Heap) (locs : List Loc) (ls : Array Slot), zG E Z s H locs → lv_has ls 3 [(0, .ref (E.2.1 (54 + v))), (1, .ref (E.2.1 (54 + u1))), (2, .int x2)] → wX3_becomes_18 v u1 K n x2 Z → W p l e R s m args below meth c H locs 0 0 (zQv E K below args s) (F0 m 18 ls []) := by
    intro n
    induction n with
    | zero => intro x2 Z H locs ls hG hl hw; exact hw.elim
    | succ n ih => intro x2 Z H locs ls hG hl hw; exact S18 _ ih x2 Z H locs ls hG hl hw
  unfold wX3_becomes at hw
  refine lv_aload_n hx hb dX3_becomes_0 rfl (lv_at hl 0 rfl) ?_
  refine lv_aload_n hx hb dX3_becomes_1 rfl (lv_at hl 1 rfl) ?_
  refine z_get hF hG (54 + u1) (zc_pl hu1) (z_pl hu1) rfl in3 1 (by decide) (List.mem_of_getElem? (i := 1) rfl) rfl rfl dX3_becomes_2 ?_
  refine z_put hF hG (54 + v) (zc_pl hv) (z_pl hv) rfl in3 tyX3_ok nmX3 1 (by decide) (List.mem_of_getElem? (i := 1) rfl) rfl rfl (tyX3_ok 1 (by decide)) rfl rfl (Nat.le_of_ble_eq_true rfl) ((Z (54 + u1) 1)) (z_pl hv) dX3_becomes_5 (fun Z1 H locs eZ1 hG => ?_)
  replace hw := hw Z1 eZ1
  refine lv_aload_n hx hb dX3_becomes_8 rfl (lv_at hl 0 rfl) ?_
  refine lv_aload_n hx hb dX3_becomes_9 rfl (lv_at hl 1 rfl) ?_
  refine z_get hF hG (54 + u1) (zc_pl hu1) (z_pl hu1) rfl in3 2 (by decide) (List.mem_of_getElem? (i := 2) rfl) rfl rfl dX3_becomes_10 ?_
  refine z_put hF hG (54 + v) (zc_pl hv) (z_pl hv) rfl in3 tyX3_ok nmX3 2 (by decide) (List.mem_of_getElem? (i := 2) rfl) rfl rfl (tyX3_ok 2 (by decide)) rfl rfl (Nat.le_of_ble_eq_true rfl) ((Z1 (54 + u1) 2)) (z_pl hv) dX3_becomes_13 (fun Z2 H locs eZ2 hG => ?_)
  replace hw := hw Z2 eZ2
  refine lv_iconst (v := 0) hx hb dX3_becomes_16 (by decide) ?_
  refine lv_topi (fun y3 ey3 => ?_)
  replace hw := hw y3 ey3
  refine lv_istore_n (lv' := [(2, .int y3), (0, .ref (E.2.1 (54 + v))), (1, .ref (E.2.1 (54 + u1)))]) hx hb dX3_becomes_17 rfl hl (by decide) rfl (fun ls hl => ?_)
  obtain ⟨n18, hw⟩ := hw
  exact J18 n18 y3 Z2 _ _ _ hG (lv_sub hl [1, 2, 0] rfl) hw
set_option maxHeartbeats 4000000 in
set_option maxRecDepth 100000 in
theorem kX11_within (l : Launch) (E : zE) (Z : zS) (a1 : Int32) (a2 : Int32) (a3 : Int32) {K : Int32 → zS → Prop} (hw : wX11_within a1 a2 a3 Z K) : zCi l yX11_within wsX11_within ({ frames := 0, cells := 0, slots := 0, locals := 0 } : Room) E Z [.int a1, .int a2, .int a3] K := by
  refine z_bodyi (cc := cX11_within) (nL := 3) (ret := .boolean) (by decide) rfl (Nat.le_of_ble_eq_true rfl) ?_
  intro p e R s m args below meth c ls hfr hlo hF hr hlk hG hl
  have hx := hF.1.1
  have hb := hF.1.2.1
  have hown := hF.1.2.2.2.1
  have hts := hF.1.2.2.2.2
  have hl : lv_has ls 3 [(0, .int a1), (1, .int a2), (2, .int a3)] := hl
  unfold wX11_within at hw
  refine lv_iload_n hx hb dX11_within_0 rfl (lv_at hl 0 rfl) ?_
  refine lv_iload_n hx hb dX11_within_1 rfl (lv_at hl 1 rfl) ?_
  refine lv_icmp_lt (tgt := 14) hx hb dX11_within_2 (by decide) (fun c1 => ?_) (fun c1 => ?_)
  · replace hw := hw.1 c1
    refine lv_iconst (v := 0) hx hb dX11_within_14 (by decide) ?_
    exact z_zret hF hG hr hlk (by decide) hw dX11_within_15
  replace hw := hw.2 c1
  refine lv_iload_n hx hb dX11_within_5 rfl (lv_at hl 0 rfl) ?_
  refine lv_iload_n hx hb dX11_within_6 rfl (lv_at hl 2 rfl) ?_
  refine lv_icmp_gt (tgt := 14) hx hb dX11_within_7 (by decide) (fun c2 => ?_) (fun c2 => ?_)
  · replace hw := hw.1 c2
    refine lv_iconst (v := 0) hx hb dX11_within_14 (by decide) ?_
    exact z_zret hF hG hr hlk (by decide) hw dX11_within_15
  replace hw := hw.2 c2
  refine lv_iconst (v := 1) hx hb dX11_within_10 (by decide) ?_
  refine lv_goto (tgt := 15) hx hb dX11_within_11 (by decide) ?_
  exact z_zret hF hG hr hlk (by decide) hw dX11_within_15
theorem hS_yX11_within : yX11_within.cls ≠ "java/lang/invoke/MethodHandle" ∧ yX11_within.cls ≠ "java/lang/invoke/VarHandle" ∧ (parseMethodDescriptor yX11_within.desc).map (fun d => d.parameters.length) = some 3 := by decide +kernel
set_option maxHeartbeats 4000000 in
set_option maxRecDepth 100000 in
theorem kX3_has (l : Launch) (E : zE) (Z : zS) (v : Nat) (a1 : Int32) (hv : v < 3) {K : Int32 → zS → Prop} (hw : wX3_has v a1 Z K) : zCi l yX3_has wsX3_has ({ frames := 1, cells := 0, slots := 0, locals := 22 } : Room) E Z [.ref (E.2.1 (54 + v)), .int a1] K := by
  refine z_bodyi (cc := cX3_has) (nL := 2) (ret := .boolean) (by decide) rfl (Nat.le_of_ble_eq_true rfl) ?_
  intro p e R s m args below meth c ls hfr hlo hF hr hlk hG hl
  have hx := hF.1.1
  have hb := hF.1.2.1
  have hown := hF.1.2.2.2.1
  have hts := hF.1.2.2.2.2
  have in3 : ∀ w ∈ u_ws RX3 TX3 5, w ∈ wsX3_has := fun _ h => List.mem_cons_of_mem _ (List.mem_append_right _ h)
  have hl : lv_has ls 2 [(0, .ref (E.2.1 (54 + v))), (1, .int a1)] := hl
  unfold wX3_has at hw
  refine lv_iload_n hx hb dX3_has_0 rfl (lv_at hl 1 rfl) ?_
  refine lv_iconst (v := 0) hx hb dX3_has_1 (by decide) ?_
  refine lv_aload_n hx hb dX3_has_2 rfl (lv_at hl 0 rfl) ?_
  refine z_get hF hG (54 + v) (zc_pl hv) (z_pl hv) rfl in3 1 (by decide) (List.mem_of_getElem? (i := 1) rfl) rfl rfl dX3_has_3 ?_
  refine lv_iconst (v := 1) hx hb dX3_has_6 (by decide) ?_
  refine lv_isub hx hb dX3_has_7 ?_
  refine z_ci (va_runSN (rest := []) hF.1 (kX11_within l E Z a1 0 (((Z (54 + v) 1) - 1))  hw _) ⟨va_cnB 3 hts gX3_has_X11_within_n37 rfl rfl rfl hF.2.2.1.1 (hts (.initialized RX11) (List.mem_of_getElem? (i := 3) rfl)) hS_yX11_within ⟨Nat.le_trans (Nat.le_of_ble_eq_true rfl) hfr, Nat.le_trans (Nat.le_of_ble_eq_true rfl) hlo⟩, hts (.static yX11_within) (List.mem_of_getElem? (i := 2) rfl), trivial⟩ (z_preS hF hG) rfl rfl hl.1 rfl (lv_room (Nat.le_of_ble_eq_true rfl)) dX3_has_8 ⟨Nat.zero_le _, Nat.zero_le _⟩) hG (fun r2 Z1 H locs hw hG => ?_)
  exact z_zret hF hG hr hlk (zBo.n hw.1) hw.2 dX3_has_11
set_option maxHeartbeats 4000000 in
set_option maxRecDepth 100000 in
theorem kX5_dropJobs (l : Launch) (E : zE) (Z : zS) (v : Nat) (hv : v < 18) {K : zS → Prop} (hw : wX5_dropJobs v Z K) : zCv l yX5_dropJobs wsX5_dropJobs ({ frames := 0, cells := 0, slots := 0, locals := 0 } : Room) E Z [.ref (E.2.1 v)] K := by
  refine z_bodyv (cc := cX5_dropJobs) (nL := 1) (by decide) rfl (Nat.le_of_ble_eq_true rfl) ?_
  intro p e R s m args below meth c ls hfr hlo hF hr hlk hG hl
  have hx := hF.1.1
  have hb := hF.1.2.1
  have hown := hF.1.2.2.2.1
  have hts := hF.1.2.2.2.2
  have in5 : ∀ w ∈ u_ws RX5 TX5 15, w ∈ wsX5_dropJobs := fun _ h => List.mem_cons_of_mem _ (List.mem_append_right _ h)
  have hl : lv_has ls 1 [(0, .ref (E.2.1 v))] := hl
  unfold wX5_dropJobs at hw
  refine lv_aload_n hx hb dX5_dropJobs_0 rfl (lv_at hl 0 rfl) ?_
  refine lv_iconst (v := 0) hx hb dX5_dropJobs_1 (by decide) ?_
  refine z_put hF hG v (zc_sv hv) (z_sv hv) rfl in5 tyX5_ok nmX5 10 (by decide) (List.mem_of_getElem? (i := 1) rfl) rfl rfl (tyX5_ok 10 (by decide)) rfl rfl (Nat.le_of_ble_eq_true rfl) 0 (z_sv hv) dX5_dropJobs_2 (fun Z1 H locs eZ1 hG => ?_)
  replace hw := hw Z1 eZ1
  refine lv_aload_n hx hb dX5_dropJobs_5 rfl (lv_at hl 0 rfl) ?_
  refine lv_iconst (v := 0) hx hb dX5_dropJobs_6 (by decide) ?_
  refine z_put hF hG v (zc_sv hv) (z_sv hv) rfl in5 tyX5_ok nmX5 13 (by decide) (List.mem_of_getElem? (i := 2) rfl) rfl rfl (tyX5_ok 13 (by decide)) (by decide) (by decide) (Nat.le_of_ble_eq_true rfl) 0 (z_sv hv) dX5_dropJobs_7 (fun Z2 H locs eZ2 hG => ?_)
  replace hw := hw Z2 eZ2
  refine lv_aload_n hx hb dX5_dropJobs_10 rfl (lv_at hl 0 rfl) ?_
  refine lv_iconst (v := 0) hx hb dX5_dropJobs_11 (by decide) ?_
  refine z_put hF hG v (zc_sv hv) (z_sv hv) rfl in5 tyX5_ok nmX5 7 (by decide) (List.mem_of_getElem? (i := 3) rfl) rfl rfl (tyX5_ok 7 (by decide)) rfl rfl (Nat.le_of_ble_eq_true rfl) 0 (z_sv hv) dX5_dropJobs_12 (fun Z3 H locs eZ3 hG => ?_)
  replace hw := hw Z3 eZ3
  exact z_vret hF hG hr hlk hw dX5_dropJobs_15
theorem hS_yX5_dropJobs : yX5_dropJobs.cls ≠ "java/lang/invoke/MethodHandle" ∧ yX5_dropJobs.cls ≠ "java/lang/invoke/VarHandle" ∧ (parseMethodDescriptor yX5_dropJobs.desc).map (fun d => d.parameters.length) = some 0 := by decide +kernel
set_option maxHeartbeats 4000000 in
set_option maxRecDepth 100000 in
theorem kX5_beginAnew (l : Launch) (E : zE) (Z : zS) (v : Nat) (u1 : Int32) (a2 : Int32) (hv : v < 18) {K : zS → Prop} (hw : wX5_beginAnew v u1 a2 Z K) : zCv l yX5_beginAnew wsX5_beginAnew ({ frames := 1, cells := 0, slots := 0, locals := 20 } : Room) E Z [.ref (E.2.1 v), .ref (E.2.1 (84 + (u1 : Int32).toNatClampNeg)), .int a2] K := by
  refine z_bodyv (cc := cX5_beginAnew) (nL := 3) (by decide) rfl (Nat.le_of_ble_eq_true rfl) ?_
  intro p e R s m args below meth c ls hfr hlo hF hr hlk hG hl
  have hx := hF.1.1
  have hb := hF.1.2.1
  have hown := hF.1.2.2.2.1
  have hts := hF.1.2.2.2.2
  have in5 : ∀ w ∈ u_ws RX5 TX5 15, w ∈ wsX5_beginAnew := fun _ h => List.mem_cons_of_mem _ (List.mem_append_right _ h)
  have hl : lv_has ls 3 [(0, .ref (E.2.1 v)), (1, .ref (E.2.1 (84 + (u1 : Int32).toNatClampNeg))), (2, .int a2)] := hl
  unfold wX5_beginAnew at hw
  refine lv_aload_n hx hb dX5_beginAnew_0 rfl (lv_at hl 0 rfl) ?_
  refine lv_aload_n hx hb dX5_beginAnew_1 rfl (lv_at hl 1 rfl) ?_
  refine z_put hF hG v (zc_sv hv) (z_sv hv) rfl in5 tyX5_ok nmX5 0 (by decide) (List.mem_of_getElem? (i := 1) rfl) rfl rfl (tyX5_ok 0 (by decide)) rfl rfl (Nat.le_of_ble_eq_true rfl) u1 (z_sv hv) dX5_beginAnew_2 (fun Z1 H locs eZ1 hG => ?_)
  replace hw := hw Z1 eZ1
  refine lv_aload_n hx hb dX5_beginAnew_5 rfl (lv_at hl 0 rfl) ?_
  refine lv_iload_n hx hb dX5_beginAnew_6 rfl (lv_at hl 2 rfl) ?_
  refine z_put hF hG v (zc_sv hv) (z_sv hv) rfl in5 tyX5_ok nmX5 1 (by decide) (List.mem_of_getElem? (i := 2) rfl) rfl rfl (tyX5_ok 1 (by decide)) rfl rfl (Nat.le_of_ble_eq_true rfl) a2 (z_sv hv) dX5_beginAnew_7 (fun Z2 H locs eZ2 hG => ?_)
  replace hw := hw Z2 eZ2
  refine lv_aload_n hx hb dX5_beginAnew_10 rfl (lv_at hl 0 rfl) ?_
  refine lv_iconst (v := 0) hx hb dX5_beginAnew_11 (by decide) ?_
  refine z_put hF hG v (zc_sv hv) (z_sv hv) rfl in5 tyX5_ok nmX5 5 (by decide) (List.mem_of_getElem? (i := 3) rfl) rfl rfl (tyX5_ok 5 (by decide)) rfl rfl (Nat.le_of_ble_eq_true rfl) 0 (z_sv hv) dX5_beginAnew_12 (fun Z3 H locs eZ3 hG => ?_)
  replace hw := hw Z3 eZ3
  refine lv_aload_n hx hb dX5_beginAnew_15 rfl (lv_at hl 0 rfl) ?_
  refine lv_iconst (v := 0) hx hb dX5_beginAnew_16 (by decide) ?_
  refine z_put hF hG v (zc_sv hv) (z_sv hv) rfl in5 tyX5_ok nmX5 6 (by decide) (List.mem_of_getElem? (i := 4) rfl) rfl rfl (tyX5_ok 6 (by decide)) rfl rfl (Nat.le_of_ble_eq_true rfl) 0 (z_sv hv) dX5_beginAnew_17 (fun Z4 H locs eZ4 hG => ?_)
  replace hw := hw Z4 eZ4
  refine lv_aload_n hx hb dX5_beginAnew_20 rfl (lv_at hl 0 rfl) ?_
  refine lv_iconst (v := 0) hx hb dX5_beginAnew_21 (by decide) ?_
  refine z_put hF hG v (zc_sv hv) (z_sv hv) rfl in5 tyX5_ok nmX5 8 (by decide) (List.mem_of_getElem? (i := 5) rfl) rfl rfl (tyX5_ok 8 (by decide)) rfl rfl (Nat.le_of_ble_eq_true rfl) 0 (z_sv hv) dX5_beginAnew_22 (fun Z5 H locs eZ5 hG => ?_)
  replace hw := hw Z5 eZ5
  refine lv_aload_n hx hb dX5_beginAnew_25 rfl (lv_at hl 0 rfl) ?_
  refine lv_iconst (v := 0) hx hb dX5_beginAnew_26 (by decide) ?_
  refine z_put hF hG v (zc_sv hv) (z_sv hv) rfl in5 tyX5_ok nmX5 9 (by decide) (List.mem_of_getElem? (i := 6) rfl) rfl rfl (tyX5_ok 9 (by decide)) rfl rfl (Nat.le_of_ble_eq_true rfl) 0 (z_sv hv) dX5_beginAnew_27 (fun Z6 H locs eZ6 hG => ?_)
  replace hw := hw Z6 eZ6
  refine lv_aload_n hx hb dX5_beginAnew_30 rfl (lv_at hl 0 rfl) ?_
  refine z_cv (va_runV (rest := []) hF.1 (kX5_dropJobs l E Z6 v hv hw _) (cwV 0 hts gX5_beginAnew_X5_dropJobs rfl rfl rfl ⟨rfl, hS_yX5_dropJobs⟩ ⟨Nat.le_trans (Nat.le_of_ble_eq_true rfl) hfr, Nat.le_trans (Nat.le_of_ble_eq_true rfl) hlo⟩) (z_preV hF hG v (zc_sv hv) (z_sv hv) rfl) rfl rfl hl.1 rfl (lv_room (Nat.le_of_ble_eq_true rfl)) dX5_beginAnew_31 ⟨Nat.zero_le _, Nat.zero_le _⟩) hG (fun Z7 H locs hw hG => ?_)
  exact z_vret hF hG hr hlk hw dX5_beginAnew_34
set_option maxHeartbeats 4000000 in
set_option maxRecDepth 100000 in
theorem kX11_partOf (l : Launch) (E : zE) (Z : zS) (a1 : Int32) (a2 : Int32) {K : Int32 → zS → Prop} (hw : wX11_partOf a1 a2 Z K) : zCi l yX11_partOf wsX11_partOf ({ frames := 0, cells := 0, slots := 0, locals := 0 } : Room) E Z [.int a1, .int a2] K := by
  refine z_bodyi (cc := cX11_partOf) (nL := 2) (ret := .int) (by decide) rfl (Nat.le_of_ble_eq_true rfl) ?_
  intro p e R s m args below meth c ls hfr hlo hF hr hlk hG hl
  have hx := hF.1.1
  have hb := hF.1.2.1
  have hown := hF.1.2.2.2.1
  have hts := hF.1.2.2.2.2
  have hl : lv_has ls 2 [(0, .int a1), (1, .int a2)] := hl
  unfold wX11_partOf at hw
  refine lv_iload_n hx hb dX11_partOf_0 rfl (lv_at hl 1 rfl) ?_
  refine lv_iconst (v := 1) hx hb dX11_partOf_1 (by decide) ?_
  refine lv_icmp_ge (tgt := 9) hx hb dX11_partOf_2 (by decide) (fun c1 => ?_) (fun c1 => ?_)
  · replace hw := hw.1 c1
    refine lv_bipush (v := 60) hx hb dX11_partOf_9 (by decide) ?_
    refine lv_iload_n hx hb dX11_partOf_11 rfl (lv_at hl 0 rfl) ?_
    refine lv_imul hx hb dX11_partOf_12 ?_
    refine lv_iload_n hx hb dX11_partOf_13 rfl (lv_at hl 1 rfl) ?_
    refine lv_idiv hx hb dX11_partOf_14 hw.1 ?_
    replace hw := hw.2
    exact z_iret hF hG hr hlk hw dX11_partOf_15
  replace hw := hw.2 c1
  refine lv_iconst (v := 0) hx hb dX11_partOf_5 (by decide) ?_
  refine lv_goto (tgt := 15) hx hb dX11_partOf_6 (by decide) ?_
  exact z_iret hF hG hr hlk hw dX11_partOf_15
theorem hS_yX11_partOf : yX11_partOf.cls ≠ "java/lang/invoke/MethodHandle" ∧ yX11_partOf.cls ≠ "java/lang/invoke/VarHandle" ∧ (parseMethodDescriptor yX11_partOf.desc).map (fun d => d.parameters.length) = some 2 := by decide +kernel
set_option maxHeartbeats 4000000 in
set_option maxRecDepth 100000 in
theorem kX5_setBudget (l : Launch) (E : zE) (Z : zS) (v : Nat) (a1 : Int32) (a2 : Int32) (hv : v < 18) {K : zS → Prop} (hw : wX5_setBudget v a1 a2 Z K) : zCv l yX5_setBudget wsX5_setBudget ({ frames := 1, cells := 0, slots := 0, locals := 21 } : Room) E Z [.ref (E.2.1 v), .int a1, .int a2] K := by
  refine z_bodyv (cc := cX5_setBudget) (nL := 3) (by decide) rfl (Nat.le_of_ble_eq_true rfl) ?_
  intro p e R s m args below meth c ls hfr hlo hF hr hlk hG hl
  have hx := hF.1.1
  have hb := hF.1.2.1
  have hown := hF.1.2.2.2.1
  have hts := hF.1.2.2.2.2
  have in5 : ∀ w ∈ u_ws RX5 TX5 15, w ∈ wsX5_setBudget := fun _ h => List.mem_cons_of_mem _ (List.mem_append_right _ h)
  have hl : lv_has ls 3 [(0, .ref (E.2.1 v)), (1, .int a1), (2, .int a2)] := hl
  unfold wX5_setBudget at hw
  refine lv_aload_n hx hb dX5_setBudget_0 rfl (lv_at hl 0 rfl) ?_
  refine lv_iload_n hx hb dX5_setBudget_1 rfl (lv_at hl 1 rfl) ?_
  refine z_put hF hG v (zc_sv hv) (z_sv hv) rfl in5 tyX5_ok nmX5 2 (by decide) (List.mem_of_getElem? (i := 1) rfl) rfl rfl (tyX5_ok 2 (by decide)) rfl rfl (Nat.le_of_ble_eq_true rfl) a1 (z_sv hv) dX5_setBudget_2 (fun Z1 H locs eZ1 hG => ?_)
  replace hw := hw Z1 eZ1
  refine lv_aload_n hx hb dX5_setBudget_5 rfl (lv_at hl 0 rfl) ?_
  refine lv_iload_n hx hb dX5_setBudget_6 rfl (lv_at hl 2 rfl) ?_
  refine z_put hF hG v (zc_sv hv) (z_sv hv) rfl in5 tyX5_ok nmX5 3 (by decide) (List.mem_of_getElem? (i := 2) rfl) rfl rfl (tyX5_ok 3 (by decide)) rfl rfl (Nat.le_of_ble_eq_true rfl) a2 (z_sv hv) dX5_setBudget_7 (fun Z2 H locs eZ2 hG => ?_)
  replace hw := hw Z2 eZ2
  refine lv_aload_n hx hb dX5_setBudget_10 rfl (lv_at hl 0 rfl) ?_
  refine lv_iload_n hx hb dX5_setBudget_11 rfl (lv_at hl 1 rfl) ?_
  refine lv_iload_n hx hb dX5_setBudget_12 rfl (lv_at hl 2 rfl) ?_
  refine z_ci (va_runSN (rest := [.ref (E.2.1 v)]) hF.1 (kX11_partOf l E Z2 a1 a2  hw _) ⟨va_cnB 2 hts gX5_setBudget_X11_partOf_n47 rfl rfl rfl hF.2.2.1.2.1 (hts (.initialized RX11) (List.mem_of_getElem? (i := 5) rfl)) hS_yX11_partOf ⟨Nat.le_trans (Nat.le_of_ble_eq_true rfl) hfr, Nat.le_trans (Nat.le_of_ble_eq_true rfl) hlo⟩, hts (.static yX11_partOf) (List.mem_of_getElem? (i := 4) rfl), trivial⟩ (z_preS hF hG) rfl rfl hl.1 rfl (lv_room (Nat.le_of_ble_eq_true rfl)) dX5_setBudget_13 ⟨Nat.zero_le _, Nat.zero_le _⟩) hG (fun r4 Z3 H locs hw hG => ?_)
  refine z_put hF hG v (zc_sv hv) (z_sv hv) rfl in5 tyX5_ok nmX5 4 (by decide) (List.mem_of_getElem? (i := 3) rfl) rfl rfl (tyX5_ok 4 (by decide)) rfl rfl (Nat.le_of_ble_eq_true rfl) r4 (z_sv hv) dX5_setBudget_16 (fun Z5 H locs eZ5 hG => ?_)
  replace hw := hw Z5 eZ5
  exact z_vret hF hG hr hlk hw dX5_setBudget_19
theorem hS_yX5_beginAnew : yX5_beginAnew.cls ≠ "java/lang/invoke/MethodHandle" ∧ yX5_beginAnew.cls ≠ "java/lang/invoke/VarHandle" ∧ (parseMethodDescriptor yX5_beginAnew.desc).map (fun d => d.parameters.length) = some 2 := by decide +kernel
theorem hS_yX5_setBudget : yX5_setBudget.cls ≠ "java/lang/invoke/MethodHandle" ∧ yX5_setBudget.cls ≠ "java/lang/invoke/VarHandle" ∧ (parseMethodDescriptor yX5_setBudget.desc).map (fun d => d.parameters.length) = some 2 := by decide +kernel
set_option maxHeartbeats 4000000 in
set_option maxRecDepth 100000 in
theorem kX3_addServer (l : Launch) (E : zE) (Z : zS) (v : Nat) (u1 : Int32) (a2 : Int32) (a3 : Int32) (a4 : Int32) (hv : v < 3) {K : zS → Prop} (hw : wX3_addServer v u1 a2 a3 a4 Z K) : zCv l yX3_addServer wsX3_addServer ({ frames := 2, cells := 0, slots := 0, locals := 43 } : Room) E Z [.ref (E.2.1 (54 + v)), .ref (E.2.1 (84 + (u1 : Int32).toNatClampNeg)), .int a2, .int a3, .int a4] K := by
  refine z_bodyv (cc := cX3_addServer) (nL := 5) (by decide) rfl (Nat.le_of_ble_eq_true rfl) ?_
  intro p e R s m args below meth c ls hfr hlo hF hr hlk hG hl
  have hx := hF.1.1
  have hb := hF.1.2.1
  have hown := hF.1.2.2.2.1
  have hts := hF.1.2.2.2.2
  have in3 : ∀ w ∈ u_ws RX3 TX3 5, w ∈ wsX3_addServer := fun _ h => List.mem_cons_of_mem _ (List.mem_append_left _ (List.mem_append_right _ h))
  have hl : lv_has ls 5 [(0, .ref (E.2.1 (54 + v))), (1, .ref (E.2.1 (84 + (u1 : Int32).toNatClampNeg))), (2, .int a2), (3, .int a3), (4, .int a4)] := hl
  unfold wX3_addServer at hw
  refine lv_aload_n hx hb dX3_addServer_0 rfl (lv_at hl 0 rfl) ?_
  refine z_get hF hG (54 + v) (zc_pl hv) (z_pl hv) rfl in3 1 (by decide) (List.mem_of_getElem? (i := 1) rfl) rfl rfl dX3_addServer_1 ?_
  refine lv_bipush (v := 6) hx hb dX3_addServer_4 (by decide) ?_
  refine lv_icmp_lt (tgt := 10) hx hb dX3_addServer_6 (by decide) (fun c1 => ?_) (fun c1 => ?_)
  · replace hw := hw.1 c1
    refine lv_aload_n hx hb dX3_addServer_10 rfl (lv_at hl 0 rfl) ?_
    refine z_get hF hG (54 + v) (zc_pl hv) (z_pl hv) rfl in3 0 (by decide) (List.mem_of_getElem? (i := 2) rfl) rfl rfl dX3_addServer_11 ?_
    refine lv_aload_n hx hb dX3_addServer_14 rfl (lv_at hl 0 rfl) ?_
    refine z_get hF hG (54 + v) (zc_pl hv) (z_pl hv) rfl in3 1 (by decide) (List.mem_of_getElem? (i := 1) rfl) rfl rfl dX3_addServer_15 ?_
    obtain ⟨q2, hw⟩ := hw
    refine z_aald hF hG (57 + v) 1 (zc_pr hv) (z_pr hv) rfl q2 rfl dX3_addServer_18 ?_
    refine lv_aload_n hx hb dX3_addServer_19 rfl (lv_at hl 1 rfl) ?_
    refine lv_iload_n hx hb dX3_addServer_20 rfl (lv_at hl 2 rfl) ?_
    refine z_cv (va_runV (rest := []) hF.1 (kX5_beginAnew l E Z ((6 * v + ((Z (54 + v) 1) : Int32).toNatClampNeg)) u1 a2 (z_vb hv q2) hw _) (cwV 2 hts gX3_addServer_X5_beginAnew rfl rfl rfl ⟨rfl, hS_yX5_beginAnew⟩ ⟨Nat.le_trans (Nat.le_of_ble_eq_true rfl) hfr, Nat.le_trans (Nat.le_of_ble_eq_true rfl) hlo⟩) (z_preV hF hG (6 * v + ((Z (54 + v) 1) : Int32).toNatClampNeg) (zc_sv (z_vb hv q2)) (z_sv (z_vb hv q2)) rfl) rfl rfl hl.1 rfl (lv_room (Nat.le_of_ble_eq_true rfl)) dX3_addServer_21 ⟨Nat.zero_le _, Nat.zero_le _⟩) hG (fun Z3 H locs hw hG => ?_)
    refine lv_aload_n hx hb dX3_addServer_24 rfl (lv_at hl 0 rfl) ?_
    refine z_get hF hG (54 + v) (zc_pl hv) (z_pl hv) rfl in3 0 (by decide) (List.mem_of_getElem? (i := 2) rfl) rfl rfl dX3_addServer_25 ?_
    refine lv_aload_n hx hb dX3_addServer_28 rfl (lv_at hl 0 rfl) ?_
    refine z_get hF hG (54 + v) (zc_pl hv) (z_pl hv) rfl in3 1 (by decide) (List.mem_of_getElem? (i := 1) rfl) rfl rfl dX3_addServer_29 ?_
    obtain ⟨q4, hw⟩ := hw
    refine z_aald hF hG (57 + v) 1 (zc_pr hv) (z_pr hv) rfl q4 rfl dX3_addServer_32 ?_
    refine lv_iload_n hx hb dX3_addServer_33 rfl (lv_at hl 3 rfl) ?_
    refine lv_iload hx hb dX3_addServer_34 (lv_at hl 4 rfl) ?_
    refine z_cv (va_runV (rest := []) hF.1 (kX5_setBudget l E Z3 ((6 * v + ((Z3 (54 + v) 1) : Int32).toNatClampNeg)) a3 a4 (z_vb hv q4) hw _) (cwV 2 hts gX3_addServer_X5_setBudget rfl rfl rfl ⟨rfl, hS_yX5_setBudget⟩ ⟨Nat.le_trans (Nat.le_of_ble_eq_true rfl) hfr, Nat.le_trans (Nat.le_of_ble_eq_true rfl) hlo⟩) (z_preV hF hG (6 * v + ((Z3 (54 + v) 1) : Int32).toNatClampNeg) (zc_sv (z_vb hv q4)) (z_sv (z_vb hv q4)) rfl) rfl rfl hl.1 rfl (lv_room (Nat.le_of_ble_eq_true rfl)) dX3_addServer_36 ⟨Nat.zero_le _, Nat.zero_le _⟩) hG (fun Z5 H locs hw hG => ?_)
    refine lv_aload_n hx hb dX3_addServer_39 rfl (lv_at hl 0 rfl) ?_
    refine lv_dup hx hb dX3_addServer_40 rfl ?_
    refine z_get hF hG (54 + v) (zc_pl hv) (z_pl hv) rfl in3 1 (by decide) (List.mem_of_getElem? (i := 1) rfl) rfl rfl dX3_addServer_41 ?_
    refine lv_iconst (v := 1) hx hb dX3_addServer_44 (by decide) ?_
    refine lv_iadd hx hb dX3_addServer_45 ?_
    refine z_put hF hG (54 + v) (zc_pl hv) (z_pl hv) rfl in3 tyX3_ok nmX3 1 (by decide) (List.mem_of_getElem? (i := 1) rfl) rfl rfl (tyX3_ok 1 (by decide)) rfl rfl (Nat.le_of_ble_eq_true rfl) (((Z5 (54 + v) 1) + 1)) (z_pl hv) dX3_addServer_46 (fun Z6 H locs eZ6 hG => ?_)
    replace hw := hw Z6 eZ6
    exact z_vret hF hG hr hlk hw dX3_addServer_49
  replace hw := hw.2 c1
  exact z_vret hF hG hr hlk hw dX3_addServer_9
set_option maxHeartbeats 4000000 in
set_option maxRecDepth 100000 in
theorem kX5_isFull (l : Launch) (E : zE) (Z : zS) (v : Nat) (hv : v < 18) {K : Int32 → zS → Prop} (hw : wX5_isFull v Z K) : zCi l yX5_isFull wsX5_isFull ({ frames := 0, cells := 0, slots := 0, locals := 0 } : Room) E Z [.ref (E.2.1 v)] K := by
  refine z_bodyi (cc := cX5_isFull) (nL := 1) (ret := .boolean) (by decide) rfl (Nat.le_of_ble_eq_true rfl) ?_
  intro p e R s m args below meth c ls hfr hlo hF hr hlk hG hl
  have hx := hF.1.1
  have hb := hF.1.2.1
  have hown := hF.1.2.2.2.1
  have hts := hF.1.2.2.2.2
  have in5 : ∀ w ∈ u_ws RX5 TX5 15, w ∈ wsX5_isFull := fun _ h => List.mem_cons_of_mem _ (List.mem_append_right _ h)
  have hl : lv_has ls 1 [(0, .ref (E.2.1 v))] := hl
  unfold wX5_isFull at hw
  refine lv_aload_n hx hb dX5_isFull_0 rfl (lv_at hl 0 rfl) ?_
  refine z_get hF hG v (zc_sv hv) (z_sv hv) rfl in5 10 (by decide) (List.mem_of_getElem? (i := 1) rfl) rfl rfl dX5_isFull_1 ?_
  refine lv_iconst (v := 4) hx hb dX5_isFull_4 (by decide) ?_
  refine lv_icmp_lt (tgt := 12) hx hb dX5_isFull_5 (by decide) (fun c1 => ?_) (fun c1 => ?_)
  · replace hw := hw.1 c1
    refine lv_iconst (v := 0) hx hb dX5_isFull_12 (by decide) ?_
    exact z_zret hF hG hr hlk (by decide) hw dX5_isFull_13
  replace hw := hw.2 c1
  refine lv_iconst (v := 1) hx hb dX5_isFull_8 (by decide) ?_
  refine lv_goto (tgt := 13) hx hb dX5_isFull_9 (by decide) ?_
  exact z_zret hF hG hr hlk (by decide) hw dX5_isFull_13
theorem hS_yX3_has : yX3_has.cls ≠ "java/lang/invoke/MethodHandle" ∧ yX3_has.cls ≠ "java/lang/invoke/VarHandle" ∧ (parseMethodDescriptor yX3_has.desc).map (fun d => d.parameters.length) = some 1 := by decide +kernel
theorem hS_yX5_isFull : yX5_isFull.cls ≠ "java/lang/invoke/MethodHandle" ∧ yX5_isFull.cls ≠ "java/lang/invoke/VarHandle" ∧ (parseMethodDescriptor yX5_isFull.desc).map (fun d => d.parameters.length) = some 0 := by decide +kernel
set_option maxHeartbeats 4000000 in
set_option maxRecDepth 100000 in
theorem kX3_sendingRefusal (l : Launch) (E : zE) (Z : zS) (v : Nat) (a1 : Int32) (a2 : Int32) (a3 : Int32) (hv : v < 3) {K : Int32 → zS → Prop} (hw : wX3_sendingRefusal v a1 a2 a3 Z K) : zCi l yX3_sendingRefusal wsX3_sendingRefusal ({ frames := 2, cells := 0, slots := 0, locals := 43 } : Room) E Z [.ref (E.2.1 (54 + v)), .int a1, .int a2, .int a3] K := by
  refine z_bodyi (cc := cX3_sendingRefusal) (nL := 4) (ret := .int) (by decide) rfl (Nat.le_of_ble_eq_true rfl) ?_
  intro p e R s m args below meth c ls hfr hlo hF hr hlk hG hl
  have hx := hF.1.1
  have hb := hF.1.2.1
  have hown := hF.1.2.2.2.1
  have hts := hF.1.2.2.2.2
  have in3 : ∀ w ∈ u_ws RX3 TX3 5, w ∈ wsX3_sendingRefusal := fun _ h => List.mem_cons_of_mem _ (List.mem_append_left _ (List.mem_append_right _ h))
  have hl : lv_has ls 4 [(0, .ref (E.2.1 (54 + v))), (1, .int a1), (2, .int a2), (3, .int a3)] := hl
  unfold wX3_sendingRefusal at hw
  refine lv_aload_n hx hb dX3_sendingRefusal_0 rfl (lv_at hl 0 rfl) ?_
  refine lv_iload_n hx hb dX3_sendingRefusal_1 rfl (lv_at hl 1 rfl) ?_
  refine z_ci (va_runV (rest := []) hF.1 (kX3_has l E Z v a1 hv hw _) (cwV 1 hts gX3_sendingRefusal_X3_has rfl rfl rfl ⟨rfl, hS_yX3_has⟩ ⟨Nat.le_trans (Nat.le_of_ble_eq_true rfl) hfr, Nat.le_trans (Nat.le_of_ble_eq_true rfl) hlo⟩) (z_preV hF hG (54 + v) (zc_pl hv) (z_pl hv) rfl) rfl rfl hl.1 rfl (lv_room (Nat.le_of_ble_eq_true rfl)) dX3_sendingRefusal_2 ⟨Nat.zero_le _, Nat.zero_le _⟩) hG (fun r2 Z1 H locs hw hG => ?_)
  refine lv_if_eq (tgt := 27) hx hb dX3_sendingRefusal_5 (by decide) (fun c3 => ?_) (fun c3 => ?_)
  · replace hw := hw.1 c3
    refine lv_iconst (v := (-1)) hx hb dX3_sendingRefusal_27 (by decide) ?_
    exact z_iret hF hG hr hlk hw dX3_sendingRefusal_28
  replace hw := hw.2 c3
  refine lv_iload_n hx hb dX3_sendingRefusal_8 rfl (lv_at hl 2 rfl) ?_
  refine lv_iconst (v := 1) hx hb dX3_sendingRefusal_9 (by decide) ?_
  refine lv_bipush (v := 9) hx hb dX3_sendingRefusal_10 (by decide) ?_
  refine z_ci (va_runSN (rest := []) hF.1 (kX11_within l E Z1 a2 1 9  hw _) ⟨va_cnB 3 hts gX3_sendingRefusal_X11_within_n37 rfl rfl rfl hF.2.2.1.1 (hts (.initialized RX11) (List.mem_of_getElem? (i := 9) rfl)) hS_yX11_within ⟨Nat.le_trans (Nat.le_of_ble_eq_true rfl) hfr, Nat.le_trans (Nat.le_of_ble_eq_true rfl) hlo⟩, hts (.static yX11_within) (List.mem_of_getElem? (i := 8) rfl), trivial⟩ (z_preS hF hG) rfl rfl hl.1 rfl (lv_room (Nat.le_of_ble_eq_true rfl)) dX3_sendingRefusal_12 ⟨Nat.zero_le _, Nat.zero_le _⟩) hG (fun r5 Z4 H locs hw hG => ?_)
  refine lv_if_eq (tgt := 27) hx hb dX3_sendingRefusal_15 (by decide) (fun c6 => ?_) (fun c6 => ?_)
  · replace hw := hw.1 c6
    refine lv_iconst (v := (-1)) hx hb dX3_sendingRefusal_27 (by decide) ?_
    exact z_iret hF hG hr hlk hw dX3_sendingRefusal_28
  replace hw := hw.2 c6
  refine lv_iload_n hx hb dX3_sendingRefusal_18 rfl (lv_at hl 3 rfl) ?_
  refine lv_iconst (v := 0) hx hb dX3_sendingRefusal_19 (by decide) ?_
  refine lv_iconst (v := 3) hx hb dX3_sendingRefusal_20 (by decide) ?_
  refine z_ci (va_runSN (rest := []) hF.1 (kX11_within l E Z4 a3 0 3  hw _) ⟨va_cnB 3 hts gX3_sendingRefusal_X11_within_n37 rfl rfl rfl hF.2.2.1.1 (hts (.initialized RX11) (List.mem_of_getElem? (i := 9) rfl)) hS_yX11_within ⟨Nat.le_trans (Nat.le_of_ble_eq_true rfl) hfr, Nat.le_trans (Nat.le_of_ble_eq_true rfl) hlo⟩, hts (.static yX11_within) (List.mem_of_getElem? (i := 8) rfl), trivial⟩ (z_preS hF hG) rfl rfl hl.1 rfl (lv_room (Nat.le_of_ble_eq_true rfl)) dX3_sendingRefusal_21 ⟨Nat.zero_le _, Nat.zero_le _⟩) hG (fun r8 Z7 H locs hw hG => ?_)
  refine lv_if_ne (tgt := 29) hx hb dX3_sendingRefusal_24 (by decide) (fun c9 => ?_) (fun c9 => ?_)
  · replace hw := hw.1 c9
    refine lv_aload_n hx hb dX3_sendingRefusal_29 rfl (lv_at hl 0 rfl) ?_
    refine z_get hF hG (54 + v) (zc_pl hv) (z_pl hv) rfl in3 0 (by decide) (List.mem_of_getElem? (i := 1) rfl) rfl rfl dX3_sendingRefusal_30 ?_
    refine lv_iload_n hx hb dX3_sendingRefusal_33 rfl (lv_at hl 1 rfl) ?_
    obtain ⟨q10, hw⟩ := hw
    refine z_aald hF hG (57 + v) 1 (zc_pr hv) (z_pr hv) rfl q10 rfl dX3_sendingRefusal_34 ?_
    refine z_ci (va_runV (rest := []) hF.1 (kX5_isFull l E Z7 ((6 * v + (a1 : Int32).toNatClampNeg)) (z_vb hv q10) hw _) (cwV 0 hts gX3_sendingRefusal_X5_isFull rfl rfl rfl ⟨rfl, hS_yX5_isFull⟩ ⟨Nat.le_trans (Nat.le_of_ble_eq_true rfl) hfr, Nat.le_trans (Nat.le_of_ble_eq_true rfl) hlo⟩) (z_preV hF hG (6 * v + (a1 : Int32).toNatClampNeg) (zc_sv (z_vb hv q10)) (z_sv (z_vb hv q10)) rfl) rfl rfl hl.1 rfl (lv_room (Nat.le_of_ble_eq_true rfl)) dX3_sendingRefusal_35 ⟨Nat.zero_le _, Nat.zero_le _⟩) hG (fun r12 Z11 H locs hw hG => ?_)
    refine lv_if_eq (tgt := 46) hx hb dX3_sendingRefusal_38 (by decide) (fun c13 => ?_) (fun c13 => ?_)
    · replace hw := hw.1 c13
      refine lv_iconst (v := 0) hx hb dX3_sendingRefusal_46 (by decide) ?_
      exact z_iret hF hG hr hlk hw dX3_sendingRefusal_47
    replace hw := hw.2 c13
    refine lv_bipush (v := (-2)) hx hb dX3_sendingRefusal_41 (by decide) ?_
    refine lv_goto (tgt := 47) hx hb dX3_sendingRefusal_43 (by decide) ?_
    exact z_iret hF hG hr hlk hw dX3_sendingRefusal_47
  replace hw := hw.2 (fun h => h c9)
  refine lv_iconst (v := (-1)) hx hb dX3_sendingRefusal_27 (by decide) ?_
  exact z_iret hF hG hr hlk hw dX3_sendingRefusal_28
set_option maxHeartbeats 4000000 in
set_option maxRecDepth 100000 in
theorem kX3_tickingRefusal (l : Launch) (E : zE) (Z : zS) (v : Nat) (a1 : Int32) (hv : v < 3) {K : Int32 → zS → Prop} (hw : wX3_tickingRefusal v a1 Z K) : zCi l yX3_tickingRefusal wsX3_tickingRefusal ({ frames := 1, cells := 0, slots := 0, locals := 22 } : Room) E Z [.ref (E.2.1 (54 + v)), .int a1] K := by
  refine z_bodyi (cc := cX3_tickingRefusal) (nL := 2) (ret := .int) (by decide) rfl (Nat.le_of_ble_eq_true rfl) ?_
  intro p e R s m args below meth c ls hfr hlo hF hr hlk hG hl
  have hx := hF.1.1
  have hb := hF.1.2.1
  have hown := hF.1.2.2.2.1
  have hts := hF.1.2.2.2.2
  have in3 : ∀ w ∈ u_ws RX3 TX3 5, w ∈ wsX3_tickingRefusal := fun _ h => List.mem_cons_of_mem _ (List.mem_append_right _ h)
  have hl : lv_has ls 2 [(0, .ref (E.2.1 (54 + v))), (1, .int a1)] := hl
  unfold wX3_tickingRefusal at hw
  refine lv_iload_n hx hb dX3_tickingRefusal_0 rfl (lv_at hl 1 rfl) ?_
  refine lv_iconst (v := 1) hx hb dX3_tickingRefusal_1 (by decide) ?_
  refine lv_bipush (v := 60) hx hb dX3_tickingRefusal_2 (by decide) ?_
  refine z_ci (va_runSN (rest := []) hF.1 (kX11_within l E Z a1 1 60  hw _) ⟨va_cnB 3 hts gX3_tickingRefusal_X11_within_n37 rfl rfl rfl hF.2.2.1.1 (hts (.initialized RX11) (List.mem_of_getElem? (i := 3) rfl)) hS_yX11_within ⟨Nat.le_trans (Nat.le_of_ble_eq_true rfl) hfr, Nat.le_trans (Nat.le_of_ble_eq_true rfl) hlo⟩, hts (.static yX11_within) (List.mem_of_getElem? (i := 2) rfl), trivial⟩ (z_preS hF hG) rfl rfl hl.1 rfl (lv_room (Nat.le_of_ble_eq_true rfl)) dX3_tickingRefusal_4 ⟨Nat.zero_le _, Nat.zero_le _⟩) hG (fun r2 Z1 H locs hw hG => ?_)
  refine lv_if_ne (tgt := 12) hx hb dX3_tickingRefusal_7 (by decide) (fun c3 => ?_) (fun c3 => ?_)
  · replace hw := hw.1 c3
    refine lv_aload_n hx hb dX3_tickingRefusal_12 rfl (lv_at hl 0 rfl) ?_
    refine z_get hF hG (54 + v) (zc_pl hv) (z_pl hv) rfl in3 2 (by decide) (List.mem_of_getElem? (i := 1) rfl) rfl rfl dX3_tickingRefusal_13 ?_
    refine lv_iload_n hx hb dX3_tickingRefusal_16 rfl (lv_at hl 1 rfl) ?_
    refine lv_iadd hx hb dX3_tickingRefusal_17 ?_
    refine lv_sipush (v := 9999) hx hb dX3_tickingRefusal_18 (by decide) ?_
    refine lv_icmp_le (tgt := 29) hx hb dX3_tickingRefusal_21 (by decide) (fun c4 => ?_) (fun c4 => ?_)
    · replace hw := hw.1 c4
      refine lv_iconst (v := 0) hx hb dX3_tickingRefusal_29 (by decide) ?_
      exact z_iret hF hG hr hlk hw dX3_tickingRefusal_30
    replace hw := hw.2 c4
    refine lv_bipush (v := (-3)) hx hb dX3_tickingRefusal_24 (by decide) ?_
    refine lv_goto (tgt := 30) hx hb dX3_tickingRefusal_26 (by decide) ?_
    exact z_iret hF hG hr hlk hw dX3_tickingRefusal_30
  replace hw := hw.2 (fun h => h c3)
  refine lv_iconst (v := (-1)) hx hb dX3_tickingRefusal_10 (by decide) ?_
  exact z_iret hF hG hr hlk hw dX3_tickingRefusal_11
set_option maxHeartbeats 4000000 in
set_option maxRecDepth 100000 in
theorem kX5_hasEarned (l : Launch) (E : zE) (Z : zS) (v : Nat) (a1 : Int32) (hv : v < 18) {K : Int32 → zS → Prop} (hw : wX5_hasEarned v a1 Z K) : zCi l yX5_hasEarned wsX5_hasEarned ({ frames := 0, cells := 0, slots := 0, locals := 0 } : Room) E Z [.ref (E.2.1 v), .int a1] K := by
  refine z_bodyi (cc := cX5_hasEarned) (nL := 2) (ret := .boolean) (by decide) rfl (Nat.le_of_ble_eq_true rfl) ?_
  intro p e R s m args below meth c ls hfr hlo hF hr hlk hG hl
  have hx := hF.1.1
  have hb := hF.1.2.1
  have hown := hF.1.2.2.2.1
  have hts := hF.1.2.2.2.2
  have in5 : ∀ w ∈ u_ws RX5 TX5 15, w ∈ wsX5_hasEarned := fun _ h => List.mem_cons_of_mem _ (List.mem_append_right _ h)
  have hl : lv_has ls 2 [(0, .ref (E.2.1 v)), (1, .int a1)] := hl
  unfold wX5_hasEarned at hw
  refine lv_aload_n hx hb dX5_hasEarned_0 rfl (lv_at hl 0 rfl) ?_
  refine z_get hF hG v (zc_sv hv) (z_sv hv) rfl in5 5 (by decide) (List.mem_of_getElem? (i := 1) rfl) rfl rfl dX5_hasEarned_1 ?_
  refine lv_aload_n hx hb dX5_hasEarned_4 rfl (lv_at hl 0 rfl) ?_
  refine z_get hF hG v (zc_sv hv) (z_sv hv) rfl in5 3 (by decide) (List.mem_of_getElem? (i := 2) rfl) rfl rfl dX5_hasEarned_5 ?_
  refine lv_imul hx hb dX5_hasEarned_8 ?_
  refine lv_bipush (v := 60) hx hb dX5_hasEarned_9 (by decide) ?_
  refine lv_aload_n hx hb dX5_hasEarned_11 rfl (lv_at hl 0 rfl) ?_
  refine z_get hF hG v (zc_sv hv) (z_sv hv) rfl in5 2 (by decide) (List.mem_of_getElem? (i := 3) rfl) rfl rfl dX5_hasEarned_12 ?_
  refine lv_imul hx hb dX5_hasEarned_15 ?_
  refine lv_aload_n hx hb dX5_hasEarned_16 rfl (lv_at hl 0 rfl) ?_
  refine z_get hF hG v (zc_sv hv) (z_sv hv) rfl in5 6 (by decide) (List.mem_of_getElem? (i := 4) rfl) rfl rfl dX5_hasEarned_17 ?_
  refine lv_iload_n hx hb dX5_hasEarned_20 rfl (lv_at hl 1 rfl) ?_
  refine lv_isub hx hb dX5_hasEarned_21 ?_
  refine lv_imul hx hb dX5_hasEarned_22 ?_
  refine lv_icmp_lt (tgt := 30) hx hb dX5_hasEarned_23 (by decide) (fun c1 => ?_) (fun c1 => ?_)
  · replace hw := hw.1 c1
    refine lv_iconst (v := 0) hx hb dX5_hasEarned_30 (by decide) ?_
    exact z_zret hF hG hr hlk (by decide) hw dX5_hasEarned_31
  replace hw := hw.2 c1
  refine lv_iconst (v := 1) hx hb dX5_hasEarned_26 (by decide) ?_
  refine lv_goto (tgt := 31) hx hb dX5_hasEarned_27 (by decide) ?_
  exact z_zret hF hG hr hlk (by decide) hw dX5_hasEarned_31
theorem hS_yX1_wake : yX1_wake.cls ≠ "java/lang/invoke/MethodHandle" ∧ yX1_wake.cls ≠ "java/lang/invoke/VarHandle" ∧ (parseMethodDescriptor yX1_wake.desc).map (fun d => d.parameters.length) = some 1 := by decide +kernel
set_option maxHeartbeats 4000000 in
set_option maxRecDepth 100000 in
theorem kX9_wake (l : Launch) (E : zE) (Z : zS) (v : Int32) (u1 : Nat) (hu1 : u1 < 18) {K : zS → Prop} (hw : wX9_wake v u1 Z K) : zCv l yX9_wake wsX9_wake ({ frames := 1, cells := 0, slots := 0, locals := 21 } : Room) E Z [.ref (E.2.1 (84 + (v : Int32).toNatClampNeg)), .ref (E.2.1 u1)] K := by
  refine z_bodyv (cc := cX9_wake) (nL := 3) (by decide) rfl (Nat.le_of_ble_eq_true rfl) ?_
  intro p e R s m args below meth c ls hfr hlo hF hr hlk hG hl
  have hx := hF.1.1
  have hb := hF.1.2.1
  have hown := hF.1.2.2.2.1
  have hts := hF.1.2.2.2.2
  have in5 : ∀ w ∈ u_ws RX5 TX5 15, w ∈ wsX9_wake := fun _ h => List.mem_cons_of_mem _ (List.mem_append_right _ h)
  have hl : lv_has ls 3 [(0, .ref (E.2.1 (84 + (v : Int32).toNatClampNeg))), (1, .ref (E.2.1 u1))] := hl
  unfold wX9_wake at hw
  refine lv_aload_n hx hb dX9_wake_0 rfl (lv_at hl 1 rfl) ?_
  refine z_get hF hG u1 (zc_sv hu1) (z_sv hu1) rfl in5 5 (by decide) (List.mem_of_getElem? (i := 1) rfl) rfl rfl dX9_wake_1 ?_
  refine lv_iconst (v := 0) hx hb dX9_wake_4 (by decide) ?_
  refine va_mmin hx hb (hF.1.2.2.1.trans hl.1.symm) hown (hts (.methodLink RX9 13 Lib.Math.min.name) (List.mem_of_getElem? (i := 2) rfl)) (hts (.static Lib.Math.min.name) (List.mem_of_getElem? (i := 3) rfl)) (hts (.initialized "java/lang/Math") (List.mem_of_getElem? (i := 4) rfl)) (hts (.code Lib.Math.min.name Lib.Math.min.code 2 (some .int)) (List.mem_of_getElem? (i := 5) rfl)) (Nat.le_trans (Nat.le_of_ble_eq_true rfl) hfr) (Nat.le_trans (Nat.le_of_ble_eq_true rfl) hlo) (Nat.zero_le _) (Nat.zero_le _) dX9_wake_5 ?_
  refine lv_topi (fun y1 ey1 => ?_)
  replace hw := hw y1 ey1
  refine lv_istore_n (lv' := [(2, .int y1), (0, .ref (E.2.1 (84 + (v : Int32).toNatClampNeg))), (1, .ref (E.2.1 u1))]) hx hb dX9_wake_8 rfl hl (by decide) rfl (fun ls hl => ?_)
  refine lv_aload_n hx hb dX9_wake_9 rfl (lv_at hl 1 rfl) ?_
  refine lv_aload_n hx hb dX9_wake_10 rfl (lv_at hl 2 rfl) ?_
  obtain ⟨hki, hw⟩ := hw
  obtain ⟨C0, cC0, hcat, hpv⟩ := z_preK hF hG (As := [.ref (E.2.1 u1)]) hki
  have hup := hF.2.2.1.2.2.2.2.2.2.use args
  refine z_cv (z_runSU2 (rest := []) (x := ⟨RX4, "wake", "(LGreedyServers$Server;)V"⟩) (n := 1) hcat hF.1 (kX1_wake l E Z v u1 hu1 hw _) rfl rfl (Nat.le_trans (Nat.le_of_ble_eq_true rfl) hfr) (Nat.le_trans (Nat.le_of_ble_eq_true rfl) hlo) (pay_in hup (fun w hw => ⟨List.mem_append_right _ hw, (zUpW_good w (List.mem_append_right _ hw)).2⟩)) rfl (hup _ (List.mem_of_getElem? (i := 6) rfl)) (hup _ (List.mem_of_getElem? (i := 0) rfl)) (hup _ (List.mem_of_getElem? (i := 1) rfl)) rfl (hup _ (List.mem_of_getElem? (i := 2) rfl)) (hup _ (List.mem_of_getElem? (i := 3) rfl)) (hup _ (List.mem_of_getElem? (i := 4) rfl)) (hup _ (List.mem_of_getElem? (i := 5) rfl)) (by decide) hS_yX1_wake.2.2 hpv rfl rfl hl.1 rfl (lv_room (Nat.le_of_ble_eq_true rfl)) dX9_wake_11 ⟨Nat.zero_le _, Nat.zero_le _⟩) hG (fun Z2 H locs hw hG => ?_)
  refine lv_aload_n hx hb dX9_wake_14 rfl (lv_at hl 2 rfl) ?_
  refine lv_dup hx hb dX9_wake_15 rfl ?_
  refine z_get hF hG u1 (zc_sv hu1) (z_sv hu1) rfl in5 5 (by decide) (List.mem_of_getElem? (i := 1) rfl) rfl rfl dX9_wake_16 ?_
  refine lv_iload_n hx hb dX9_wake_19 rfl (lv_at hl 0 rfl) ?_
  refine lv_iadd hx hb dX9_wake_20 ?_
  refine z_put hF hG u1 (zc_sv hu1) (z_sv hu1) rfl in5 tyX5_ok nmX5 5 (by decide) (List.mem_of_getElem? (i := 1) rfl) rfl rfl (tyX5_ok 5 (by decide)) rfl rfl (Nat.le_of_ble_eq_true rfl) (((Z2 u1 5) + y1)) (z_sv hu1) dX9_wake_21 (fun Z3 H locs eZ3 hG => ?_)
  replace hw := hw Z3 eZ3
  exact z_vret hF hG hr hlk hw dX9_wake_24
theorem hS_yX9_wake : yX9_wake.cls ≠ "java/lang/invoke/MethodHandle" ∧ yX9_wake.cls ≠ "java/lang/invoke/VarHandle" ∧ (parseMethodDescriptor yX9_wake.desc).map (fun d => d.parameters.length) = some 1 := by decide +kernel
theorem hS_yX5_hasEarned : yX5_hasEarned.cls ≠ "java/lang/invoke/MethodHandle" ∧ yX5_hasEarned.cls ≠ "java/lang/invoke/VarHandle" ∧ (parseMethodDescriptor yX5_hasEarned.desc).map (fun d => d.parameters.length) = some 1 := by decide +kernel
set_option maxHeartbeats 4000000 in
set_option maxRecDepth 100000 in
theorem kX3_beginTick (l : Launch) (E : zE) (Z : zS) (v : Nat) (hv : v < 3) {K : zS → Prop} (hw : wX3_beginTick v Z K) : zCv l yX3_beginTick wsX3_beginTick ({ frames := 2, cells := 0, slots := 0, locals := 43 } : Room) E Z [.ref (E.2.1 (54 + v))] K := by
  refine z_bodyv (cc := cX3_beginTick) (nL := 3) (by decide) rfl (Nat.le_of_ble_eq_true rfl) ?_
  intro p e R s m args below meth c ls hfr hlo hF hr hlk hG hl
  have hx := hF.1.1
  have hb := hF.1.2.1
  have hown := hF.1.2.2.2.1
  have hts := hF.1.2.2.2.2
  have in3 : ∀ w ∈ u_ws RX3 TX3 5, w ∈ wsX3_beginTick := fun _ h => List.mem_cons_of_mem _ (List.mem_append_left _ (List.mem_append_right _ h))
  have in5 : ∀ w ∈ u_ws RX5 TX5 15, w ∈ wsX3_beginTick := fun _ h => List.mem_cons_of_mem _ (List.mem_append_right _ h)
  have hl : lv_has ls 3 [(0, .ref (E.2.1 (54 + v)))] := hl
  have S2 : ∀ (L2 : Int32 → zS → Prop), (∀ (x1 : Int32) (Z : zS) (H : Heap) (locs : List Loc) (ls : Array Slot), zG E Z s H locs → lv_has ls 3 [(0, .ref (E.2.1 (54 + v))), (1, .int x1)] → L2 x1 Z → W p l e R s m args below meth c H locs 0 0 (zQv E K below args s) (F0 m 2 ls [])) → ∀ (x1 : Int32) (Z : zS) (H : Heap) (locs : List Loc) (ls : Array Slot), zG E Z s H locs → lv_has ls 3 [(0, .ref (E.2.1 (54 + v))), (1, .int x1)] → wX3_beginTick_2b L2 v x1 Z K → W p l e R s m args below meth c H locs 0 0 (zQv E K below args s) (F0 m 2 ls []) := by
    intro L2 ih2
    have J71 : ∀ (x1 : Int32) (Z : zS) (H : Heap) (locs : List Loc) (ls : Array Slot), zG E Z s H locs → lv_has ls 3 [(0, .ref (E.2.1 (54 + v))), (1, .int x1)] → wX3_beginTick_71 L2 v x1 Z K → W p l e R s m args below meth c H locs 0 0 (zQv E K below args s) (F0 m 71 ls []) := by
      intro x1 Z H locs ls hG hl hw
      unfold wX3_beginTick_71 at hw
      obtain ⟨y9, ey9⟩ : ∃ y : Int32, y = x1 + 1 := ⟨_, rfl⟩
      replace hw := hw y9 ey9
      refine lv_iinc (v := y9) (lv' := [(1, .int y9), (0, .ref (E.2.1 (54 + v)))]) hx hb dX3_beginTick_71 hl (k := 1) rfl (by rw [ey9]; rfl) (by decide) rfl (fun ls hl => ?_)
      refine lv_goto (tgt := 2) hx hb dX3_beginTick_74 (by decide) ?_
      exact ih2 y9 Z _ _ _ hG (lv_sub hl [1, 0] rfl) hw
    have J47 : ∀ (x1 : Int32) (v2 : Nat) (Z : zS) (H : Heap) (locs : List Loc) (ls : Array Slot), v2 < 18 → zG E Z s H locs → lv_has ls 3 [(0, .ref (E.2.1 (54 + v))), (1, .int x1), (2, .ref (E.2.1 v2))] → wX3_beginTick_47 L2 v x1 v2 Z K → W p l e R s m args below meth c H locs 0 0 (zQv E K below args s) (F0 m 47 ls []) := by
      intro x1 v2 Z H locs ls hv2 hG hl hw
      unfold wX3_beginTick_47 at hw
      refine lv_aload_n hx hb dX3_beginTick_47 rfl (lv_at hl 2 rfl) ?_
      refine z_get hF hG v2 (zc_sv hv2) (z_sv hv2) rfl in5 7 (by decide) (List.mem_of_getElem? (i := 3) rfl) rfl rfl dX3_beginTick_48 ?_
      refine lv_iconst (v := 3) hx hb dX3_beginTick_51 (by decide) ?_
      refine lv_icmp_ne (tgt := 71) hx hb dX3_beginTick_52 (by decide) (fun c10 => ?_) (fun c10 => ?_)
      · replace hw := hw.1 c10
        exact J71 x1 Z _ _ _ hG (lv_sub hl [0, 1] rfl) hw
      replace hw := hw.2 (fun h => h c10)
      refine lv_aload_n hx hb dX3_beginTick_55 rfl (lv_at hl 2 rfl) ?_
      refine lv_aload_n hx hb dX3_beginTick_56 rfl (lv_at hl 0 rfl) ?_
      refine z_get hF hG (54 + v) (zc_pl hv) (z_pl hv) rfl in3 2 (by decide) (List.mem_of_getElem? (i := 5) rfl) rfl rfl dX3_beginTick_57 ?_
      refine z_ci (va_runV (rest := []) hF.1 (kX5_hasEarned l E Z v2 ((Z (54 + v) 2)) hv2 hw _) (cwV 1 hts gX3_beginTick_X5_hasEarned rfl rfl rfl ⟨rfl, hS_yX5_hasEarned⟩ ⟨Nat.le_trans (Nat.le_of_ble_eq_true rfl) hfr, Nat.le_trans (Nat.le_of_ble_eq_true rfl) hlo⟩) (z_preV hF hG v2 (zc_sv hv2) (z_sv hv2) rfl) rfl rfl hl.1 rfl (lv_room (Nat.le_of_ble_eq_true rfl)) dX3_beginTick_60 ⟨Nat.zero_le _, Nat.zero_le _⟩) hG (fun r12 Z11 H locs hw hG => ?_)
      refine lv_if_eq (tgt := 71) hx hb dX3_beginTick_63 (by decide) (fun c13 => ?_) (fun c13 => ?_)
      · replace hw := hw.1 c13
        exact J71 x1 Z11 _ _ _ hG (lv_sub hl [0, 1] rfl) hw
      replace hw := hw.2 c13
      refine lv_aload_n hx hb dX3_beginTick_66 rfl (lv_at hl 2 rfl) ?_
      refine lv_iconst (v := 0) hx hb dX3_beginTick_67 (by decide) ?_
      refine z_put hF hG v2 (zc_sv hv2) (z_sv hv2) rfl in5 tyX5_ok nmX5 7 (by decide) (List.mem_of_getElem? (i := 3) rfl) rfl rfl (tyX5_ok 7 (by decide)) rfl rfl (Nat.le_of_ble_eq_true rfl) 0 (z_sv hv2) dX3_beginTick_68 (fun Z14 H locs eZ14 hG => ?_)
      replace hw := hw Z14 eZ14
      exact J71 x1 Z14 _ _ _ hG (lv_sub hl [0, 1] rfl) hw
    intro x1 Z H locs ls hG hl hw
    unfold wX3_beginTick_2b at hw
    refine lv_iload_n hx hb dX3_beginTick_2 rfl (lv_at hl 1 rfl) ?_
    refine lv_aload_n hx hb dX3_beginTick_3 rfl (lv_at hl 0 rfl) ?_
    refine z_get hF hG (54 + v) (zc_pl hv) (z_pl hv) rfl in3 1 (by decide) (List.mem_of_getElem? (i := 1) rfl) rfl rfl dX3_beginTick_4 ?_
    refine lv_icmp_ge (tgt := 77) hx hb dX3_beginTick_7 (by decide) (fun c2 => ?_) (fun c2 => ?_)
    · replace hw := hw.1 c2
      exact z_vret hF hG hr hlk hw dX3_beginTick_77
    replace hw := hw.2 c2
    refine lv_aload_n hx hb dX3_beginTick_10 rfl (lv_at hl 0 rfl) ?_
    refine z_get hF hG (54 + v) (zc_pl hv) (z_pl hv) rfl in3 0 (by decide) (List.mem_of_getElem? (i := 2) rfl) rfl rfl dX3_beginTick_11 ?_
    refine lv_iload_n hx hb dX3_beginTick_14 rfl (lv_at hl 1 rfl) ?_
    obtain ⟨q3, hw⟩ := hw
    refine z_aald hF hG (57 + v) 1 (zc_pr hv) (z_pr hv) rfl q3 rfl dX3_beginTick_15 ?_
    refine z_topr (fun vv4 evv4 => ?_)
    replace hw := hw vv4 evv4
    have hvv4 : vv4 < 18 := by rw [evv4]; exact (z_vb hv q3)
    refine lv_astore_n (lv' := [(2, .ref (E.2.1 vv4)), (0, .ref (E.2.1 (54 + v))), (1, .int x1)]) hx hb dX3_beginTick_16 rfl hl (by decide) rfl (fun ls hl => ?_)
    refine lv_aload_n hx hb dX3_beginTick_17 rfl (lv_at hl 0 rfl) ?_
    refine z_get hF hG vv4 (zc_sv hvv4) (z_sv hvv4) rfl in5 7 (by decide) (List.mem_of_getElem? (i := 3) rfl) rfl rfl dX3_beginTick_18 ?_
    refine lv_iconst (v := 2) hx hb dX3_beginTick_21 (by decide) ?_
    refine lv_icmp_ne (tgt := 47) hx hb dX3_beginTick_22 (by decide) (fun c5 => ?_) (fun c5 => ?_)
    · replace hw := hw.1 c5
      exact J47 x1 vv4 Z _ _ _ hvv4 hG (lv_sub hl [1, 2, 0] rfl) hw
    replace hw := hw.2 (fun h => h c5)
    refine lv_aload_n hx hb dX3_beginTick_25 rfl (lv_at hl 0 rfl) ?_
    refine z_get hF hG vv4 (zc_sv hvv4) (z_sv hvv4) rfl in5 6 (by decide) (List.mem_of_getElem? (i := 4) rfl) rfl rfl dX3_beginTick_26 ?_
    refine lv_aload_n hx hb dX3_beginTick_29 rfl (lv_at hl 1 rfl) ?_
    refine z_get hF hG (54 + v) (zc_pl hv) (z_pl hv) rfl in3 2 (by decide) (List.mem_of_getElem? (i := 5) rfl) rfl rfl dX3_beginTick_30 ?_
    refine lv_icmp_gt (tgt := 47) hx hb dX3_beginTick_33 (by decide) (fun c6 => ?_) (fun c6 => ?_)
    · replace hw := hw.1 c6
      exact J47 x1 vv4 Z _ _ _ hvv4 hG (lv_sub hl [1, 2, 0] rfl) hw
    replace hw := hw.2 c6
    refine lv_aload_n hx hb dX3_beginTick_36 rfl (lv_at hl 0 rfl) ?_
    refine z_get (v := .ref (E.2.1 (84 + ((Z vv4 0) : Int32).toNatClampNeg))) hF hG vv4 (zc_sv hvv4) (z_sv hvv4) rfl in5 0 (by decide) (List.mem_of_getElem? (i := 6) rfl) rfl rfl dX3_beginTick_37 ?_
    refine lv_aload_n hx hb dX3_beginTick_40 rfl (lv_at hl 0 rfl) ?_
    obtain ⟨K1, hK1, hw⟩ : ∃ K1, _ = K1 ∧ d_wake ((Z vv4 0)) vv4 Z K1 := ⟨_, rfl, hw⟩
    have hrun : va_Run p l e R s m args below meth c H locs 0 0 0 0 (F0 m 41 ls [.ref (E.2.1 vv4), .ref (E.2.1 (84 + ((Z vv4 0) : Int32).toNatClampNeg))]) [] (va_Qv K1 (zB E) (zA E H.size) ([.ref (E.2.1 (84 + ((Z vv4 0) : Int32).toNatClampNeg)), .ref (E.2.1 vv4)] : List Value).toArray) (zA E H.size) := by
      rcases hw.1 with h | h | h | h | h | h
      · exact va_runV hF.1 (kX1_wake l E Z ((Z vv4 0)) vv4 hvv4 (hw.2.1 h) _) (cwV 1 hts gX3_beginTick_X1_wake rfl rfl rfl ⟨rfl, hS_yX1_wake⟩ ⟨Nat.le_trans (Nat.le_of_ble_eq_true rfl) hfr, Nat.le_trans (Nat.le_of_ble_eq_true rfl) hlo⟩) (z_preV hF hG (84 + ((Z vv4 0) : Int32).toNatClampNeg) (zKi.lt hw.1) (z_k0 h) rfl) rfl rfl hl.1 rfl (lv_room (Nat.le_of_ble_eq_true rfl)) dX3_beginTick_41 ⟨Nat.zero_le _, Nat.zero_le _⟩
      · exact va_runU hF.1 (kX1_wake l E Z ((Z vv4 0)) vv4 hvv4 (hw.2.2.1 h) _) (va_cwU 1 hts gX3_beginTick_X1_wake_u81X0 rfl rfl rfl rfl hS_yX1_wake ⟨Nat.le_trans (Nat.le_of_ble_eq_true rfl) hfr, Nat.le_trans (Nat.le_of_ble_eq_true rfl) hlo⟩) (z_preV hF hG (84 + ((Z vv4 0) : Int32).toNatClampNeg) (zKi.lt hw.1) (z_k1 h) rfl) rfl rfl hl.1 rfl (lv_room (Nat.le_of_ble_eq_true rfl)) dX3_beginTick_41 ⟨Nat.zero_le _, Nat.zero_le _⟩
      · exact va_runU hF.1 (kX1_wake l E Z ((Z vv4 0)) vv4 hvv4 (hw.2.2.2.1 h) _) (va_cwU 1 hts gX3_beginTick_X1_wake_u81X4 rfl rfl rfl rfl hS_yX1_wake ⟨Nat.le_trans (Nat.le_of_ble_eq_true rfl) hfr, Nat.le_trans (Nat.le_of_ble_eq_true rfl) hlo⟩) (z_preV hF hG (84 + ((Z vv4 0) : Int32).toNatClampNeg) (zKi.lt hw.1) (z_k2 h) rfl) rfl rfl hl.1 rfl (lv_room (Nat.le_of_ble_eq_true rfl)) dX3_beginTick_41 ⟨Nat.zero_le _, Nat.zero_le _⟩
      · exact va_runU hF.1 (kX1_wake l E Z ((Z vv4 0)) vv4 hvv4 (hw.2.2.2.2.1 h) _) (va_cwU 1 hts gX3_beginTick_X1_wake_u81X7 rfl rfl rfl rfl hS_yX1_wake ⟨Nat.le_trans (Nat.le_of_ble_eq_true rfl) hfr, Nat.le_trans (Nat.le_of_ble_eq_true rfl) hlo⟩) (z_preV hF hG (84 + ((Z vv4 0) : Int32).toNatClampNeg) (zKi.lt hw.1) (z_k3 h) rfl) rfl rfl hl.1 rfl (lv_room (Nat.le_of_ble_eq_true rfl)) dX3_beginTick_41 ⟨Nat.zero_le _, Nat.zero_le _⟩
      · exact va_runU hF.1 (kX1_wake l E Z ((Z vv4 0)) vv4 hvv4 (hw.2.2.2.2.2.1 h) _) (va_cwU 1 hts gX3_beginTick_X1_wake_u81X2 rfl rfl rfl rfl hS_yX1_wake ⟨Nat.le_trans (Nat.le_of_ble_eq_true rfl) hfr, Nat.le_trans (Nat.le_of_ble_eq_true rfl) hlo⟩) (z_preV hF hG (84 + ((Z vv4 0) : Int32).toNatClampNeg) (zKi.lt hw.1) (z_k4 h) rfl) rfl rfl hl.1 rfl (lv_room (Nat.le_of_ble_eq_true rfl)) dX3_beginTick_41 ⟨Nat.zero_le _, Nat.zero_le _⟩
      · exact va_runU hF.1 (kX9_wake l E Z ((Z vv4 0)) vv4 hvv4 (hw.2.2.2.2.2.2 h) _) (va_cwO 1 hts gX3_beginTick_X9_wake_u81X9 rfl rfl rfl (b0 := cX1_wake) (m0 := 2) (r0 := none) (List.mem_of_getElem? (i := 12) rfl) hS_yX1_wake ⟨Nat.le_trans (Nat.le_of_ble_eq_true rfl) hfr, Nat.le_trans (Nat.le_of_ble_eq_true rfl) hlo⟩) (z_preV hF hG (84 + ((Z vv4 0) : Int32).toNatClampNeg) (zKi.lt hw.1) (z_k5 h) rfl) rfl rfl hl.1 rfl (lv_room (Nat.le_of_ble_eq_true rfl)) dX3_beginTick_41 ⟨Nat.zero_le _, Nat.zero_le _⟩
    subst hK1
    refine z_cv hrun hG (fun Z7 H locs hw hG => ?_)
    refine lv_goto (tgt := 71) hx hb dX3_beginTick_44 (by decide) ?_
    exact J71 x1 Z7 _ _ _ hG (lv_sub hl [1, 2] rfl) hw
  have J2 : ∀ n : Nat, ∀ (x1 : Int32) (Z : zS) (H : Heap) (locs : List Loc) (ls : Array Slot), zG E Z s H locs → lv_has ls 3 [(0, .ref (E.2.1 (54 + v))), (1, .int x1)] → wX3_beginTick_2 v K n x1 Z → W p l e R s m args below meth c H locs 0 0 (zQv E K below args s) (F0 m 2 ls []) := by
    intro n
    induction n with
    | zero => intro x1 Z H locs ls hG hl hw; exact hw.elim
    | succ n ih => intro x1 Z H locs ls hG hl hw; exact S2 _ ih x1 Z H locs ls hG hl hw
  unfold wX3_beginTick at hw
  refine lv_iconst (v := 0) hx hb dX3_beginTick_0 (by decide) ?_
  refine lv_topi (fun y1 ey1 => ?_)
  replace hw := hw y1 ey1
  refine lv_istore_n (lv' := [(1, .int y1), (0, .ref (E.2.1 (54 + v)))]) hx hb dX3_beginTick_1 rfl hl (by decide) rfl (fun ls hl => ?_)
  obtain ⟨n2, hw⟩ := hw
  exact J2 n2 y1 Z _ _ _ hG (lv_sub hl [1, 0] rfl) hw
set_option maxHeartbeats 4000000 in
set_option maxRecDepth 100000 in
theorem kX3_earliest (l : Launch) (E : zE) (Z : zS) (v : Nat) (hv : v < 3) {K : Int32 → zS → Prop} (hw : wX3_earliest v Z K) : zCi l yX3_earliest wsX3_earliest ({ frames := 0, cells := 0, slots := 0, locals := 0 } : Room) E Z [.ref (E.2.1 (54 + v))] K := by
  refine z_bodyi (cc := cX3_earliest) (nL := 3) (ret := .int) (by decide) rfl (Nat.le_of_ble_eq_true rfl) ?_
  intro p e R s m args below meth c ls hfr hlo hF hr hlk hG hl
  have hx := hF.1.1
  have hb := hF.1.2.1
  have hown := hF.1.2.2.2.1
  have hts := hF.1.2.2.2.2
  have in3 : ∀ w ∈ u_ws RX3 TX3 5, w ∈ wsX3_earliest := fun _ h => List.mem_cons_of_mem _ (List.mem_append_left _ (List.mem_append_right _ h))
  have in5 : ∀ w ∈ u_ws RX5 TX5 15, w ∈ wsX3_earliest := fun _ h => List.mem_cons_of_mem _ (List.mem_append_right _ h)
  have hl : lv_has ls 3 [(0, .ref (E.2.1 (54 + v)))] := hl
  have S5 : ∀ (L5 : Int32 → Int32 → zS → Prop), (∀ (x1 : Int32) (x2 : Int32) (Z : zS) (H : Heap) (locs : List Loc) (ls : Array Slot), zG E Z s H locs → lv_has ls 3 [(0, .ref (E.2.1 (54 + v))), (1, .int x1), (2, .int x2)] → L5 x1 x2 Z → W p l e R s m args below meth c H locs 0 0 (zQi E K below args s) (F0 m 5 ls [])) → ∀ (x1 : Int32) (x2 : Int32) (Z : zS) (H : Heap) (locs : List Loc) (ls : Array Slot), zG E Z s H locs → lv_has ls 3 [(0, .ref (E.2.1 (54 + v))), (1, .int x1), (2, .int x2)] → wX3_earliest_5b L5 v x1 x2 Z K → W p l e R s m args below meth c H locs 0 0 (zQi E K below args s) (F0 m 5 ls []) := by
    intro L5 ih5
    have J55 : ∀ (x1 : Int32) (x2 : Int32) (Z : zS) (H : Heap) (locs : List Loc) (ls : Array Slot), zG E Z s H locs → lv_has ls 3 [(0, .ref (E.2.1 (54 + v))), (1, .int x1), (2, .int x2)] → wX3_earliest_55 L5 v x1 x2 Z K → W p l e R s m args below meth c H locs 0 0 (zQi E K below args s) (F0 m 55 ls []) := by
      intro x1 x2 Z H locs ls hG hl hw
      unfold wX3_earliest_55 at hw
      obtain ⟨y10, ey10⟩ : ∃ y : Int32, y = x2 + 1 := ⟨_, rfl⟩
      replace hw := hw y10 ey10
      refine lv_iinc (v := y10) (lv' := [(2, .int y10), (0, .ref (E.2.1 (54 + v))), (1, .int x1)]) hx hb dX3_earliest_55 hl (k := 2) rfl (by rw [ey10]; rfl) (by decide) rfl (fun ls hl => ?_)
      refine lv_goto (tgt := 5) hx hb dX3_earliest_58 (by decide) ?_
      exact ih5 x1 y10 Z _ _ _ hG (lv_sub hl [1, 2, 0] rfl) hw
    have J53 : ∀ (x2 : Int32) (Z : zS) (H : Heap) (locs : List Loc) (ls : Array Slot), zG E Z s H locs → lv_has ls 3 [(0, .ref (E.2.1 (54 + v))), (2, .int x2)] → wX3_earliest_53 L5 v x2 Z K → W p l e R s m args below meth c H locs 0 0 (zQi E K below args s) (F0 m 53 ls []) := by
      intro x2 Z H locs ls hG hl hw
      unfold wX3_earliest_53 at hw
      refine lv_iload_n hx hb dX3_earliest_53 rfl (lv_at hl 1 rfl) ?_
      refine lv_istore_n (lv' := [(1, .int x2), (0, .ref (E.2.1 (54 + v))), (2, .int x2)]) hx hb dX3_earliest_54 rfl hl (by decide) rfl (fun ls hl => ?_)
      exact J55 x2 x2 Z _ _ _ hG (lv_sub hl [1, 0, 2] rfl) hw
    intro x1 x2 Z H locs ls hG hl hw
    unfold wX3_earliest_5b at hw
    refine lv_iload_n hx hb dX3_earliest_5 rfl (lv_at hl 2 rfl) ?_
    refine lv_aload_n hx hb dX3_earliest_6 rfl (lv_at hl 0 rfl) ?_
    refine z_get hF hG (54 + v) (zc_pl hv) (z_pl hv) rfl in3 1 (by decide) (List.mem_of_getElem? (i := 1) rfl) rfl rfl dX3_earliest_7 ?_
    refine lv_icmp_ge (tgt := 61) hx hb dX3_earliest_10 (by decide) (fun c3 => ?_) (fun c3 => ?_)
    · replace hw := hw.1 c3
      refine lv_iload_n hx hb dX3_earliest_61 rfl (lv_at hl 1 rfl) ?_
      exact z_iret hF hG hr hlk hw dX3_earliest_62
    replace hw := hw.2 c3
    refine lv_aload_n hx hb dX3_earliest_13 rfl (lv_at hl 0 rfl) ?_
    refine z_get hF hG (54 + v) (zc_pl hv) (z_pl hv) rfl in3 0 (by decide) (List.mem_of_getElem? (i := 2) rfl) rfl rfl dX3_earliest_14 ?_
    refine lv_iload_n hx hb dX3_earliest_17 rfl (lv_at hl 2 rfl) ?_
    obtain ⟨q4, hw⟩ := hw
    refine z_aald hF hG (57 + v) 1 (zc_pr hv) (z_pr hv) rfl q4 rfl dX3_earliest_18 ?_
    refine z_get hF hG (6 * v + (x2 : Int32).toNatClampNeg) (zc_sv (z_vb hv q4)) (z_sv (z_vb hv q4)) rfl in5 7 (by decide) (List.mem_of_getElem? (i := 3) rfl) rfl rfl dX3_earliest_19 ?_
    refine lv_iconst (v := 1) hx hb dX3_earliest_22 (by decide) ?_
    refine lv_icmp_ne (tgt := 55) hx hb dX3_earliest_23 (by decide) (fun c5 => ?_) (fun c5 => ?_)
    · replace hw := hw.1 c5
      exact J55 x1 x2 Z _ _ _ hG (lv_sub hl [0, 1, 2] rfl) hw
    replace hw := hw.2 (fun h => h c5)
    refine lv_iload_n hx hb dX3_earliest_26 rfl (lv_at hl 1 rfl) ?_
    refine lv_bipush (v := (-4)) hx hb dX3_earliest_27 (by decide) ?_
    refine lv_icmp_eq (tgt := 53) hx hb dX3_earliest_29 (by decide) (fun c6 => ?_) (fun c6 => ?_)
    · replace hw := hw.1 c6
      exact J53 x2 Z _ _ _ hG (lv_sub hl [0, 2] rfl) hw
    replace hw := hw.2 c6
    refine lv_aload_n hx hb dX3_earliest_32 rfl (lv_at hl 0 rfl) ?_
    refine z_get hF hG (54 + v) (zc_pl hv) (z_pl hv) rfl in3 0 (by decide) (List.mem_of_getElem? (i := 2) rfl) rfl rfl dX3_earliest_33 ?_
    refine lv_iload_n hx hb dX3_earliest_36 rfl (lv_at hl 2 rfl) ?_
    obtain ⟨q7, hw⟩ := hw
    refine z_aald hF hG (57 + v) 1 (zc_pr hv) (z_pr hv) rfl q7 rfl dX3_earliest_37 ?_
    refine z_get hF hG (6 * v + (x2 : Int32).toNatClampNeg) (zc_sv (z_vb hv q7)) (z_sv (z_vb hv q7)) rfl in5 6 (by decide) (List.mem_of_getElem? (i := 4) rfl) rfl rfl dX3_earliest_38 ?_
    refine lv_aload_n hx hb dX3_earliest_41 rfl (lv_at hl 0 rfl) ?_
    refine z_get hF hG (54 + v) (zc_pl hv) (z_pl hv) rfl in3 0 (by decide) (List.mem_of_getElem? (i := 2) rfl) rfl rfl dX3_earliest_42 ?_
    refine lv_iload_n hx hb dX3_earliest_45 rfl (lv_at hl 1 rfl) ?_
    obtain ⟨q8, hw⟩ := hw
    refine z_aald hF hG (57 + v) 1 (zc_pr hv) (z_pr hv) rfl q8 rfl dX3_earliest_46 ?_
    refine z_get hF hG (6 * v + (x1 : Int32).toNatClampNeg) (zc_sv (z_vb hv q8)) (z_sv (z_vb hv q8)) rfl in5 6 (by decide) (List.mem_of_getElem? (i := 4) rfl) rfl rfl dX3_earliest_47 ?_
    refine lv_icmp_ge (tgt := 55) hx hb dX3_earliest_50 (by decide) (fun c9 => ?_) (fun c9 => ?_)
    · replace hw := hw.1 c9
      exact J55 x1 x2 Z _ _ _ hG (lv_sub hl [0, 1, 2] rfl) hw
    replace hw := hw.2 c9
    exact J53 x2 Z _ _ _ hG (lv_sub hl [0, 2] rfl) hw
  have J5 : ∀ n : Nat, ∀ (x1 : Int32) (x2 : Int32) (Z : zS) (H : Heap) (locs : List Loc) (ls : Array Slot), zG E Z s H locs → lv_has ls 3 [(0, .ref (E.2.1 (54 + v))), (1, .int x1), (2, .int x2)] → wX3_earliest_5 v K n x1 x2 Z → W p l e R s m args below meth c H locs 0 0 (zQi E K below args s) (F0 m 5 ls []) := by
    intro n
    induction n with
    | zero => intro x1 x2 Z H locs ls hG hl hw; exact hw.elim
    | succ n ih => intro x1 x2 Z H locs ls hG hl hw; exact S5 _ ih x1 x2 Z H locs ls hG hl hw
  unfold wX3_earliest at hw
  refine lv_bipush (v := (-4)) hx hb dX3_earliest_0 (by decide) ?_
  refine lv_topi (fun y1 ey1 => ?_)
  replace hw := hw y1 ey1
  refine lv_istore_n (lv' := [(1, .int y1), (0, .ref (E.2.1 (54 + v)))]) hx hb dX3_earliest_2 rfl hl (by decide) rfl (fun ls hl => ?_)
  refine lv_iconst (v := 0) hx hb dX3_earliest_3 (by decide) ?_
  refine lv_topi (fun y2 ey2 => ?_)
  replace hw := hw y2 ey2
  refine lv_istore_n (lv' := [(2, .int y2), (1, .int y1), (0, .ref (E.2.1 (54 + v)))]) hx hb dX3_earliest_4 rfl hl (by decide) rfl (fun ls hl => ?_)
  obtain ⟨n5, hw⟩ := hw
  exact J5 n5 y1 y2 Z _ _ _ hG (lv_sub hl [2, 1, 0] rfl) hw
set_option maxHeartbeats 4000000 in
set_option maxRecDepth 100000 in
theorem kX5_holdsLock (l : Launch) (E : zE) (Z : zS) (v : Nat) (a1 : Int32) (hv : v < 18) {K : Int32 → zS → Prop} (hw : wX5_holdsLock v a1 Z K) : zCi l yX5_holdsLock wsX5_holdsLock ({ frames := 0, cells := 0, slots := 0, locals := 0 } : Room) E Z [.ref (E.2.1 v), .int a1] K := by
  refine z_bodyi (cc := cX5_holdsLock) (nL := 2) (ret := .boolean) (by decide) rfl (Nat.le_of_ble_eq_true rfl) ?_
  intro p e R s m args below meth c ls hfr hlo hF hr hlk hG hl
  have hx := hF.1.1
  have hb := hF.1.2.1
  have hown := hF.1.2.2.2.1
  have hts := hF.1.2.2.2.2
  have in5 : ∀ w ∈ u_ws RX5 TX5 15, w ∈ wsX5_holdsLock := fun _ h => List.mem_cons_of_mem _ (List.mem_append_right _ h)
  have hl : lv_has ls 2 [(0, .ref (E.2.1 v)), (1, .int a1)] := hl
  unfold wX5_holdsLock at hw
  refine lv_aload_n hx hb dX5_holdsLock_0 rfl (lv_at hl 0 rfl) ?_
  refine z_get hF hG v (zc_sv hv) (z_sv hv) rfl in5 10 (by decide) (List.mem_of_getElem? (i := 1) rfl) rfl rfl dX5_holdsLock_1 ?_
  refine lv_if_le (tgt := 28) hx hb dX5_holdsLock_4 (by decide) (fun c1 => ?_) (fun c1 => ?_)
  · replace hw := hw.1 c1
    refine lv_iconst (v := 0) hx hb dX5_holdsLock_28 (by decide) ?_
    exact z_zret hF hG hr hlk (by decide) hw dX5_holdsLock_29
  replace hw := hw.2 c1
  refine lv_aload_n hx hb dX5_holdsLock_7 rfl (lv_at hl 0 rfl) ?_
  refine z_get hF hG v (zc_sv hv) (z_sv hv) rfl in5 13 (by decide) (List.mem_of_getElem? (i := 2) rfl) rfl rfl dX5_holdsLock_8 ?_
  refine lv_if_eq (tgt := 28) hx hb dX5_holdsLock_11 (by decide) (fun c2 => ?_) (fun c2 => ?_)
  · replace hw := hw.1 c2
    refine lv_iconst (v := 0) hx hb dX5_holdsLock_28 (by decide) ?_
    exact z_zret hF hG hr hlk (by decide) hw dX5_holdsLock_29
  replace hw := hw.2 c2
  refine lv_aload_n hx hb dX5_holdsLock_14 rfl (lv_at hl 0 rfl) ?_
  refine z_get hF hG v (zc_sv hv) (z_sv hv) rfl in5 12 (by decide) (List.mem_of_getElem? (i := 3) rfl) rfl rfl dX5_holdsLock_15 ?_
  refine lv_iconst (v := 0) hx hb dX5_holdsLock_18 (by decide) ?_
  obtain ⟨q3, hw⟩ := hw
  refine z_iald hF hG (36 + v) (zc_lk hv) (z_lk hv) q3 dX5_holdsLock_19 ?_
  refine lv_iload_n hx hb dX5_holdsLock_20 rfl (lv_at hl 1 rfl) ?_
  refine lv_icmp_ne (tgt := 28) hx hb dX5_holdsLock_21 (by decide) (fun c4 => ?_) (fun c4 => ?_)
  · replace hw := hw.1 c4
    refine lv_iconst (v := 0) hx hb dX5_holdsLock_28 (by decide) ?_
    exact z_zret hF hG hr hlk (by decide) hw dX5_holdsLock_29
  replace hw := hw.2 (fun h => h c4)
  refine lv_iconst (v := 1) hx hb dX5_holdsLock_24 (by decide) ?_
  refine lv_goto (tgt := 29) hx hb dX5_holdsLock_25 (by decide) ?_
  exact z_zret hF hG hr hlk (by decide) hw dX5_holdsLock_29
theorem hS_yX5_holdsLock : yX5_holdsLock.cls ≠ "java/lang/invoke/MethodHandle" ∧ yX5_holdsLock.cls ≠ "java/lang/invoke/VarHandle" ∧ (parseMethodDescriptor yX5_holdsLock.desc).map (fun d => d.parameters.length) = some 1 := by decide +kernel
set_option maxHeartbeats 4000000 in
set_option maxRecDepth 100000 in
theorem kX3_holderOf (l : Launch) (E : zE) (Z : zS) (v : Nat) (a1 : Int32) (hv : v < 3) {K : Int32 → zS → Prop} (hw : wX3_holderOf v a1 Z K) : zCi l yX3_holderOf wsX3_holderOf ({ frames := 1, cells := 0, slots := 0, locals := 21 } : Room) E Z [.ref (E.2.1 (54 + v)), .int a1] K := by
  refine z_bodyi (cc := cX3_holderOf) (nL := 3) (ret := .int) (by decide) rfl (Nat.le_of_ble_eq_true rfl) ?_
  intro p e R s m args below meth c ls hfr hlo hF hr hlk hG hl
  have hx := hF.1.1
  have hb := hF.1.2.1
  have hown := hF.1.2.2.2.1
  have hts := hF.1.2.2.2.2
  have in3 : ∀ w ∈ u_ws RX3 TX3 5, w ∈ wsX3_holderOf := fun _ h => List.mem_cons_of_mem _ (List.mem_append_left _ (List.mem_append_right _ h))
  have hl : lv_has ls 3 [(0, .ref (E.2.1 (54 + v))), (1, .int a1)] := hl
  have S10 : ∀ (L10 : Int32 → zS → Prop), (∀ (x2 : Int32) (Z : zS) (H : Heap) (locs : List Loc) (ls : Array Slot), zG E Z s H locs → lv_has ls 3 [(0, .ref (E.2.1 (54 + v))), (1, .int a1), (2, .int x2)] → L10 x2 Z → W p l e R s m args below meth c H locs 0 0 (zQi E K below args s) (F0 m 10 ls [])) → ∀ (x2 : Int32) (Z : zS) (H : Heap) (locs : List Loc) (ls : Array Slot), zG E Z s H locs → lv_has ls 3 [(0, .ref (E.2.1 (54 + v))), (1, .int a1), (2, .int x2)] → wX3_holderOf_10b L10 v a1 x2 Z K → W p l e R s m args below meth c H locs 0 0 (zQi E K below args s) (F0 m 10 ls []) := by
    intro L10 ih10
    intro x2 Z H locs ls hG hl hw
    unfold wX3_holderOf_10b at hw
    refine lv_iload_n hx hb dX3_holderOf_10 rfl (lv_at hl 2 rfl) ?_
    refine lv_aload_n hx hb dX3_holderOf_11 rfl (lv_at hl 0 rfl) ?_
    refine z_get hF hG (54 + v) (zc_pl hv) (z_pl hv) rfl in3 1 (by decide) (List.mem_of_getElem? (i := 1) rfl) rfl rfl dX3_holderOf_12 ?_
    refine lv_icmp_ge (tgt := 39) hx hb dX3_holderOf_15 (by decide) (fun c3 => ?_) (fun c3 => ?_)
    · replace hw := hw.1 c3
      refine lv_bipush (v := (-4)) hx hb dX3_holderOf_39 (by decide) ?_
      exact z_iret hF hG hr hlk hw dX3_holderOf_41
    replace hw := hw.2 c3
    refine lv_aload_n hx hb dX3_holderOf_18 rfl (lv_at hl 0 rfl) ?_
    refine z_get hF hG (54 + v) (zc_pl hv) (z_pl hv) rfl in3 0 (by decide) (List.mem_of_getElem? (i := 2) rfl) rfl rfl dX3_holderOf_19 ?_
    refine lv_iload_n hx hb dX3_holderOf_22 rfl (lv_at hl 2 rfl) ?_
    obtain ⟨q4, hw⟩ := hw
    refine z_aald hF hG (57 + v) 1 (zc_pr hv) (z_pr hv) rfl q4 rfl dX3_holderOf_23 ?_
    refine lv_iload_n hx hb dX3_holderOf_24 rfl (lv_at hl 1 rfl) ?_
    refine z_ci (va_runV (rest := []) hF.1 (kX5_holdsLock l E Z ((6 * v + (x2 : Int32).toNatClampNeg)) a1 (z_vb hv q4) hw _) (cwV 1 hts gX3_holderOf_X5_holdsLock rfl rfl rfl ⟨rfl, hS_yX5_holdsLock⟩ ⟨Nat.le_trans (Nat.le_of_ble_eq_true rfl) hfr, Nat.le_trans (Nat.le_of_ble_eq_true rfl) hlo⟩) (z_preV hF hG (6 * v + (x2 : Int32).toNatClampNeg) (zc_sv (z_vb hv q4)) (z_sv (z_vb hv q4)) rfl) rfl rfl hl.1 rfl (lv_room (Nat.le_of_ble_eq_true rfl)) dX3_holderOf_25 ⟨Nat.zero_le _, Nat.zero_le _⟩) hG (fun r6 Z5 H locs hw hG => ?_)
    refine lv_if_eq (tgt := 33) hx hb dX3_holderOf_28 (by decide) (fun c7 => ?_) (fun c7 => ?_)
    · replace hw := hw.1 c7
      obtain ⟨y8, ey8⟩ : ∃ y : Int32, y = x2 + 1 := ⟨_, rfl⟩
      replace hw := hw y8 ey8
      refine lv_iinc (v := y8) (lv' := [(2, .int y8), (0, .ref (E.2.1 (54 + v))), (1, .int a1)]) hx hb dX3_holderOf_33 hl (k := 2) rfl (by rw [ey8]; rfl) (by decide) rfl (fun ls hl => ?_)
      refine lv_goto (tgt := 10) hx hb dX3_holderOf_36 (by decide) ?_
      exact ih10 y8 Z5 _ _ _ hG (lv_sub hl [1, 2, 0] rfl) hw
    replace hw := hw.2 c7
    refine lv_iload_n hx hb dX3_holderOf_31 rfl (lv_at hl 2 rfl) ?_
    exact z_iret hF hG hr hlk hw dX3_holderOf_32
  have J10 : ∀ n : Nat, ∀ (x2 : Int32) (Z : zS) (H : Heap) (locs : List Loc) (ls : Array Slot), zG E Z s H locs → lv_has ls 3 [(0, .ref (E.2.1 (54 + v))), (1, .int a1), (2, .int x2)] → wX3_holderOf_10 v a1 K n x2 Z → W p l e R s m args below meth c H locs 0 0 (zQi E K below args s) (F0 m 10 ls []) := by
    intro n
    induction n with
    | zero => intro x2 Z H locs ls hG hl hw; exact hw.elim
    | succ n ih => intro x2 Z H locs ls hG hl hw; exact S10 _ ih x2 Z H locs ls hG hl hw
  unfold wX3_holderOf at hw
  refine lv_iload_n hx hb dX3_holderOf_0 rfl (lv_at hl 1 rfl) ?_
  refine lv_iconst (v := 3) hx hb dX3_holderOf_1 (by decide) ?_
  refine lv_icmp_ne (tgt := 8) hx hb dX3_holderOf_2 (by decide) (fun c1 => ?_) (fun c1 => ?_)
  · replace hw := hw.1 c1
    refine lv_iconst (v := 0) hx hb dX3_holderOf_8 (by decide) ?_
    refine lv_topi (fun y2 ey2 => ?_)
    replace hw := hw y2 ey2
    refine lv_istore_n (lv' := [(2, .int y2), (0, .ref (E.2.1 (54 + v))), (1, .int a1)]) hx hb dX3_holderOf_9 rfl hl (by decide) rfl (fun ls hl => ?_)
    obtain ⟨n10, hw⟩ := hw
    exact J10 n10 y2 Z _ _ _ hG (lv_sub hl [1, 2, 0] rfl) hw
  replace hw := hw.2 (fun h => h c1)
  refine lv_bipush (v := (-4)) hx hb dX3_holderOf_5 (by decide) ?_
  exact z_iret hF hG hr hlk hw dX3_holderOf_7
set_option maxHeartbeats 4000000 in
set_option maxRecDepth 100000 in
theorem kX3_loadOfAll (l : Launch) (E : zE) (Z : zS) (v : Nat) (hv : v < 3) {K : Int32 → zS → Prop} (hw : wX3_loadOfAll v Z K) : zCi l yX3_loadOfAll wsX3_loadOfAll ({ frames := 0, cells := 0, slots := 0, locals := 0 } : Room) E Z [.ref (E.2.1 (54 + v))] K := by
  refine z_bodyi (cc := cX3_loadOfAll) (nL := 3) (ret := .int) (by decide) rfl (Nat.le_of_ble_eq_true rfl) ?_
  intro p e R s m args below meth c ls hfr hlo hF hr hlk hG hl
  have hx := hF.1.1
  have hb := hF.1.2.1
  have hown := hF.1.2.2.2.1
  have hts := hF.1.2.2.2.2
  have in3 : ∀ w ∈ u_ws RX3 TX3 5, w ∈ wsX3_loadOfAll := fun _ h => List.mem_cons_of_mem _ (List.mem_append_left _ (List.mem_append_right _ h))
  have in5 : ∀ w ∈ u_ws RX5 TX5 15, w ∈ wsX3_loadOfAll := fun _ h => List.mem_cons_of_mem _ (List.mem_append_right _ h)
  have hl : lv_has ls 3 [(0, .ref (E.2.1 (54 + v)))] := hl
  have S4 : ∀ (L4 : Int32 → Int32 → zS → Prop), (∀ (x1 : Int32) (x2 : Int32) (Z : zS) (H : Heap) (locs : List Loc) (ls : Array Slot), zG E Z s H locs → lv_has ls 3 [(0, .ref (E.2.1 (54 + v))), (1, .int x1), (2, .int x2)] → L4 x1 x2 Z → W p l e R s m args below meth c H locs 0 0 (zQi E K below args s) (F0 m 4 ls [])) → ∀ (x1 : Int32) (x2 : Int32) (Z : zS) (H : Heap) (locs : List Loc) (ls : Array Slot), zG E Z s H locs → lv_has ls 3 [(0, .ref (E.2.1 (54 + v))), (1, .int x1), (2, .int x2)] → wX3_loadOfAll_4b L4 v x1 x2 Z K → W p l e R s m args below meth c H locs 0 0 (zQi E K below args s) (F0 m 4 ls []) := by
    intro L4 ih4
    have J36 : ∀ (x1 : Int32) (x2 : Int32) (Z : zS) (H : Heap) (locs : List Loc) (ls : Array Slot), zG E Z s H locs → lv_has ls 3 [(0, .ref (E.2.1 (54 + v))), (1, .int x1), (2, .int x2)] → wX3_loadOfAll_36 L4 v x1 x2 Z K → W p l e R s m args below meth c H locs 0 0 (zQi E K below args s) (F0 m 36 ls []) := by
      intro x1 x2 Z H locs ls hG hl hw
      unfold wX3_loadOfAll_36 at hw
      obtain ⟨y8, ey8⟩ : ∃ y : Int32, y = x2 + 1 := ⟨_, rfl⟩
      replace hw := hw y8 ey8
      refine lv_iinc (v := y8) (lv' := [(2, .int y8), (0, .ref (E.2.1 (54 + v))), (1, .int x1)]) hx hb dX3_loadOfAll_36 hl (k := 2) rfl (by rw [ey8]; rfl) (by decide) rfl (fun ls hl => ?_)
      refine lv_goto (tgt := 4) hx hb dX3_loadOfAll_39 (by decide) ?_
      exact ih4 x1 y8 Z _ _ _ hG (lv_sub hl [1, 2, 0] rfl) hw
    intro x1 x2 Z H locs ls hG hl hw
    unfold wX3_loadOfAll_4b at hw
    refine lv_iload_n hx hb dX3_loadOfAll_4 rfl (lv_at hl 2 rfl) ?_
    refine lv_aload_n hx hb dX3_loadOfAll_5 rfl (lv_at hl 0 rfl) ?_
    refine z_get hF hG (54 + v) (zc_pl hv) (z_pl hv) rfl in3 1 (by decide) (List.mem_of_getElem? (i := 1) rfl) rfl rfl dX3_loadOfAll_6 ?_
    refine lv_icmp_ge (tgt := 42) hx hb dX3_loadOfAll_9 (by decide) (fun c3 => ?_) (fun c3 => ?_)
    · replace hw := hw.1 c3
      refine lv_iload_n hx hb dX3_loadOfAll_42 rfl (lv_at hl 1 rfl) ?_
      exact z_iret hF hG hr hlk hw dX3_loadOfAll_43
    replace hw := hw.2 c3
    refine lv_aload_n hx hb dX3_loadOfAll_12 rfl (lv_at hl 0 rfl) ?_
    refine z_get hF hG (54 + v) (zc_pl hv) (z_pl hv) rfl in3 0 (by decide) (List.mem_of_getElem? (i := 2) rfl) rfl rfl dX3_loadOfAll_13 ?_
    refine lv_iload_n hx hb dX3_loadOfAll_16 rfl (lv_at hl 2 rfl) ?_
    obtain ⟨q4, hw⟩ := hw
    refine z_aald hF hG (57 + v) 1 (zc_pr hv) (z_pr hv) rfl q4 rfl dX3_loadOfAll_17 ?_
    refine z_get hF hG (6 * v + (x2 : Int32).toNatClampNeg) (zc_sv (z_vb hv q4)) (z_sv (z_vb hv q4)) rfl in5 7 (by decide) (List.mem_of_getElem? (i := 3) rfl) rfl rfl dX3_loadOfAll_18 ?_
    refine lv_if_eq (tgt := 36) hx hb dX3_loadOfAll_21 (by decide) (fun c5 => ?_) (fun c5 => ?_)
    · replace hw := hw.1 c5
      exact J36 x1 x2 Z _ _ _ hG (lv_sub hl [0, 1, 2] rfl) hw
    replace hw := hw.2 c5
    refine lv_iload_n hx hb dX3_loadOfAll_24 rfl (lv_at hl 1 rfl) ?_
    refine lv_aload_n hx hb dX3_loadOfAll_25 rfl (lv_at hl 0 rfl) ?_
    refine z_get hF hG (54 + v) (zc_pl hv) (z_pl hv) rfl in3 0 (by decide) (List.mem_of_getElem? (i := 2) rfl) rfl rfl dX3_loadOfAll_26 ?_
    refine lv_iload_n hx hb dX3_loadOfAll_29 rfl (lv_at hl 2 rfl) ?_
    obtain ⟨q6, hw⟩ := hw
    refine z_aald hF hG (57 + v) 1 (zc_pr hv) (z_pr hv) rfl q6 rfl dX3_loadOfAll_30 ?_
    refine z_get hF hG (6 * v + (x2 : Int32).toNatClampNeg) (zc_sv (z_vb hv q6)) (z_sv (z_vb hv q6)) rfl in5 4 (by decide) (List.mem_of_getElem? (i := 4) rfl) rfl rfl dX3_loadOfAll_31 ?_
    refine lv_iadd hx hb dX3_loadOfAll_34 ?_
    refine lv_topi (fun y7 ey7 => ?_)
    replace hw := hw y7 ey7
    refine lv_istore_n (lv' := [(1, .int y7), (0, .ref (E.2.1 (54 + v))), (2, .int x2)]) hx hb dX3_loadOfAll_35 rfl hl (by decide) rfl (fun ls hl => ?_)
    exact J36 y7 x2 Z _ _ _ hG (lv_sub hl [1, 0, 2] rfl) hw
  have J4 : ∀ n : Nat, ∀ (x1 : Int32) (x2 : Int32) (Z : zS) (H : Heap) (locs : List Loc) (ls : Array Slot), zG E Z s H locs → lv_has ls 3 [(0, .ref (E.2.1 (54 + v))), (1, .int x1), (2, .int x2)] → wX3_loadOfAll_4 v K n x1 x2 Z → W p l e R s m args below meth c H locs 0 0 (zQi E K below args s) (F0 m 4 ls []) := by
    intro n
    induction n with
    | zero => intro x1 x2 Z H locs ls hG hl hw; exact hw.elim
    | succ n ih => intro x1 x2 Z H locs ls hG hl hw; exact S4 _ ih x1 x2 Z H locs ls hG hl hw
  unfold wX3_loadOfAll at hw
  refine lv_iconst (v := 0) hx hb dX3_loadOfAll_0 (by decide) ?_
  refine lv_topi (fun y1 ey1 => ?_)
  replace hw := hw y1 ey1
  refine lv_istore_n (lv' := [(1, .int y1), (0, .ref (E.2.1 (54 + v)))]) hx hb dX3_loadOfAll_1 rfl hl (by decide) rfl (fun ls hl => ?_)
  refine lv_iconst (v := 0) hx hb dX3_loadOfAll_2 (by decide) ?_
  refine lv_topi (fun y2 ey2 => ?_)
  replace hw := hw y2 ey2
  refine lv_istore_n (lv' := [(2, .int y2), (1, .int y1), (0, .ref (E.2.1 (54 + v)))]) hx hb dX3_loadOfAll_3 rfl hl (by decide) rfl (fun ls hl => ?_)
  obtain ⟨n4, hw⟩ := hw
  exact J4 n4 y1 y2 Z _ _ _ hG (lv_sub hl [2, 1, 0] rfl) hw
set_option maxHeartbeats 4000000 in
set_option maxRecDepth 100000 in
theorem kX4_refill (l : Launch) (E : zE) (Z : zS) (v : Int32) (u1 : Nat) (hu1 : u1 < 18) {K : zS → Prop} (hw : wX4_refill v u1 Z K) : zCv l yX4_refill wsX4_refill ({ frames := 0, cells := 0, slots := 0, locals := 0 } : Room) E Z [.ref (E.2.1 (84 + (v : Int32).toNatClampNeg)), .ref (E.2.1 u1)] K := by
  refine z_bodyv (cc := cX4_refill) (nL := 2) (by decide) rfl (Nat.le_of_ble_eq_true rfl) ?_
  intro p e R s m args below meth c ls hfr hlo hF hr hlk hG hl
  have hx := hF.1.1
  have hb := hF.1.2.1
  have hown := hF.1.2.2.2.1
  have hts := hF.1.2.2.2.2
  have in5 : ∀ w ∈ u_ws RX5 TX5 15, w ∈ wsX4_refill := fun _ h => List.mem_cons_of_mem _ (List.mem_append_right _ h)
  have hl : lv_has ls 2 [(0, .ref (E.2.1 (84 + (v : Int32).toNatClampNeg))), (1, .ref (E.2.1 u1))] := hl
  unfold wX4_refill at hw
  refine lv_aload_n hx hb dX4_refill_0 rfl (lv_at hl 1 rfl) ?_
  refine lv_iconst (v := 2) hx hb dX4_refill_1 (by decide) ?_
  refine z_put hF hG u1 (zc_sv hu1) (z_sv hu1) rfl in5 tyX5_ok nmX5 7 (by decide) (List.mem_of_getElem? (i := 1) rfl) rfl rfl (tyX5_ok 7 (by decide)) rfl rfl (Nat.le_of_ble_eq_true rfl) 2 (z_sv hu1) dX4_refill_2 (fun Z1 H locs eZ1 hG => ?_)
  replace hw := hw Z1 eZ1
  exact z_vret hF hG hr hlk hw dX4_refill_5
