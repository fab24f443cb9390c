def wX11_within (a1 : Int32) (a2 : Int32) (a3 : Int32) (Z : zS) (K : Int32 → zS → Prop) : Prop := ((a1 < a2 → K 0 Z) ∧ (¬ (a1 < a2) → ((a3 < a1 → K 0 Z) ∧ (¬ (a3 < a1) → K 1 Z))))
set_option maxHeartbeats 4000000 in
set_option maxRecDepth 100000 in
theorem kX11_within (l : Launch) (E : zE) (Z : zS) (a1 : Int32) (a2 : Int32) (a3 : Int32) {K : Int32 → zS → Prop} (hw : wX11_within a1 a2 a3 Z K) : zCi l yX11_within wsX11_within ({ frames := 0, cells := 0, slots := 0, locals := 0 } : Room) E Z [.int a1, .int a2, .int a3] K := by
  refine z_bodyi (cc := cX11_within) (nL := 3) (ret := .boolean) (by decide) rfl (Nat.le_of_ble_eq_true rfl) ?_
  intro p e R s m args below meth c ls hfr hlo hF hr hlk hG hl
  have hx := hF.1.1
  have hb := hF.1.2.1
  have hown := hF.1.2.2.2.1
  have hts := hF.1.2.2.2.2
  have hl : lv_has ls 3 [(0, .int a1), (1, .int a2), (2, .int a3)] := hl
  unfold wX11_within at hw
  refine lv_iload_n hx hb dX11_within_0 rfl (lv_at hl 0 rfl) ?_
  refine lv_iload_n hx hb dX11_within_1 rfl (lv_at hl 1 rfl) ?_
  refine lv_icmp_lt (tgt := 14) hx hb dX11_within_2 (by decide) (fun c1 => ?_) (fun c1 => ?_)
  · replace hw := hw.1 c1
    refine lv_iconst (v := 0) hx hb dX11_within_14 (by decide) ?_
    exact z_zret hF hG hr hlk (by decide) hw dX11_within_15
  replace hw := hw.2 c1
  refine lv_iload_n hx hb dX11_within_5 rfl (lv_at hl 0 rfl) ?_
  refine lv_iload_n hx hb dX11_within_6 rfl (lv_at hl 2 rfl) ?_
  refine lv_icmp_gt (tgt := 14) hx hb dX11_within_7 (by decide) (fun c2 => ?_) (fun c2 => ?_)
  · replace hw := hw.1 c2
    refine lv_iconst (v := 0) hx hb dX11_within_14 (by decide) ?_
    exact z_zret hF hG hr hlk (by decide) hw dX11_within_15
  replace hw := hw.2 c2
  refine lv_iconst (v := 1) hx hb dX11_within_10 (by decide) ?_
  refine lv_goto (tgt := 15) hx hb dX11_within_11 (by decide) ?_
  exact z_zret hF hG hr hlk (by decide) hw dX11_within_15
def wX3_has (v : Nat) (a1 : Int32) (Z : zS) (K : Int32 → zS → Prop) : Prop := wX11_within a1 0 (((Z (54 + v) 1) - 1)) Z (fun r2 Z1 => zBo r2 ∧ K r2 Z1)
set_option maxHeartbeats 4000000 in
set_option maxRecDepth 100000 in
theorem kX3_has (l : Launch) (E : zE) (Z : zS) (v : Nat) (a1 : Int32) (hv : v < 3) {K : Int32 → zS → Prop} (hw : wX3_has v a1 Z K) : zCi l yX3_has wsX3_has ({ frames := 1, cells := 0, slots := 0, locals := 22 } : Room) E Z [.ref (E.2.1 (54 + v)), .int a1] K := by
  refine z_bodyi (cc := cX3_has) (nL := 2) (ret := .boolean) (by decide) rfl (Nat.le_of_ble_eq_true rfl) ?_
  intro p e R s m args below meth c ls hfr hlo hF hr hlk hG hl
  have hx := hF.1.1
  have hb := hF.1.2.1
  have hown := hF.1.2.2.2.1
  have hts := hF.1.2.2.2.2
  have in3 : ∀ w ∈ u_ws RX3 TX3 5, w ∈ wsX3_has := by decide +kernel
  have hl : lv_has ls 2 [(0, .ref (E.2.1 (54 + v))), (1, .int a1)] := hl
  unfold wX3_has at hw
  refine lv_iload_n hx hb dX3_has_0 rfl (lv_at hl 1 rfl) ?_
  refine lv_iconst (v := 0) hx hb dX3_has_1 (by decide) ?_
  refine lv_aload_n hx hb dX3_has_2 rfl (lv_at hl 0 rfl) ?_
  refine z_get hF hG (54 + v) (zc_pl hv) (z_pl hv) rfl in3 1 (by decide) (by decide +kernel) rfl rfl dX3_has_3 ?_
  refine lv_iconst (v := 1) hx hb dX3_has_6 (by decide) ?_
  refine lv_isub hx hb dX3_has_7 ?_
  refine z_ci (va_runSN (rest := []) hF.1 (kX11_within l E Z a1 0 (((Z (54 + v) 1) - 1))  hw H.size) ⟨va_cnB 3 hts gX3_has_X11_within_n37 rfl rfl rfl hF.2.2.1.1 (hts (.initialized RX11) (by decide +kernel)) (by decide +kernel) ⟨Nat.le_trans (Nat.le_of_ble_eq_true rfl) hfr, Nat.le_trans (Nat.le_of_ble_eq_true rfl) hlo⟩, hts (.static yX11_within) (by decide +kernel), trivial⟩ (z_preS hF hG) rfl rfl hl.1 rfl (lv_room (Nat.le_of_ble_eq_true rfl)) dX3_has_8 ⟨Nat.zero_le _, Nat.zero_le _⟩) hG (fun r2 Z1 H locs hw hG => ?_)
  exact z_zret hF hG hr hlk (zBo.n hw.1) hw.2 dX3_has_11
def wX5_isFull (v : Nat) (Z : zS) (K : Int32 → zS → Prop) : Prop := (((Z v 10) < 4 → K 0 Z) ∧ (¬ ((Z v 10) < 4) → K 1 Z))
set_option maxHeartbeats 4000000 in
set_option maxRecDepth 100000 in
theorem kX5_isFull (l : Launch) (E : zE) (Z : zS) (v : Nat) (hv : v < 18) {K : Int32 → zS → Prop} (hw : wX5_isFull v Z K) : zCi l yX5_isFull wsX5_isFull ({ frames := 0, cells := 0, slots := 0, locals := 0 } : Room) E Z [.ref (E.2.1 v)] K := by
  refine z_bodyi (cc := cX5_isFull) (nL := 1) (ret := .boolean) (by decide) rfl (Nat.le_of_ble_eq_true rfl) ?_
  intro p e R s m args below meth c ls hfr hlo hF hr hlk hG hl
  have hx := hF.1.1
  have hb := hF.1.2.1
  have hown := hF.1.2.2.2.1
  have hts := hF.1.2.2.2.2
  have in5 : ∀ w ∈ u_ws RX5 TX5 15, w ∈ wsX5_isFull := by decide +kernel
  have hl : lv_has ls 1 [(0, .ref (E.2.1 v))] := hl
  unfold wX5_isFull at hw
  refine lv_aload_n hx hb dX5_isFull_0 rfl (lv_at hl 0 rfl) ?_
  refine z_get hF hG v (zc_sv hv) (z_sv hv) rfl in5 10 (by decide) (by decide +kernel) rfl rfl dX5_isFull_1 ?_
  refine lv_iconst (v := 4) hx hb dX5_isFull_4 (by decide) ?_
  refine lv_icmp_lt (tgt := 12) hx hb dX5_isFull_5 (by decide) (fun c1 => ?_) (fun c1 => ?_)
  · replace hw := hw.1 c1
    refine lv_iconst (v := 0) hx hb dX5_isFull_12 (by decide) ?_
    exact z_zret hF hG hr hlk (by decide) hw dX5_isFull_13
  replace hw := hw.2 c1
  refine lv_iconst (v := 1) hx hb dX5_isFull_8 (by decide) ?_
  refine lv_goto (tgt := 13) hx hb dX5_isFull_9 (by decide) ?_
  exact z_zret hF hG hr hlk (by decide) hw dX5_isFull_13
def wX5_hasEarned (v : Nat) (a1 : Int32) (Z : zS) (K : Int32 → zS → Prop) : Prop := ((((Z v 5) * (Z v 3)) < ((60 * (Z v 2)) * ((Z v 6) - a1)) → K 0 Z) ∧ (¬ (((Z v 5) * (Z v 3)) < ((60 * (Z v 2)) * ((Z v 6) - a1))) → K 1 Z))
set_option maxHeartbeats 4000000 in
set_option maxRecDepth 100000 in
theorem kX5_hasEarned (l : Launch) (E : zE) (Z : zS) (v : Nat) (a1 : Int32) (hv : v < 18) {K : Int32 → zS → Prop} (hw : wX5_hasEarned v a1 Z K) : zCi l yX5_hasEarned wsX5_hasEarned ({ frames := 0, cells := 0, slots := 0, locals := 0 } : Room) E Z [.ref (E.2.1 v), .int a1] K := by
  refine z_bodyi (cc := cX5_hasEarned) (nL := 2) (ret := .boolean) (by decide) rfl (Nat.le_of_ble_eq_true rfl) ?_
  intro p e R s m args below meth c ls hfr hlo hF hr hlk hG hl
  have hx := hF.1.1
  have hb := hF.1.2.1
  have hown := hF.1.2.2.2.1
  have hts := hF.1.2.2.2.2
  have in5 : ∀ w ∈ u_ws RX5 TX5 15, w ∈ wsX5_hasEarned := by decide +kernel
  have hl : lv_has ls 2 [(0, .ref (E.2.1 v)), (1, .int a1)] := hl
  unfold wX5_hasEarned at hw
  refine lv_aload_n hx hb dX5_hasEarned_0 rfl (lv_at hl 0 rfl) ?_
  refine z_get hF hG v (zc_sv hv) (z_sv hv) rfl in5 5 (by decide) (by decide +kernel) rfl rfl dX5_hasEarned_1 ?_
  refine lv_aload_n hx hb dX5_hasEarned_4 rfl (lv_at hl 0 rfl) ?_
  refine z_get hF hG v (zc_sv hv) (z_sv hv) rfl in5 3 (by decide) (by decide +kernel) rfl rfl dX5_hasEarned_5 ?_
  refine lv_imul hx hb dX5_hasEarned_8 ?_
  refine lv_bipush (v := 60) hx hb dX5_hasEarned_9 (by decide) ?_
  refine lv_aload_n hx hb dX5_hasEarned_11 rfl (lv_at hl 0 rfl) ?_
  refine z_get hF hG v (zc_sv hv) (z_sv hv) rfl in5 2 (by decide) (by decide +kernel) rfl rfl dX5_hasEarned_12 ?_
  refine lv_imul hx hb dX5_hasEarned_15 ?_
  refine lv_aload_n hx hb dX5_hasEarned_16 rfl (lv_at hl 0 rfl) ?_
  refine z_get hF hG v (zc_sv hv) (z_sv hv) rfl in5 6 (by decide) (by decide +kernel) rfl rfl dX5_hasEarned_17 ?_
  refine lv_iload_n hx hb dX5_hasEarned_20 rfl (lv_at hl 1 rfl) ?_
  refine lv_isub hx hb dX5_hasEarned_21 ?_
  refine lv_imul hx hb dX5_hasEarned_22 ?_
  refine lv_icmp_lt (tgt := 30) hx hb dX5_hasEarned_23 (by decide) (fun c1 => ?_) (fun c1 => ?_)
  · replace hw := hw.1 c1
    refine lv_iconst (v := 0) hx hb dX5_hasEarned_30 (by decide) ?_
    exact z_zret hF hG hr hlk (by decide) hw dX5_hasEarned_31
  replace hw := hw.2 c1
  refine lv_iconst (v := 1) hx hb dX5_hasEarned_26 (by decide) ?_
  refine lv_goto (tgt := 31) hx hb dX5_hasEarned_27 (by decide) ?_
  exact z_zret hF hG hr hlk (by decide) hw dX5_hasEarned_31
def wX5_takeJob_97 (v : Nat) (a1 : Int32) (a2 : Int32) (a3 : Int32) (Z : zS) (K : zS → Prop) : Prop := ∀ Z16 : zS, Z16 = zU Z v 7 1 → ∀ Z17 : zS, Z17 = zU Z16 v 14 ((Z16 v 6)) → K Z17
def wX5_takeJob_76 (v : Nat) (a1 : Int32) (a2 : Int32) (a3 : Int32) (Z : zS) (K : zS → Prop) : Prop := ∀ Z18 : zS, Z18 = zU Z v 5 ((60 * (Z v 2))) → ∀ Z19 : zS, Z19 = zU Z18 v 6 ((a3 + (Z18 v 3))) → wX5_takeJob_97 v a1 a2 a3 Z19 K
def wX5_takeJob_54 (v : Nat) (a1 : Int32) (a2 : Int32) (a3 : Int32) (Z : zS) (K : zS → Prop) : Prop := (((Z v 7) = 0 → wX5_takeJob_76 v a1 a2 a3 Z K) ∧ (¬ ((Z v 7) = 0) → (((Z v 5) ≤ 0 → wX5_takeJob_76 v a1 a2 a3 Z K) ∧ (¬ ((Z v 5) ≤ 0) → wX5_hasEarned v a3 Z (fun r14 Z13 => ((r14 = 0 → wX5_takeJob_97 v a1 a2 a3 Z13 K) ∧ (¬ (r14 = 0) → wX5_takeJob_76 v a1 a2 a3 Z13 K)))))))
def wX5_takeJob (v : Nat) (a1 : Int32) (a2 : Int32) (a3 : Int32) (Z : zS) (K : zS → Prop) : Prop := wX5_isFull v Z (fun r2 Z1 => ((r2 = 0 → vp_in ((Z1 v 10)) 4 ∧ ∀ Z5 : zS, Z5 = zU Z1 (18 + v) ((Z1 v 10) : Int32).toNatClampNeg a1 → vp_in ((Z5 v 10)) 4 ∧ ∀ Z7 : zS, Z7 = zU Z5 (36 + v) ((Z5 v 10) : Int32).toNatClampNeg a2 → ∀ Z8 : zS, Z8 = zU Z7 v 10 (((Z7 v 10) + 1)) → (((Z8 v 7) = 0 → wX5_takeJob_54 v a1 a2 a3 Z8 K) ∧ (¬ ((Z8 v 7) = 0) → (((Z8 v 7) = 3 → wX5_takeJob_54 v a1 a2 a3 Z8 K) ∧ (¬ ((Z8 v 7) = 3) → K Z8))))) ∧ (¬ (r2 = 0) → K Z1)))
set_option maxHeartbeats 4000000 in
set_option maxRecDepth 100000 in
theorem kX5_takeJob (l : Launch) (E : zE) (Z : zS) (v : Nat) (a1 : Int32) (a2 : Int32) (a3 : Int32) (hv : v < 18) {K : zS → Prop} (hw : wX5_takeJob v a1 a2 a3 Z K) : zCv l yX5_takeJob wsX5_takeJob ({ frames := 1, cells := 0, slots := 0, locals := 21 } : Room) E Z [.ref (E.2.1 v), .int a1, .int a2, .int a3] K := by
  refine z_bodyv (cc := cX5_takeJob) (nL := 4) (by decide) rfl (Nat.le_of_ble_eq_true rfl) ?_
  intro p e R s m args below meth c ls hfr hlo hF hr hlk hG hl
  have hx := hF.1.1
  have hb := hF.1.2.1
  have hown := hF.1.2.2.2.1
  have hts := hF.1.2.2.2.2
  have in5 : ∀ w ∈ u_ws RX5 TX5 15, w ∈ wsX5_takeJob := by decide +kernel
  have hl : lv_has ls 4 [(0, .ref (E.2.1 v)), (1, .int a1), (2, .int a2), (3, .int a3)] := hl
  have J97 : ∀ (Z : zS) (H : Heap) (locs : List Loc) (ls : Array Slot), zG E Z s H locs → lv_has ls 4 [(0, .ref (E.2.1 v))] → wX5_takeJob_97 v a1 a2 a3 Z K → W p l e R s m args below meth c H locs 0 0 (zQv E K below args s) (F0 m 97 ls []) := by
    intro Z H locs ls hG hl hw
    unfold wX5_takeJob_97 at hw
    refine lv_aload_n hx hb dX5_takeJob_97 rfl (lv_at hl 0 rfl) ?_
    refine lv_iconst (v := 1) hx hb dX5_takeJob_98 (by decide) ?_
    refine z_put hF hG v (zc_sv hv) (z_sv hv) rfl in5 tyX5_ok nmX5 7 (by decide) (by decide +kernel) rfl rfl (by decide +kernel) rfl rfl (by decide) 1 (z_sv hv) dX5_takeJob_99 (fun Z16 H locs eZ16 hG => ?_)
    replace hw := hw Z16 eZ16
    refine lv_aload_n hx hb dX5_takeJob_102 rfl (lv_at hl 0 rfl) ?_
    refine lv_aload_n hx hb dX5_takeJob_103 rfl (lv_at hl 0 rfl) ?_
    refine z_get hF hG v (zc_sv hv) (z_sv hv) rfl in5 6 (by decide) (by decide +kernel) rfl rfl dX5_takeJob_104 ?_
    refine z_put hF hG v (zc_sv hv) (z_sv hv) rfl in5 tyX5_ok nmX5 14 (by decide) (by decide +kernel) rfl rfl (by decide +kernel) rfl rfl (by decide) ((Z16 v 6)) (z_sv hv) dX5_takeJob_107 (fun Z17 H locs eZ17 hG => ?_)
    replace hw := hw Z17 eZ17
    exact z_vret hF hG hr hlk hw dX5_takeJob_110
  have J76 : ∀ (Z : zS) (H : Heap) (locs : List Loc) (ls : Array Slot), zG E Z s H locs → lv_has ls 4 [(0, .ref (E.2.1 v)), (3, .int a3)] → wX5_takeJob_76 v a1 a2 a3 Z K → W p l e R s m args below meth c H locs 0 0 (zQv E K below args s) (F0 m 76 ls []) := by
    intro Z H locs ls hG hl hw
    unfold wX5_takeJob_76 at hw
    refine lv_aload_n hx hb dX5_takeJob_76 rfl (lv_at hl 0 rfl) ?_
    refine lv_bipush (v := 60) hx hb dX5_takeJob_77 (by decide) ?_
    refine lv_aload_n hx hb dX5_takeJob_79 rfl (lv_at hl 0 rfl) ?_
    refine z_get hF hG v (zc_sv hv) (z_sv hv) rfl in5 2 (by decide) (by decide +kernel) rfl rfl dX5_takeJob_80 ?_
    refine lv_imul hx hb dX5_takeJob_83 ?_
    refine z_put hF hG v (zc_sv hv) (z_sv hv) rfl in5 tyX5_ok nmX5 5 (by decide) (by decide +kernel) rfl rfl (by decide +kernel) rfl rfl (by decide) ((60 * (Z v 2))) (z_sv hv) dX5_takeJob_84 (fun Z18 H locs eZ18 hG => ?_)
    replace hw := hw Z18 eZ18
    refine lv_aload_n hx hb dX5_takeJob_87 rfl (lv_at hl 0 rfl) ?_
    refine lv_iload_n hx hb dX5_takeJob_88 rfl (lv_at hl 1 rfl) ?_
    refine lv_aload_n hx hb dX5_takeJob_89 rfl (lv_at hl 0 rfl) ?_
    refine z_get hF hG v (zc_sv hv) (z_sv hv) rfl in5 3 (by decide) (by decide +kernel) rfl rfl dX5_takeJob_90 ?_
    refine lv_iadd hx hb dX5_takeJob_93 ?_
    refine z_put hF hG v (zc_sv hv) (z_sv hv) rfl in5 tyX5_ok nmX5 6 (by decide) (by decide +kernel) rfl rfl (by decide +kernel) rfl rfl (by decide) ((a3 + (Z18 v 3))) (z_sv hv) dX5_takeJob_94 (fun Z19 H locs eZ19 hG => ?_)
    replace hw := hw Z19 eZ19
    exact J97  Z19 _ _ _ hG (lv_sub hl [0] rfl) hw
  have J54 : ∀ (Z : zS) (H : Heap) (locs : List Loc) (ls : Array Slot), zG E Z s H locs → lv_has ls 4 [(0, .ref (E.2.1 v)), (3, .int a3)] → wX5_takeJob_54 v a1 a2 a3 Z K → W p l e R s m args below meth c H locs 0 0 (zQv E K below args s) (F0 m 54 ls []) := by
    intro Z H locs ls hG hl hw
    unfold wX5_takeJob_54 at hw
    refine lv_aload_n hx hb dX5_takeJob_54 rfl (lv_at hl 0 rfl) ?_
    refine z_get hF hG v (zc_sv hv) (z_sv hv) rfl in5 7 (by decide) (by decide +kernel) rfl rfl dX5_takeJob_55 ?_
    refine lv_if_eq (tgt := 76) hx hb dX5_takeJob_58 (by decide) (fun c11 => ?_) (fun c11 => ?_)
    · replace hw := hw.1 c11
      exact J76  Z _ _ _ hG (lv_sub hl [0, 1] rfl) hw
    replace hw := hw.2 c11
    refine lv_aload_n hx hb dX5_takeJob_61 rfl (lv_at hl 0 rfl) ?_
    refine z_get hF hG v (zc_sv hv) (z_sv hv) rfl in5 5 (by decide) (by decide +kernel) rfl rfl dX5_takeJob_62 ?_
    refine lv_if_le (tgt := 76) hx hb dX5_takeJob_65 (by decide) (fun c12 => ?_) (fun c12 => ?_)
    · replace hw := hw.1 c12
      exact J76  Z _ _ _ hG (lv_sub hl [0, 1] rfl) hw
    replace hw := hw.2 c12
    refine lv_aload_n hx hb dX5_takeJob_68 rfl (lv_at hl 0 rfl) ?_
    refine lv_iload_n hx hb dX5_takeJob_69 rfl (lv_at hl 1 rfl) ?_
    refine z_ci (va_runV (rest := []) hF.1 (kX5_hasEarned l E Z v a3 hv hw H.size) (cwV 1 hts gX5_takeJob_X5_hasEarned rfl rfl rfl (by decide +kernel) ⟨Nat.le_trans (Nat.le_of_ble_eq_true rfl) hfr, Nat.le_trans (Nat.le_of_ble_eq_true rfl) hlo⟩) (z_preV hF hG v (zc_sv hv) (z_sv hv) rfl) rfl rfl hl.1 rfl (lv_room (Nat.le_of_ble_eq_true rfl)) dX5_takeJob_70 ⟨Nat.zero_le _, Nat.zero_le _⟩) hG (fun r14 Z13 H locs hw hG => ?_)
    refine lv_if_eq (tgt := 97) hx hb dX5_takeJob_73 (by decide) (fun c15 => ?_) (fun c15 => ?_)
    · replace hw := hw.1 c15
      exact J97  Z13 _ _ _ hG (lv_sub hl [0] rfl) hw
    replace hw := hw.2 c15
    exact J76  Z13 _ _ _ hG (lv_sub hl [0, 1] rfl) hw
  unfold wX5_takeJob at hw
  refine lv_aload_n hx hb dX5_takeJob_0 rfl (lv_at hl 0 rfl) ?_
  refine z_ci (va_runV (rest := []) hF.1 (kX5_isFull l E Z v hv hw H.size) (cwV 0 hts gX5_takeJob_X5_isFull rfl rfl rfl (by decide +kernel) ⟨Nat.le_trans (Nat.le_of_ble_eq_true rfl) hfr, Nat.le_trans (Nat.le_of_ble_eq_true rfl) hlo⟩) (z_preV hF hG v (zc_sv hv) (z_sv hv) rfl) rfl rfl hl.1 rfl (lv_room (Nat.le_of_ble_eq_true rfl)) dX5_takeJob_1 ⟨Nat.zero_le _, Nat.zero_le _⟩) hG (fun r2 Z1 H locs hw hG => ?_)
  refine lv_if_eq (tgt := 8) hx hb dX5_takeJob_4 (by decide) (fun c3 => ?_) (fun c3 => ?_)
  · replace hw := hw.1 c3
    refine lv_aload_n hx hb dX5_takeJob_8 rfl (lv_at hl 0 rfl) ?_
    refine z_get hF hG v (zc_sv hv) (z_sv hv) rfl in5 11 (by decide) (by decide +kernel) rfl rfl dX5_takeJob_9 ?_
    refine lv_aload_n hx hb dX5_takeJob_12 rfl (lv_at hl 0 rfl) ?_
    refine z_get hF hG v (zc_sv hv) (z_sv hv) rfl in5 10 (by decide) (by decide +kernel) rfl rfl dX5_takeJob_13 ?_
    refine lv_iload_n hx hb dX5_takeJob_16 rfl (lv_at hl 1 rfl) ?_
    obtain ⟨q4, hw⟩ := hw
    refine z_iast hF hG (18 + v) (zc_wk hv) (fun _ => (z_wk hv)) q4 dX5_takeJob_17 (fun Z5 H locs eZ5 hG => ?_)
    replace hw := hw Z5 eZ5
    refine lv_aload_n hx hb dX5_takeJob_18 rfl (lv_at hl 0 rfl) ?_
    refine z_get hF hG v (zc_sv hv) (z_sv hv) rfl in5 12 (by decide) (by decide +kernel) rfl rfl dX5_takeJob_19 ?_
    refine lv_aload_n hx hb dX5_takeJob_22 rfl (lv_at hl 0 rfl) ?_
    refine z_get hF hG v (zc_sv hv) (z_sv hv) rfl in5 10 (by decide) (by decide +kernel) rfl rfl dX5_takeJob_23 ?_
    refine lv_iload_n hx hb dX5_takeJob_26 rfl (lv_at hl 2 rfl) ?_
    obtain ⟨q6, hw⟩ := hw
    refine z_iast hF hG (36 + v) (zc_lk hv) (fun _ => (z_lk hv)) q6 dX5_takeJob_27 (fun Z7 H locs eZ7 hG => ?_)
    replace hw := hw Z7 eZ7
    refine lv_aload_n hx hb dX5_takeJob_28 rfl (lv_at hl 0 rfl) ?_
    refine lv_dup hx hb dX5_takeJob_29 rfl ?_
    refine z_get hF hG v (zc_sv hv) (z_sv hv) rfl in5 10 (by decide) (by decide +kernel) rfl rfl dX5_takeJob_30 ?_
    refine lv_iconst (v := 1) hx hb dX5_takeJob_33 (by decide) ?_
    refine lv_iadd hx hb dX5_takeJob_34 ?_
    refine z_put hF hG v (zc_sv hv) (z_sv hv) rfl in5 tyX5_ok nmX5 10 (by decide) (by decide +kernel) rfl rfl (by decide +kernel) rfl rfl (by decide) (((Z7 v 10) + 1)) (z_sv hv) dX5_takeJob_35 (fun Z8 H locs eZ8 hG => ?_)
    replace hw := hw Z8 eZ8
    refine lv_aload_n hx hb dX5_takeJob_38 rfl (lv_at hl 0 rfl) ?_
    refine z_get hF hG v (zc_sv hv) (z_sv hv) rfl in5 7 (by decide) (by decide +kernel) rfl rfl dX5_takeJob_39 ?_
    refine lv_if_eq (tgt := 54) hx hb dX5_takeJob_42 (by decide) (fun c9 => ?_) (fun c9 => ?_)
    · replace hw := hw.1 c9
      exact J54  Z8 _ _ _ hG (lv_sub hl [0, 3] rfl) hw
    replace hw := hw.2 c9
    refine lv_aload_n hx hb dX5_takeJob_45 rfl (lv_at hl 0 rfl) ?_
    refine z_get hF hG v (zc_sv hv) (z_sv hv) rfl in5 7 (by decide) (by decide +kernel) rfl rfl dX5_takeJob_46 ?_
    refine lv_iconst (v := 3) hx hb dX5_takeJob_49 (by decide) ?_
    refine lv_icmp_eq (tgt := 54) hx hb dX5_takeJob_50 (by decide) (fun c10 => ?_) (fun c10 => ?_)
    · replace hw := hw.1 c10
      exact J54  Z8 _ _ _ hG (lv_sub hl [0, 3] rfl) hw
    replace hw := hw.2 c10
    exact z_vret hF hG hr hlk hw dX5_takeJob_53
  replace hw := hw.2 c3
  exact z_vret hF hG hr hlk hw dX5_takeJob_7
def wX5_becomes_90b (L90 : Int32 → zS → Prop) (v : Nat) (u1 : Nat) (x2 : Int32) (Z : zS) (K : zS → Prop) : Prop := (((Z u1 10) ≤ x2 → zBo ((Z u1 13)) ∧ ∀ Z14 : zS, Z14 = zU Z v 13 ((Z u1 13)) → ∀ Z15 : zS, Z15 = zU Z14 v 14 ((Z14 u1 14)) → K Z15) ∧ (¬ ((Z u1 10) ≤ x2) → vp_in x2 4 ∧ vp_in x2 4 ∧ ∀ Z18 : zS, Z18 = zU Z (18 + v) (x2 : Int32).toNatClampNeg ((Z (18 + u1) (x2 : Int32).toNatClampNeg)) → vp_in x2 4 ∧ vp_in x2 4 ∧ ∀ Z21 : zS, Z21 = zU Z18 (36 + v) (x2 : Int32).toNatClampNeg ((Z18 (36 + u1) (x2 : Int32).toNatClampNeg)) → ∀ x22 : Int32, x22 = x2 + 1 → L90 x22 Z21))
def wX5_becomes_90 (v : Nat) (u1 : Nat) (K : zS → Prop) : Nat → Int32 → zS → Prop
  | 0, _, _ => False
  | n + 1, x2, Z => wX5_becomes_90b (fun x2 Z => wX5_becomes_90 v u1 K n x2 Z) v u1 x2 Z K
def wX5_becomes (v : Nat) (u1 : Nat) (Z : zS) (K : zS → Prop) : Prop := ∀ Z1 : zS, Z1 = zU Z v 0 ((Z u1 0)) → ∀ Z2 : zS, Z2 = zU Z1 v 1 ((Z1 u1 1)) → ∀ Z3 : zS, Z3 = zU Z2 v 2 ((Z2 u1 2)) → ∀ Z4 : zS, Z4 = zU Z3 v 3 ((Z3 u1 3)) → ∀ Z5 : zS, Z5 = zU Z4 v 4 ((Z4 u1 4)) → ∀ Z6 : zS, Z6 = zU Z5 v 5 ((Z5 u1 5)) → ∀ Z7 : zS, Z7 = zU Z6 v 6 ((Z6 u1 6)) → ∀ Z8 : zS, Z8 = zU Z7 v 7 ((Z7 u1 7)) → ∀ Z9 : zS, Z9 = zU Z8 v 8 ((Z8 u1 8)) → ∀ Z10 : zS, Z10 = zU Z9 v 9 ((Z9 u1 9)) → ∀ Z11 : zS, Z11 = zU Z10 v 10 ((Z10 u1 10)) → ∀ x12 : Int32, x12 = 0 → ∃ n90 : Nat, wX5_becomes_90 v u1 K n90 x12 Z11
set_option maxHeartbeats 4000000 in
set_option maxRecDepth 100000 in
theorem kX5_becomes (l : Launch) (E : zE) (Z : zS) (v : Nat) (u1 : Nat) (hv : v < 18) (hu1 : u1 < 18) {K : zS → Prop} (hw : wX5_becomes v u1 Z K) : zCv l yX5_becomes wsX5_becomes ({ frames := 0, cells := 0, slots := 0, locals := 0 } : Room) E Z [.ref (E.2.1 v), .ref (E.2.1 u1)] K := by
  refine z_bodyv (cc := cX5_becomes) (nL := 3) (by decide) rfl (Nat.le_of_ble_eq_true rfl) ?_
  intro p e R s m args below meth c ls hfr hlo hF hr hlk hG hl
  have hx := hF.1.1
  have hb := hF.1.2.1
  have hown := hF.1.2.2.2.1
  have hts := hF.1.2.2.2.2
  have in5 : ∀ w ∈ u_ws RX5 TX5 15, w ∈ wsX5_becomes := by decide +kernel
  have hl : lv_has ls 3 [(0, .ref (E.2.1 v)), (1, .ref (E.2.1 u1))] := hl
  have S90 : ∀ (L90 : Int32 → zS → Prop), (∀ (x2 : Int32) (Z : zS) (H : Heap) (locs : List Loc) (ls : Array Slot), zG E Z s H locs → lv_has ls 3 [(0, .ref (E.2.1 v)), (1, .ref (E.2.1 u1)), (2, .int x2)] → L90 x2 Z → W p l e R s m args below meth c H locs 0 0 (zQv E K below args s) (F0 m 90 ls [])) → ∀ (x2 : Int32) (Z : zS) (H : Heap) (locs : List Loc) (ls : Array Slot), zG E Z s H locs → lv_has ls 3 [(0, .ref (E.2.1 v)), (1, .ref (E.2.1 u1)), (2, .int x2)] → wX5_becomes_90b L90 v u1 x2 Z K → W p l e R s m args below meth c H locs 0 0 (zQv E K below args s) (F0 m 90 ls []) := by
    intro L90 ih90
    intro x2 Z H locs ls hG hl hw
    unfold wX5_becomes_90b at hw
    refine lv_iload_n hx hb dX5_becomes_90 rfl (lv_at hl 2 rfl) ?_
    refine lv_aload_n hx hb dX5_becomes_91 rfl (lv_at hl 1 rfl) ?_
    refine z_get hF hG u1 (zc_sv hu1) (z_sv hu1) rfl in5 10 (by decide) (by decide +kernel) rfl rfl dX5_becomes_92 ?_
    refine lv_icmp_ge (tgt := 128) hx hb dX5_becomes_95 (by decide) (fun c13 => ?_) (fun c13 => ?_)
    · replace hw := hw.1 c13
      refine lv_aload_n hx hb dX5_becomes_128 rfl (lv_at hl 0 rfl) ?_
      refine lv_aload_n hx hb dX5_becomes_129 rfl (lv_at hl 1 rfl) ?_
      refine z_get hF hG u1 (zc_sv hu1) (z_sv hu1) rfl in5 13 (by decide) (by decide +kernel) rfl rfl dX5_becomes_130 ?_
      have hbo := hw.1
      replace hw := hw.2
      refine z_put hF hG v (zc_sv hv) (z_sv hv) rfl in5 tyX5_ok nmX5 13 (by decide) (by decide +kernel) rfl rfl (by decide +kernel) (zBo.n hbo) (zBo.t hbo) (by decide) ((Z u1 13)) (z_sv hv) dX5_becomes_133 (fun Z14 H locs eZ14 hG => ?_)
      replace hw := hw Z14 eZ14
      refine lv_aload_n hx hb dX5_becomes_136 rfl (lv_at hl 0 rfl) ?_
      refine lv_aload_n hx hb dX5_becomes_137 rfl (lv_at hl 1 rfl) ?_
      refine z_get hF hG u1 (zc_sv hu1) (z_sv hu1) rfl in5 14 (by decide) (by decide +kernel) rfl rfl dX5_becomes_138 ?_
      refine z_put hF hG v (zc_sv hv) (z_sv hv) rfl in5 tyX5_ok nmX5 14 (by decide) (by decide +kernel) rfl rfl (by decide +kernel) rfl rfl (by decide) ((Z14 u1 14)) (z_sv hv) dX5_becomes_141 (fun Z15 H locs eZ15 hG => ?_)
      replace hw := hw Z15 eZ15
      exact z_vret hF hG hr hlk hw dX5_becomes_144
    replace hw := hw.2 c13
    refine lv_aload_n hx hb dX5_becomes_98 rfl (lv_at hl 0 rfl) ?_
    refine z_get hF hG v (zc_sv hv) (z_sv hv) rfl in5 11 (by decide) (by decide +kernel) rfl rfl dX5_becomes_99 ?_
    refine lv_iload_n hx hb dX5_becomes_102 rfl (lv_at hl 2 rfl) ?_
    refine lv_aload_n hx hb dX5_becomes_103 rfl (lv_at hl 1 rfl) ?_
    refine z_get hF hG u1 (zc_sv hu1) (z_sv hu1) rfl in5 11 (by decide) (by decide +kernel) rfl rfl dX5_becomes_104 ?_
    refine lv_iload_n hx hb dX5_becomes_107 rfl (lv_at hl 2 rfl) ?_
    obtain ⟨q16, hw⟩ := hw
    refine z_iald hF hG (18 + u1) (zc_wk hu1) (z_wk hu1) q16 dX5_becomes_108 ?_
    obtain ⟨q17, hw⟩ := hw
    refine z_iast hF hG (18 + v) (zc_wk hv) (fun _ => (z_wk hv)) q17 dX5_becomes_109 (fun Z18 H locs eZ18 hG => ?_)
    replace hw := hw Z18 eZ18
    refine lv_aload_n hx hb dX5_becomes_110 rfl (lv_at hl 0 rfl) ?_
    refine z_get hF hG v (zc_sv hv) (z_sv hv) rfl in5 12 (by decide) (by decide +kernel) rfl rfl dX5_becomes_111 ?_
    refine lv_iload_n hx hb dX5_becomes_114 rfl (lv_at hl 2 rfl) ?_
    refine lv_aload_n hx hb dX5_becomes_115 rfl (lv_at hl 1 rfl) ?_
    refine z_get hF hG u1 (zc_sv hu1) (z_sv hu1) rfl in5 12 (by decide) (by decide +kernel) rfl rfl dX5_becomes_116 ?_
    refine lv_iload_n hx hb dX5_becomes_119 rfl (lv_at hl 2 rfl) ?_
    obtain ⟨q19, hw⟩ := hw
    refine z_iald hF hG (36 + u1) (zc_lk hu1) (z_lk hu1) q19 dX5_becomes_120 ?_
    obtain ⟨q20, hw⟩ := hw
    refine z_iast hF hG (36 + v) (zc_lk hv) (fun _ => (z_lk hv)) q20 dX5_becomes_121 (fun Z21 H locs eZ21 hG => ?_)
    replace hw := hw Z21 eZ21
    obtain ⟨x22, ex22⟩ : ∃ y : Int32, y = x2 + 1 := ⟨_, rfl⟩
    replace hw := hw x22 ex22
    refine lv_iinc (v := x22) (lv' := [(2, .int x22), (0, .ref (E.2.1 v)), (1, .ref (E.2.1 u1))]) hx hb dX5_becomes_122 hl (k := 2) rfl (by rw [ex22]; rfl) (by decide) rfl (fun ls hl => ?_)
    refine lv_goto (tgt := 90) hx hb dX5_becomes_125 (by decide) ?_
    exact ih90 x22 Z21 _ _ _ hG (lv_sub hl [1, 2, 0] rfl) hw
  have J90 : ∀ n : Nat, ∀ (x2 : Int32) (Z : zS) (H : Heap) (locs : List Loc) (ls : Array Slot), zG E Z s H locs → lv_has ls 3 [(0, .ref (E.2.1 v)), (1, .ref (E.2.1 u1)), (2, .int x2)] → wX5_becomes_90 v u1 K n x2 Z → W p l e R s m args below meth c H locs 0 0 (zQv E K below args s) (F0 m 90 ls []) := by
    intro n
    induction n with
    | zero => intro x2 Z H locs ls hG hl hw; exact hw.elim
    | succ n ih => intro x2 Z H locs ls hG hl hw; exact S90 _ ih x2 Z H locs ls hG hl hw
  unfold wX5_becomes at hw
  refine lv_aload_n hx hb dX5_becomes_0 rfl (lv_at hl 0 rfl) ?_
  refine lv_aload_n hx hb dX5_becomes_1 rfl (lv_at hl 1 rfl) ?_
  refine z_get (v := .ref (E.2.1 (84 + ((Z u1 0) : Int32).toNatClampNeg))) hF hG u1 (zc_sv hu1) (z_sv hu1) rfl in5 0 (by decide) (by decide +kernel) rfl rfl dX5_becomes_2 ?_
  refine z_put hF hG v (zc_sv hv) (z_sv hv) rfl in5 tyX5_ok nmX5 0 (by decide) (by decide +kernel) rfl rfl (by decide +kernel) rfl rfl (by decide) ((Z u1 0)) (z_sv hv) dX5_becomes_5 (fun Z1 H locs eZ1 hG => ?_)
  replace hw := hw Z1 eZ1
  refine lv_aload_n hx hb dX5_becomes_8 rfl (lv_at hl 0 rfl) ?_
  refine lv_aload_n hx hb dX5_becomes_9 rfl (lv_at hl 1 rfl) ?_
  refine z_get hF hG u1 (zc_sv hu1) (z_sv hu1) rfl in5 1 (by decide) (by decide +kernel) rfl rfl dX5_becomes_10 ?_
  refine z_put hF hG v (zc_sv hv) (z_sv hv) rfl in5 tyX5_ok nmX5 1 (by decide) (by decide +kernel) rfl rfl (by decide +kernel) rfl rfl (by decide) ((Z1 u1 1)) (z_sv hv) dX5_becomes_13 (fun Z2 H locs eZ2 hG => ?_)
  replace hw := hw Z2 eZ2
  refine lv_aload_n hx hb dX5_becomes_16 rfl (lv_at hl 0 rfl) ?_
  refine lv_aload_n hx hb dX5_becomes_17 rfl (lv_at hl 1 rfl) ?_
  refine z_get hF hG u1 (zc_sv hu1) (z_sv hu1) rfl in5 2 (by decide) (by decide +kernel) rfl rfl dX5_becomes_18 ?_
  refine z_put hF hG v (zc_sv hv) (z_sv hv) rfl in5 tyX5_ok nmX5 2 (by decide) (by decide +kernel) rfl rfl (by decide +kernel) rfl rfl (by decide) ((Z2 u1 2)) (z_sv hv) dX5_becomes_21 (fun Z3 H locs eZ3 hG => ?_)
  replace hw := hw Z3 eZ3
  refine lv_aload_n hx hb dX5_becomes_24 rfl (lv_at hl 0 rfl) ?_
  refine lv_aload_n hx hb dX5_becomes_25 rfl (lv_at hl 1 rfl) ?_
  refine z_get hF hG u1 (zc_sv hu1) (z_sv hu1) rfl in5 3 (by decide) (by decide +kernel) rfl rfl dX5_becomes_26 ?_
  refine z_put hF hG v (zc_sv hv) (z_sv hv) rfl in5 tyX5_ok nmX5 3 (by decide) (by decide +kernel) rfl rfl (by decide +kernel) rfl rfl (by decide) ((Z3 u1 3)) (z_sv hv) dX5_becomes_29 (fun Z4 H locs eZ4 hG => ?_)
  replace hw := hw Z4 eZ4
  refine lv_aload_n hx hb dX5_becomes_32 rfl (lv_at hl 0 rfl) ?_
  refine lv_aload_n hx hb dX5_becomes_33 rfl (lv_at hl 1 rfl) ?_
  refine z_get hF hG u1 (zc_sv hu1) (z_sv hu1) rfl in5 4 (by decide) (by decide +kernel) rfl rfl dX5_becomes_34 ?_
  refine z_put hF hG v (zc_sv hv) (z_sv hv) rfl in5 tyX5_ok nmX5 4 (by decide) (by decide +kernel) rfl rfl (by decide +kernel) rfl rfl (by decide) ((Z4 u1 4)) (z_sv hv) dX5_becomes_37 (fun Z5 H locs eZ5 hG => ?_)
  replace hw := hw Z5 eZ5
  refine lv_aload_n hx hb dX5_becomes_40 rfl (lv_at hl 0 rfl) ?_
  refine lv_aload_n hx hb dX5_becomes_41 rfl (lv_at hl 1 rfl) ?_
  refine z_get hF hG u1 (zc_sv hu1) (z_sv hu1) rfl in5 5 (by decide) (by decide +kernel) rfl rfl dX5_becomes_42 ?_
  refine z_put hF hG v (zc_sv hv) (z_sv hv) rfl in5 tyX5_ok nmX5 5 (by decide) (by decide +kernel) rfl rfl (by decide +kernel) rfl rfl (by decide) ((Z5 u1 5)) (z_sv hv) dX5_becomes_45 (fun Z6 H locs eZ6 hG => ?_)
  replace hw := hw Z6 eZ6
  refine lv_aload_n hx hb dX5_becomes_48 rfl (lv_at hl 0 rfl) ?_
  refine lv_aload_n hx hb dX5_becomes_49 rfl (lv_at hl 1 rfl) ?_
  refine z_get hF hG u1 (zc_sv hu1) (z_sv hu1) rfl in5 6 (by decide) (by decide +kernel) rfl rfl dX5_becomes_50 ?_
  refine z_put hF hG v (zc_sv hv) (z_sv hv) rfl in5 tyX5_ok nmX5 6 (by decide) (by decide +kernel) rfl rfl (by decide +kernel) rfl rfl (by decide) ((Z6 u1 6)) (z_sv hv) dX5_becomes_53 (fun Z7 H locs eZ7 hG => ?_)
  replace hw := hw Z7 eZ7
  refine lv_aload_n hx hb dX5_becomes_56 rfl (lv_at hl 0 rfl) ?_
  refine lv_aload_n hx hb dX5_becomes_57 rfl (lv_at hl 1 rfl) ?_
  refine z_get hF hG u1 (zc_sv hu1) (z_sv hu1) rfl in5 7 (by decide) (by decide +kernel) rfl rfl dX5_becomes_58 ?_
  refine z_put hF hG v (zc_sv hv) (z_sv hv) rfl in5 tyX5_ok nmX5 7 (by decide) (by decide +kernel) rfl rfl (by decide +kernel) rfl rfl (by decide) ((Z7 u1 7)) (z_sv hv) dX5_becomes_61 (fun Z8 H locs eZ8 hG => ?_)
  replace hw := hw Z8 eZ8
  refine lv_aload_n hx hb dX5_becomes_64 rfl (lv_at hl 0 rfl) ?_
  refine lv_aload_n hx hb dX5_becomes_65 rfl (lv_at hl 1 rfl) ?_
  refine z_get hF hG u1 (zc_sv hu1) (z_sv hu1) rfl in5 8 (by decide) (by decide +kernel) rfl rfl dX5_becomes_66 ?_
  refine z_put hF hG v (zc_sv hv) (z_sv hv) rfl in5 tyX5_ok nmX5 8 (by decide) (by decide +kernel) rfl rfl (by decide +kernel) rfl rfl (by decide) ((Z8 u1 8)) (z_sv hv) dX5_becomes_69 (fun Z9 H locs eZ9 hG => ?_)
  replace hw := hw Z9 eZ9
  refine lv_aload_n hx hb dX5_becomes_72 rfl (lv_at hl 0 rfl) ?_
  refine lv_aload_n hx hb dX5_becomes_73 rfl (lv_at hl 1 rfl) ?_
  refine z_get hF hG u1 (zc_sv hu1) (z_sv hu1) rfl in5 9 (by decide) (by decide +kernel) rfl rfl dX5_becomes_74 ?_
  refine z_put hF hG v (zc_sv hv) (z_sv hv) rfl in5 tyX5_ok nmX5 9 (by decide) (by decide +kernel) rfl rfl (by decide +kernel) rfl rfl (by decide) ((Z9 u1 9)) (z_sv hv) dX5_becomes_77 (fun Z10 H locs eZ10 hG => ?_)
  replace hw := hw Z10 eZ10
  refine lv_aload_n hx hb dX5_becomes_80 rfl (lv_at hl 0 rfl) ?_
  refine lv_aload_n hx hb dX5_becomes_81 rfl (lv_at hl 1 rfl) ?_
  refine z_get hF hG u1 (zc_sv hu1) (z_sv hu1) rfl in5 10 (by decide) (by decide +kernel) rfl rfl dX5_becomes_82 ?_
  refine z_put hF hG v (zc_sv hv) (z_sv hv) rfl in5 tyX5_ok nmX5 10 (by decide) (by decide +kernel) rfl rfl (by decide +kernel) rfl rfl (by decide) ((Z10 u1 10)) (z_sv hv) dX5_becomes_85 (fun Z11 H locs eZ11 hG => ?_)
  replace hw := hw Z11 eZ11
  refine lv_iconst (v := 0) hx hb dX5_becomes_88 (by decide) ?_
  refine lv_topi (fun x12 ex12 => ?_)
  replace hw := hw x12 ex12
  refine lv_istore_n (lv' := [(2, .int x12), (0, .ref (E.2.1 v)), (1, .ref (E.2.1 u1))]) hx hb dX5_becomes_89 rfl hl (by decide) rfl (fun ls hl => ?_)
  obtain ⟨n90, hw⟩ := hw
  exact J90 n90 x12 Z11 _ _ _ hG (lv_sub hl [1, 2, 0] rfl) hw
def wX12_within (a1 : Int32) (a2 : Int32) (a3 : Int32) (Z : zS) (K : Int32 → zS → Prop) : Prop := ((a1 < a2 → K 0 Z) ∧ (¬ (a1 < a2) → ((a3 < a1 → K 0 Z) ∧ (¬ (a3 < a1) → K 1 Z))))
set_option maxHeartbeats 4000000 in
set_option maxRecDepth 100000 in
theorem kX12_within (l : Launch) (E : zE) (Z : zS) (a1 : Int32) (a2 : Int32) (a3 : Int32) {K : Int32 → zS → Prop} (hw : wX12_within a1 a2 a3 Z K) : zCi l yX12_within wsX12_within ({ frames := 0, cells := 0, slots := 0, locals := 0 } : Room) E Z [.int a1, .int a2, .int a3] K := by
  refine z_bodyi (cc := cX12_within) (nL := 3) (ret := .boolean) (by decide) rfl (Nat.le_of_ble_eq_true rfl) ?_
  intro p e R s m args below meth c ls hfr hlo hF hr hlk hG hl
  have hx := hF.1.1
  have hb := hF.1.2.1
  have hown := hF.1.2.2.2.1
  have hts := hF.1.2.2.2.2
  have hl : lv_has ls 3 [(0, .int a1), (1, .int a2), (2, .int a3)] := hl
  unfold wX12_within at hw
  refine lv_iload_n hx hb dX12_within_0 rfl (lv_at hl 0 rfl) ?_
  refine lv_iload_n hx hb dX12_within_1 rfl (lv_at hl 1 rfl) ?_
  refine lv_icmp_lt (tgt := 14) hx hb dX12_within_2 (by decide) (fun c1 => ?_) (fun c1 => ?_)
  · replace hw := hw.1 c1
    refine lv_iconst (v := 0) hx hb dX12_within_14 (by decide) ?_
    exact z_zret hF hG hr hlk (by decide) hw dX12_within_15
  replace hw := hw.2 c1
  refine lv_iload_n hx hb dX12_within_5 rfl (lv_at hl 0 rfl) ?_
  refine lv_iload_n hx hb dX12_within_6 rfl (lv_at hl 2 rfl) ?_
  refine lv_icmp_gt (tgt := 14) hx hb dX12_within_7 (by decide) (fun c2 => ?_) (fun c2 => ?_)
  · replace hw := hw.1 c2
    refine lv_iconst (v := 0) hx hb dX12_within_14 (by decide) ?_
    exact z_zret hF hG hr hlk (by decide) hw dX12_within_15
  replace hw := hw.2 c2
  refine lv_iconst (v := 1) hx hb dX12_within_10 (by decide) ?_
  refine lv_goto (tgt := 15) hx hb dX12_within_11 (by decide) ?_
  exact z_zret hF hG hr hlk (by decide) hw dX12_within_15
def wX12_isServer (a1 : Int32) (Z : zS) (K : Int32 → zS → Prop) : Prop := wX12_within a1 0 (((Z 97 1) - 1)) Z (fun r2 Z1 => zBo r2 ∧ K r2 Z1)
set_option maxHeartbeats 4000000 in
set_option maxRecDepth 100000 in
theorem kX12_isServer (l : Launch) (E : zE) (Z : zS) (a1 : Int32) {K : Int32 → zS → Prop} (hw : wX12_isServer a1 Z K) : zCi l yX12_isServer wsX12_isServer ({ frames := 1, cells := 0, slots := 0, locals := 22 } : Room) E Z [.ref (E.2.1 97), .int a1] K := by
  refine z_bodyi (cc := cX12_isServer) (nL := 2) (ret := .boolean) (by decide) rfl (Nat.le_of_ble_eq_true rfl) ?_
  intro p e R s m args below meth c ls hfr hlo hF hr hlk hG hl
  have hx := hF.1.1
  have hb := hF.1.2.1
  have hown := hF.1.2.2.2.1
  have hts := hF.1.2.2.2.2
  have in12 : ∀ w ∈ u_ws RX12 TX12 22, w ∈ wsX12_isServer := by decide +kernel
  have hl : lv_has ls 2 [(0, .ref (E.2.1 97)), (1, .int a1)] := hl
  unfold wX12_isServer at hw
  refine lv_iload_n hx hb dX12_isServer_0 rfl (lv_at hl 1 rfl) ?_
  refine lv_iconst (v := 0) hx hb dX12_isServer_1 (by decide) ?_
  refine lv_aload_n hx hb dX12_isServer_2 rfl (lv_at hl 0 rfl) ?_
  refine z_get hF hG 97 (by decide) z_md rfl in12 1 (by decide) (by decide +kernel) rfl rfl dX12_isServer_3 ?_
  refine lv_iconst (v := 1) hx hb dX12_isServer_6 (by decide) ?_
  refine lv_isub hx hb dX12_isServer_7 ?_
  refine z_ci (va_runS (rest := []) hF.1 (kX12_within l E Z a1 0 (((Z 97 1) - 1))  hw H.size) (va_cwS 3 hts gX12_isServer_X12_within rfl rfl rfl (by decide +kernel) ⟨Nat.le_trans (Nat.le_of_ble_eq_true rfl) hfr, Nat.le_trans (Nat.le_of_ble_eq_true rfl) hlo⟩) (z_preS hF hG) rfl rfl hl.1 rfl (lv_room (Nat.le_of_ble_eq_true rfl)) dX12_isServer_8 ⟨Nat.zero_le _, Nat.zero_le _⟩) hG (fun r2 Z1 H locs hw hG => ?_)
  exact z_zret hF hG hr hlk (zBo.n hw.1) hw.2 dX12_isServer_11
def wX12_share (a1 : Int32) (Z : zS) (K : Int32 → zS → Prop) : Prop := vp_in ((12 + a1)) 72 ∧ vp_in ((18 + a1)) 72 ∧ ¬ (Z 98 ((18 + a1) : Int32).toNatClampNeg) = 0 ∧ K (((60 * (Z 98 ((12 + a1) : Int32).toNatClampNeg)) / (Z 98 ((18 + a1) : Int32).toNatClampNeg))) Z
set_option maxHeartbeats 4000000 in
set_option maxRecDepth 100000 in
theorem kX12_share (l : Launch) (E : zE) (Z : zS) (a1 : Int32) {K : Int32 → zS → Prop} (hw : wX12_share a1 Z K) : zCi l yX12_share wsX12_share ({ frames := 0, cells := 0, slots := 0, locals := 0 } : Room) E Z [.ref (E.2.1 97), .int a1] K := by
  refine z_bodyi (cc := cX12_share) (nL := 2) (ret := .int) (by decide) rfl (Nat.le_of_ble_eq_true rfl) ?_
  intro p e R s m args below meth c ls hfr hlo hF hr hlk hG hl
  have hx := hF.1.1
  have hb := hF.1.2.1
  have hown := hF.1.2.2.2.1
  have hts := hF.1.2.2.2.2
  have in12 : ∀ w ∈ u_ws RX12 TX12 22, w ∈ wsX12_share := by decide +kernel
  have hl : lv_has ls 2 [(0, .ref (E.2.1 97)), (1, .int a1)] := hl
  unfold wX12_share at hw
  refine lv_bipush (v := 60) hx hb dX12_share_0 (by decide) ?_
  refine lv_aload_n hx hb dX12_share_2 rfl (lv_at hl 0 rfl) ?_
  refine z_get hF hG 97 (by decide) z_md rfl in12 2 (by decide) (by decide +kernel) rfl rfl dX12_share_3 ?_
  refine lv_bipush (v := 12) hx hb dX12_share_6 (by decide) ?_
  refine lv_iload_n hx hb dX12_share_8 rfl (lv_at hl 1 rfl) ?_
  refine lv_iadd hx hb dX12_share_9 ?_
  obtain ⟨q1, hw⟩ := hw
  refine z_iald hF hG 98 (by decide) z_m98 q1 dX12_share_10 ?_
  refine lv_imul hx hb dX12_share_11 ?_
  refine lv_aload_n hx hb dX12_share_12 rfl (lv_at hl 0 rfl) ?_
  refine z_get hF hG 97 (by decide) z_md rfl in12 2 (by decide) (by decide +kernel) rfl rfl dX12_share_13 ?_
  refine lv_bipush (v := 18) hx hb dX12_share_16 (by decide) ?_
  refine lv_iload_n hx hb dX12_share_18 rfl (lv_at hl 1 rfl) ?_
  refine lv_iadd hx hb dX12_share_19 ?_
  obtain ⟨q2, hw⟩ := hw
  refine z_iald hF hG 98 (by decide) z_m98 q2 dX12_share_20 ?_
  refine lv_idiv hx hb dX12_share_21 hw.1 ?_
  replace hw := hw.2
  exact z_iret hF hG hr hlk hw dX12_share_22
def wX12_load_32 (L4 : Int32 → Int32 → zS → Prop) (x1 : Int32) (x2 : Int32) (Z : zS) (K : Int32 → zS → Prop) : Prop := ∀ x9 : Int32, x9 = x2 + 1 → L4 x1 x9 Z
def wX12_load_4b (L4 : Int32 → Int32 → zS → Prop) (x1 : Int32) (x2 : Int32) (Z : zS) (K : Int32 → zS → Prop) : Prop := (((Z 97 1) ≤ x2 → K x1 Z) ∧ (¬ ((Z 97 1) ≤ x2) → vp_in ((36 + x2)) 72 ∧ (((Z 98 ((36 + x2) : Int32).toNatClampNeg) = 0 → wX12_load_32 L4 x1 x2 Z K) ∧ (¬ ((Z 98 ((36 + x2) : Int32).toNatClampNeg) = 0) → wX12_share x2 Z (fun r7 Z6 => ∀ x8 : Int32, x8 = (x1 + r7) → wX12_load_32 L4 x8 x2 Z6 K)))))
def wX12_load_4 (K : Int32 → zS → Prop) : Nat → Int32 → Int32 → zS → Prop
  | 0, _, _, _ => False
  | n + 1, x1, x2, Z => wX12_load_4b (fun x1 x2 Z => wX12_load_4 K n x1 x2 Z) x1 x2 Z K
def wX12_load (Z : zS) (K : Int32 → zS → Prop) : Prop := ∀ x1 : Int32, x1 = 0 → ∀ x2 : Int32, x2 = 0 → ∃ n4 : Nat, wX12_load_4 K n4 x1 x2 Z
set_option maxHeartbeats 4000000 in
set_option maxRecDepth 100000 in
theorem kX12_load (l : Launch) (E : zE) (Z : zS) {K : Int32 → zS → Prop} (hw : wX12_load Z K) : zCi l yX12_load wsX12_load ({ frames := 1, cells := 0, slots := 0, locals := 21 } : Room) E Z [.ref (E.2.1 97)] K := by
  refine z_bodyi (cc := cX12_load) (nL := 3) (ret := .int) (by decide) rfl (Nat.le_of_ble_eq_true rfl) ?_
  intro p e R s m args below meth c ls hfr hlo hF hr hlk hG hl
  have hx := hF.1.1
  have hb := hF.1.2.1
  have hown := hF.1.2.2.2.1
  have hts := hF.1.2.2.2.2
  have in12 : ∀ w ∈ u_ws RX12 TX12 22, w ∈ wsX12_load := by decide +kernel
  have hl : lv_has ls 3 [(0, .ref (E.2.1 97))] := hl
  have S4 : ∀ (L4 : Int32 → Int32 → zS → Prop), (∀ (x1 : Int32) (x2 : Int32) (Z : zS) (H : Heap) (locs : List Loc) (ls : Array Slot), zG E Z s H locs → lv_has ls 3 [(0, .ref (E.2.1 97)), (1, .int x1), (2, .int x2)] → L4 x1 x2 Z → W p l e R s m args below meth c H locs 0 0 (zQi E K below args s) (F0 m 4 ls [])) → ∀ (x1 : Int32) (x2 : Int32) (Z : zS) (H : Heap) (locs : List Loc) (ls : Array Slot), zG E Z s H locs → lv_has ls 3 [(0, .ref (E.2.1 97)), (1, .int x1), (2, .int x2)] → wX12_load_4b L4 x1 x2 Z K → W p l e R s m args below meth c H locs 0 0 (zQi E K below args s) (F0 m 4 ls []) := by
    intro L4 ih4
    have J32 : ∀ (x1 : Int32) (x2 : Int32) (Z : zS) (H : Heap) (locs : List Loc) (ls : Array Slot), zG E Z s H locs → lv_has ls 3 [(0, .ref (E.2.1 97)), (1, .int x1), (2, .int x2)] → wX12_load_32 L4 x1 x2 Z K → W p l e R s m args below meth c H locs 0 0 (zQi E K below args s) (F0 m 32 ls []) := by
      intro x1 x2 Z H locs ls hG hl hw
      unfold wX12_load_32 at hw
      obtain ⟨x9, ex9⟩ : ∃ y : Int32, y = x2 + 1 := ⟨_, rfl⟩
      replace hw := hw x9 ex9
      refine lv_iinc (v := x9) (lv' := [(2, .int x9), (0, .ref (E.2.1 97)), (1, .int x1)]) hx hb dX12_load_32 hl (k := 2) rfl (by rw [ex9]; rfl) (by decide) rfl (fun ls hl => ?_)
      refine lv_goto (tgt := 4) hx hb dX12_load_35 (by decide) ?_
      exact ih4 x1 x9 Z _ _ _ hG (lv_sub hl [1, 2, 0] rfl) hw
    intro x1 x2 Z H locs ls hG hl hw
    unfold wX12_load_4b at hw
    refine lv_iload_n hx hb dX12_load_4 rfl (lv_at hl 2 rfl) ?_
    refine lv_aload_n hx hb dX12_load_5 rfl (lv_at hl 0 rfl) ?_
    refine z_get hF hG 97 (by decide) z_md rfl in12 1 (by decide) (by decide +kernel) rfl rfl dX12_load_6 ?_
    refine lv_icmp_ge (tgt := 38) hx hb dX12_load_9 (by decide) (fun c3 => ?_) (fun c3 => ?_)
    · replace hw := hw.1 c3
      refine lv_iload_n hx hb dX12_load_38 rfl (lv_at hl 1 rfl) ?_
      exact z_iret hF hG hr hlk hw dX12_load_39
    replace hw := hw.2 c3
    refine lv_aload_n hx hb dX12_load_12 rfl (lv_at hl 0 rfl) ?_
    refine z_get hF hG 97 (by decide) z_md rfl in12 2 (by decide) (by decide +kernel) rfl rfl dX12_load_13 ?_
    refine lv_bipush (v := 36) hx hb dX12_load_16 (by decide) ?_
    refine lv_iload_n hx hb dX12_load_18 rfl (lv_at hl 2 rfl) ?_
    refine lv_iadd hx hb dX12_load_19 ?_
    obtain ⟨q4, hw⟩ := hw
    refine z_iald hF hG 98 (by decide) z_m98 q4 dX12_load_20 ?_
    refine lv_if_eq (tgt := 32) hx hb dX12_load_21 (by decide) (fun c5 => ?_) (fun c5 => ?_)
    · replace hw := hw.1 c5
      exact J32 x1 x2 Z _ _ _ hG (lv_sub hl [0, 1, 2] rfl) hw
    replace hw := hw.2 c5
    refine lv_iload_n hx hb dX12_load_24 rfl (lv_at hl 1 rfl) ?_
    refine lv_aload_n hx hb dX12_load_25 rfl (lv_at hl 0 rfl) ?_
    refine lv_iload_n hx hb dX12_load_26 rfl (lv_at hl 2 rfl) ?_
    refine z_ci (va_runV (rest := [.int x1]) hF.1 (kX12_share l E Z x2  hw H.size) (cwV 1 hts gX12_load_X12_share rfl rfl rfl (by decide +kernel) ⟨Nat.le_trans (Nat.le_of_ble_eq_true rfl) hfr, Nat.le_trans (Nat.le_of_ble_eq_true rfl) hlo⟩) (z_preV hF hG 97 (by decide) z_md rfl) rfl rfl hl.1 rfl (lv_room (Nat.le_of_ble_eq_true rfl)) dX12_load_27 ⟨Nat.zero_le _, Nat.zero_le _⟩) hG (fun r7 Z6 H locs hw hG => ?_)
    refine lv_iadd hx hb dX12_load_30 ?_
    refine lv_topi (fun x8 ex8 => ?_)
    replace hw := hw x8 ex8
    refine lv_istore_n (lv' := [(1, .int x8), (0, .ref (E.2.1 97)), (2, .int x2)]) hx hb dX12_load_31 rfl hl (by decide) rfl (fun ls hl => ?_)
    exact J32 x8 x2 Z6 _ _ _ hG (lv_sub hl [1, 0, 2] rfl) hw
  have J4 : ∀ n : Nat, ∀ (x1 : Int32) (x2 : Int32) (Z : zS) (H : Heap) (locs : List Loc) (ls : Array Slot), zG E Z s H locs → lv_has ls 3 [(0, .ref (E.2.1 97)), (1, .int x1), (2, .int x2)] → wX12_load_4 K n x1 x2 Z → W p l e R s m args below meth c H locs 0 0 (zQi E K below args s) (F0 m 4 ls []) := by
    intro n
    induction n with
    | zero => intro x1 x2 Z H locs ls hG hl hw; exact hw.elim
    | succ n ih => intro x1 x2 Z H locs ls hG hl hw; exact S4 _ ih x1 x2 Z H locs ls hG hl hw
  unfold wX12_load at hw
  refine lv_iconst (v := 0) hx hb dX12_load_0 (by decide) ?_
  refine lv_topi (fun x1 ex1 => ?_)
  replace hw := hw x1 ex1
  refine lv_istore_n (lv' := [(1, .int x1), (0, .ref (E.2.1 97))]) hx hb dX12_load_1 rfl hl (by decide) rfl (fun ls hl => ?_)
  refine lv_iconst (v := 0) hx hb dX12_load_2 (by decide) ?_
  refine lv_topi (fun x2 ex2 => ?_)
  replace hw := hw x2 ex2
  refine lv_istore_n (lv' := [(2, .int x2), (1, .int x1), (0, .ref (E.2.1 97))]) hx hb dX12_load_3 rfl hl (by decide) rfl (fun ls hl => ?_)
  obtain ⟨n4, hw⟩ := hw
  exact J4 n4 x1 x2 Z _ _ _ hG (lv_sub hl [2, 1, 0] rfl) hw
def wX8_digitsBehind (a1 : Int32) (Z : zS) (K : Int32 → zS → Prop) : Prop := ∀ x1 : Int32, x1 = a1 → ((x1 = 106 → K 3 Z) ∧ (¬ x1 = 106 → ((x1 = 115 → K 6 Z) ∧ (¬ x1 = 115 → ((x1 = 116 → K 2 Z) ∧ (¬ x1 = 116 → K ((-1)) Z))))))
set_option maxHeartbeats 4000000 in
set_option maxRecDepth 100000 in
theorem kX8_digitsBehind (l : Launch) (E : zE) (Z : zS) (a1 : Int32) {K : Int32 → zS → Prop} (hw : wX8_digitsBehind a1 Z K) : zCi l yX8_digitsBehind wsX8_digitsBehind ({ frames := 0, cells := 0, slots := 0, locals := 0 } : Room) E Z [.int a1] K := by
  refine z_bodyi (cc := cX8_digitsBehind) (nL := 1) (ret := .int) (by decide) rfl (Nat.le_of_ble_eq_true rfl) ?_
  intro p e R s m args below meth c ls hfr hlo hF hr hlk hG hl
  have hx := hF.1.1
  have hb := hF.1.2.1
  have hown := hF.1.2.2.2.1
  have hts := hF.1.2.2.2.2
  have hl : lv_has ls 1 [(0, .int a1)] := hl
  unfold wX8_digitsBehind at hw
  refine lv_iload_n hx hb dX8_digitsBehind_0 rfl (lv_at hl 0 rfl) ?_
  refine lv_topi (fun x1 ex1 => ?_)
  replace hw := hw x1 ex1
  by_cases c2 : x1 = 106
  · replace hw := hw.1 c2
    refine lv_lookup (tgt := 39) (off := 38) hx hb dX8_digitsBehind_1 (by decide) (by rw [c2]; rfl) (by decide) ?_
    refine lv_iconst (v := 3) hx hb dX8_digitsBehind_39 (by decide) ?_
    exact z_iret hF hG hr hlk hw dX8_digitsBehind_40
  replace hw := hw.2 c2
  by_cases c3 : x1 = 115
  · replace hw := hw.1 c3
    refine lv_lookup (tgt := 36) (off := 35) hx hb dX8_digitsBehind_1 (by decide) (by rw [c3]; rfl) (by decide) ?_
    refine lv_bipush (v := 6) hx hb dX8_digitsBehind_36 (by decide) ?_
    exact z_iret hF hG hr hlk hw dX8_digitsBehind_38
  replace hw := hw.2 c3
  by_cases c4 : x1 = 116
  · replace hw := hw.1 c4
    refine lv_lookup (tgt := 41) (off := 40) hx hb dX8_digitsBehind_1 (by decide) (by rw [c4]; rfl) (by decide) ?_
    refine lv_iconst (v := 2) hx hb dX8_digitsBehind_41 (by decide) ?_
    exact z_iret hF hG hr hlk hw dX8_digitsBehind_42
  replace hw := hw.2 c4
  refine lv_lookup (tgt := 43) (off := 42) hx hb dX8_digitsBehind_1 (by decide) ((lv_osw c2 (by decide)).trans ( (lv_osw c3 (by decide)).trans ( (lv_osw c4 (by decide)).trans (rfl)))) (by decide) ?_
  refine lv_iconst (v := (-1)) hx hb dX8_digitsBehind_43 (by decide) ?_
  exact z_iret hF hG hr hlk hw dX8_digitsBehind_44
