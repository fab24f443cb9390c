/-! toss of the class; L_element of the law -/
theorem hS_yX1_fail : yX1_fail.cls ≠ "java/lang/invoke/MethodHandle" ∧ yX1_fail.cls ≠ "java/lang/invoke/VarHandle" ∧ (parseMethodDescriptor yX1_fail.desc).map (fun d => d.parameters.length) = some 1 := by decide +kernel
abbrev ztR : Room := { frames := 7, cells := 1, slots := 6, locals := 102 }

set_option maxHeartbeats 4000000 in
theorem kX11_toss (l : Launch) (hfl : l.flags = flags0) (E : zE) (Z : zS) (a1 : Int32) {K : Int32 → zS → Prop} (hw : wX11_sortRefusal a1 Z (fun r Z1 => (r = 0 → vp_in a1 8 ∧ zKi (Z1 (60 + a1.toNatClampNeg) 1) ∧ K (vToss (Z1 (60 + a1.toNatClampNeg) 1) (Z1 (60 + a1.toNatClampNeg) 2)) Z1) ∧ (¬ r = 0 → K r Z1))) (sz : Nat) : Met l yX11_toss wsX11_toss ztR (va_Pc [.ref (E.2.1 96), .int a1] (zPreX E Z sz)) (va_Qi K (zB E) (zA E sz)) 1 6 (zA E sz) := by
  refine zx_bodyW (cc := cX11_toss) (nL := 6) (ret := some .int) (hh := [(33, 41, 42, 380), (33, 41, 47, 373), (33, 41, 55, 400)]) (by decide) rfl (Nat.le_of_ble_eq_true rfl) ?_
  intro p e R s m args below meth c ls hfr hlo hce hsl hF hX hr hlk htab hsz hG hl
  subst hsz
  have hx := hF.1.1
  have hb := hF.1.2.1
  have hown := hF.1.2.2.2.1
  have hts := hF.1.2.2.2.2
  have in6 : ∀ w ∈ u_ws RX6 TX6 6, w ∈ wsX11_toss := fun _ h => List.mem_cons_of_mem _ (List.mem_append_left _ (List.mem_append_left _ (List.mem_append_left _ (List.mem_append_right _ h))))
  have in11 : ∀ w ∈ u_ws RX11 TX11 11, w ∈ wsX11_toss := fun _ h => List.mem_cons_of_mem _ (List.mem_append_left _ (List.mem_append_left _ (List.mem_append_left _ (List.mem_append_left _ (List.mem_append_right _ h)))))
  have hl : lv_has ls 6 [(0, .ref (E.2.1 96)), (1, .int a1)] := hl
  refine lv_aload_n hx hb dX11_toss_0 rfl (lv_at hl 0 rfl) ?_
  refine lv_iload_n hx hb dX11_toss_1 rfl (lv_at hl 1 rfl) ?_
  refine z_ci (va_runV (rest := []) hF.1 (kX11_sortRefusal l E Z a1 hw _) (cwV 1 hts gX11_toss_X11_sortRefusal rfl rfl rfl ⟨rfl, hS_yX11_sortRefusal⟩ ⟨Nat.le_trans (Nat.le_of_ble_eq_true rfl) hfr, Nat.le_trans (Nat.le_of_ble_eq_true rfl) hlo⟩) (z_preV hF hG 96 (by decide) z_gs rfl) rfl rfl hl.1 rfl (lv_room (Nat.le_of_ble_eq_true rfl)) dX11_toss_2 ⟨Nat.zero_le _, Nat.zero_le _⟩) hG (fun r2 Z1 H locs hw hG => ?_)
  refine lv_istore_n (lv' := [(2, .int r2), (0, .ref (E.2.1 96)), (1, .int a1)]) hx hb dX11_toss_5 rfl hl (by decide) rfl (fun ls hl => ?_)
  refine lv_iload_n hx hb dX11_toss_6 rfl (lv_at hl 0 rfl) ?_
  refine lv_if_eq (tgt := 12) hx hb dX11_toss_7 (by decide) (fun c3 => ?_) (fun c3 => ?_)
  · obtain ⟨q4, hki, hw⟩ := hw.1 c3
    refine lv_aload_n hx hb dX11_toss_12 rfl (lv_at hl 1 rfl) ?_
    refine z_get hF hG 96 (by decide) z_gs rfl in11 5 (by decide) (List.mem_of_getElem? (i := 4) rfl) rfl rfl dX11_toss_13 ?_
    refine lv_iload_n hx hb dX11_toss_16 rfl (lv_at hl 2 rfl) ?_
    refine z_aald hF hG 91 2 (by decide) z_shelves rfl q4 rfl dX11_toss_17 ?_
    refine z_get (v := .ref (E.2.1 (84 + ((Z1 (60 + (a1 : Int32).toNatClampNeg) 1) : Int32).toNatClampNeg))) hF hG (60 + (a1 : Int32).toNatClampNeg) (zc_sh (z_ib q4)) (z_sh (z_ib q4)) rfl in6 1 (by decide) (List.mem_of_getElem? (i := 5) rfl) rfl rfl dX11_toss_18 ?_
    generalize hkd : Z1 (60 + (a1 : Int32).toNatClampNeg) 1 = kd at hki hw ⊢
    refine lv_astore_n (lv' := [(3, .ref (E.2.1 (84 + kd.toNatClampNeg))), (2, .int r2), (0, .ref (E.2.1 96)), (1, .int a1)]) hx hb dX11_toss_21 rfl hl (by decide) rfl (fun ls hl => ?_)
    refine lv_aload_n hx hb dX11_toss_22 rfl (lv_at hl 2 rfl) ?_
    refine z_get hF hG 96 (by decide) z_gs rfl in11 5 (by decide) (List.mem_of_getElem? (i := 4) rfl) rfl rfl dX11_toss_23 ?_
    refine lv_iload_n hx hb dX11_toss_26 rfl (lv_at hl 3 rfl) ?_
    refine z_aald hF hG 91 2 (by decide) z_shelves rfl q4 rfl dX11_toss_27 ?_
    refine z_get hF hG (60 + (a1 : Int32).toNatClampNeg) (zc_sh (z_ib q4)) (z_sh (z_ib q4)) rfl in6 2 (by decide) (List.mem_of_getElem? (i := 6) rfl) rfl rfl dX11_toss_28 ?_
    generalize hfg : Z1 (60 + (a1 : Int32).toNatClampNeg) 2 = fg at hw ⊢
    refine lv_istore (lv' := [(4, .int fg), (3, .ref (E.2.1 (84 + kd.toNatClampNeg))), (2, .int r2), (0, .ref (E.2.1 96)), (1, .int a1)]) hx hb dX11_toss_31 hl (by decide) rfl (fun ls hl => ?_)
    refine lv_aload_n hx hb dX11_toss_33 rfl (lv_at hl 1 rfl) ?_
    refine lv_iload hx hb dX11_toss_34 (lv_at hl 0 rfl) ?_
    have hrun : vx_Run p l e R s m args below meth c H locs 0 0 1 6 (F0 m 36 ls [.int fg, .ref (E.2.1 (84 + kd.toNatClampNeg))]) [] (va_Qv (zfK kd fg Z1) (zB E) (zA E H.size) ([.ref (E.2.1 (84 + kd.toNatClampNeg)), .int fg] : List Value).toArray) (zXC E (zfX kd fg Z1) H.size) (zA E H.size) := by
      have hf9 : 0 + 1 ≤ R.cells ∧ 0 + 6 ≤ R.slots := ⟨by rw [Nat.zero_add]; exact hce, by rw [Nat.zero_add]; exact hsl⟩
      rcases (id hki : zKi kd) with h | h | h | h | h | h
      · exact vx_runV hF.1 (kX1_fail l hfl E Z1 _ kd fg h _) (cwV 1 hts gX11_toss_X1_fail rfl rfl rfl ⟨rfl, hS_yX1_fail⟩ ⟨Nat.le_trans (Nat.le_of_ble_eq_true rfl) hfr, Nat.le_trans (Nat.le_of_ble_eq_true rfl) hlo⟩) (zx_preV hF hX hG (84 + kd.toNatClampNeg) (zKi.lt hki) (z_k0 h) rfl) rfl rfl hl.1 rfl (lv_room (Nat.le_of_ble_eq_true rfl)) dX11_toss_36 hf9
      · exact zx_runU hF.1 (kX0_fail l hfl E Z1 _ kd fg (Or.inl h) _) (va_cwO 1 hts gX11_toss_X0_fail_u397X0 rfl rfl rfl (b0 := cX1_fail) (m0 := 2) (r0 := none) (List.mem_of_getElem? (i := 32) rfl) hS_yX1_fail ⟨Nat.le_trans (Nat.le_of_ble_eq_true rfl) hfr, Nat.le_trans (Nat.le_of_ble_eq_true rfl) hlo⟩) (zx_preV hF hX hG (84 + kd.toNatClampNeg) (zKi.lt hki) (z_k1 h) rfl) rfl rfl hl.1 rfl (lv_room (Nat.le_of_ble_eq_true rfl)) dX11_toss_36 hf9
      · exact zx_runU hF.1 (kX4_fail l E Z1 _ kd fg h _) (va_cwO 1 hts gX11_toss_X4_fail_u397X4 rfl rfl rfl (b0 := cX1_fail) (m0 := 2) (r0 := none) (List.mem_of_getElem? (i := 32) rfl) hS_yX1_fail ⟨Nat.le_trans (Nat.le_of_ble_eq_true rfl) hfr, Nat.le_trans (Nat.le_of_ble_eq_true rfl) hlo⟩) (zx_preV hF hX hG (84 + kd.toNatClampNeg) (zKi.lt hki) (z_k2 h) rfl) rfl rfl hl.1 rfl (lv_room (Nat.le_of_ble_eq_true rfl)) dX11_toss_36 hf9
      · exact zx_runU hF.1 (kX0_fail l hfl E Z1 _ kd fg (Or.inr (Or.inl h)) _) (va_cwO 1 hts gX11_toss_X0_fail_u397X7 rfl rfl rfl (b0 := cX1_fail) (m0 := 2) (r0 := none) (List.mem_of_getElem? (i := 32) rfl) hS_yX1_fail ⟨Nat.le_trans (Nat.le_of_ble_eq_true rfl) hfr, Nat.le_trans (Nat.le_of_ble_eq_true rfl) hlo⟩) (zx_preV hF hX hG (84 + kd.toNatClampNeg) (zKi.lt hki) (z_k3 h) rfl) rfl rfl hl.1 rfl (lv_room (Nat.le_of_ble_eq_true rfl)) dX11_toss_36 hf9
      · exact zx_runU hF.1 (kX0_fail l hfl E Z1 _ kd fg (Or.inr (Or.inr h)) _) (va_cwO 1 hts gX11_toss_X0_fail_u397X2 rfl rfl rfl (b0 := cX1_fail) (m0 := 2) (r0 := none) (List.mem_of_getElem? (i := 32) rfl) hS_yX1_fail ⟨Nat.le_trans (Nat.le_of_ble_eq_true rfl) hfr, Nat.le_trans (Nat.le_of_ble_eq_true rfl) hlo⟩) (zx_preV hF hX hG (84 + kd.toNatClampNeg) (zKi.lt hki) (z_k4 h) rfl) rfl rfl hl.1 rfl (lv_room (Nat.le_of_ble_eq_true rfl)) dX11_toss_36 hf9
      · exact zx_runU hF.1 (kX9_fail l hfl E Z1 _ kd fg h _) (va_cwO 1 hts gX11_toss_X9_fail_u397X9 rfl rfl rfl (b0 := cX1_fail) (m0 := 2) (r0 := none) (List.mem_of_getElem? (i := 32) rfl) hS_yX1_fail ⟨Nat.le_trans (Nat.le_of_ble_eq_true rfl) hfr, Nat.le_trans (Nat.le_of_ble_eq_true rfl) hlo⟩) (zx_preV hF hX hG (84 + kd.toNatClampNeg) (zKi.lt hki) (z_k5 h) rfl) rfl rfl hl.1 rfl (lv_room (Nat.le_of_ble_eq_true rfl)) dX11_toss_36 hf9
    refine zx_cv hrun hG (fun nm ce q9 Z2 H locs hk hG h1 h2 h3 => ?_) (fun Z2 H locs hk hG => ?_)
    · obtain ⟨eZ, f0, hk⟩ := hk
      rw [eZ] at hG
      have cl0 := hts _ (List.mem_of_getElem? (i := 1) rfl)
      have cl1 := hts _ (List.mem_of_getElem? (i := 2) rfl)
      have cl2 := hts _ (List.mem_of_getElem? (i := 3) rfl)
      have hcs := hX.2.2.1.use args
      obtain ⟨n1, n2, n3, n4⟩ := hX.2.2.2.1
      rcases hk with ⟨k0, rfl⟩ | ⟨k0, rfl⟩ | ⟨k0, rfl⟩
      · refine vx_catch (pc := 36) hown [] ⟨33, 41, 42, 380⟩ [⟨33, 41, 47, 373⟩, ⟨33, 41, 55, 400⟩] htab (fun _ h => absurd h List.not_mem_nil) rfl (by decide) cl0 (hcs _ (List.mem_of_getElem? (i := 7) rfl)) h1 h2 h3 ?_
        refine lv_astore (lv' := [(5, .ref q9), (4, .int fg), (3, .ref (E.2.1 (84 + kd.toNatClampNeg))), (2, .int r2), (0, .ref (E.2.1 96)), (1, .int a1)]) hx hb dX11_toss_42 hl (by decide) rfl (fun ls hl => ?_)
        refine lv_iload hx hb dX11_toss_44 (lv_at hl 1 rfl) ?_
        refine zx_iret hF hG hr hlk (Nat.le_refl _) (Nat.le_refl _) ?_ dX11_toss_46
        have e : vToss kd fg = fg := by unfold vToss; rw [if_neg f0, k0, if_neg (by decide), if_pos rfl]
        rw [e] at hw; exact hw
      · refine vx_catch (pc := 36) hown [⟨33, 41, 42, 380⟩] ⟨33, 41, 47, 373⟩ [⟨33, 41, 55, 400⟩] htab (List.forall_mem_cons.mpr ⟨Or.inr ⟨by decide, zISE, cl0, n1⟩, fun _ h => absurd h List.not_mem_nil⟩) rfl (by decide) cl1 (hcs _ (List.mem_of_getElem? (i := 6) rfl)) h1 h2 h3 ?_
        refine lv_astore (lv' := [(5, .ref q9), (4, .int fg), (3, .ref (E.2.1 (84 + kd.toNatClampNeg))), (2, .int r2), (0, .ref (E.2.1 96)), (1, .int a1)]) hx hb dX11_toss_47 hl (by decide) rfl (fun ls hl => ?_)
        refine lv_bipush (v := 100) hx hb dX11_toss_49 (by decide) ?_
        refine lv_iload hx hb dX11_toss_51 (lv_at hl 1 rfl) ?_
        refine lv_iadd hx hb dX11_toss_53 ?_
        refine zx_iret hF hG hr hlk (Nat.le_refl _) (Nat.le_refl _) ?_ dX11_toss_54
        have e : vToss kd fg = 100 + fg := by
          unfold vToss
          rcases k0 with k0 | k0 | k0 <;> rw [if_neg f0, k0, if_neg (by decide), if_neg (by decide), if_neg (by decide)]
        rw [e] at hw; exact hw
      · refine vx_catch (pc := 36) hown [⟨33, 41, 42, 380⟩, ⟨33, 41, 47, 373⟩] ⟨33, 41, 55, 400⟩ [] htab (List.forall_mem_cons.mpr ⟨Or.inr ⟨by decide, zISE, cl0, n2⟩, List.forall_mem_cons.mpr ⟨Or.inr ⟨by decide, zIAE, cl1, n3⟩, fun _ h => absurd h List.not_mem_nil⟩⟩) rfl (by decide) cl2 (hcs _ (List.mem_of_getElem? (i := 8) rfl)) h1 h2 h3 ?_
        refine lv_astore (lv' := [(5, .ref q9), (4, .int fg), (3, .ref (E.2.1 (84 + kd.toNatClampNeg))), (2, .int r2), (0, .ref (E.2.1 96)), (1, .int a1)]) hx hb dX11_toss_55 hl (by decide) rfl (fun ls hl => ?_)
        refine lv_sipush (v := 200) hx hb dX11_toss_57 (by decide) ?_
        refine lv_aload_n hx hb dX11_toss_60 rfl (lv_at hl 2 rfl) ?_
        refine lv_iload hx hb dX11_toss_61 (lv_at hl 1 rfl) ?_
        have hw9 : wX9_worth kd fg Z1 (fun r Z3 => r = 2 * fg + 1 ∧ Z3 = Z1) := ⟨hki, rfl, rfl⟩
        refine z_ci (va_runU (rest := [.int 200]) hF.1 (kX9_worth l E Z1 kd fg hw9 _) (va_cwO 1 hts gX11_toss_X9_worth_u394X9 rfl rfl rfl (b0 := cX1_worth) (m0 := 2) (r0 := (some .int)) (List.mem_of_getElem? (i := 57) rfl) hS_yX1_worth ⟨Nat.le_trans (Nat.le_of_ble_eq_true rfl) hfr, Nat.le_trans (Nat.le_of_ble_eq_true rfl) hlo⟩) (z_preV hF hG (84 + kd.toNatClampNeg) (zKi.lt hki) (z_k5 k0) rfl) rfl rfl hl.1 rfl (lv_room (Nat.le_of_ble_eq_true rfl)) dX11_toss_63 ⟨hce, hsl⟩) hG (fun r7 Z3 H locs hw7 hG => ?_)
        obtain ⟨e7, eZ3⟩ := hw7
        rw [e7]
        rw [eZ3] at hG
        refine lv_iadd hx hb dX11_toss_66 ?_
        refine zx_iret hF hG hr hlk (Nat.le_refl _) (Nat.le_refl _) ?_ dX11_toss_67
        have e : vToss kd fg = 200 + (2 * fg + 1) := by unfold vToss; rw [if_neg f0, k0, if_neg (by decide), if_neg (by decide), if_pos rfl]
        rw [e] at hw; exact hw
    · obtain ⟨eZ, hk⟩ := hk
      rw [eZ] at hG
      refine lv_bipush (v := (-15)) hx hb dX11_toss_39 (by decide) ?_
      refine zx_iret hF hG hr hlk (Nat.le_refl _) (Nat.le_refl _) ?_ dX11_toss_41
      have e : vToss kd fg = -15 := by
        unfold vToss
        rcases hk with h | h
        · rw [if_pos h]
        · by_cases f0 : fg = 0
          · rw [if_pos f0]
          · rw [if_neg f0, if_pos h]
      rw [e] at hw; exact hw
  · replace hw := hw.2 c3
    refine lv_iload_n hx hb dX11_toss_10 rfl (lv_at hl 0 rfl) ?_
    exact zx_iret hF hG hr hlk (Nat.zero_le _) (Nat.zero_le _) hw dX11_toss_11
