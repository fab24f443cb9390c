/-! the constructor of the class -/
theorem n_lt8 {s : Nat} (h : s ≤ 8) : (nI s ≥ 8) ↔ s = 8 := by
  have : ∀ s : Fin 9, (nI s.val ≥ 8) ↔ s.val = 8 := by decide +kernel
  exact this ⟨s, by omega⟩
theorem n_lt4 {s : Nat} (h : s ≤ 4) : (nI s ≥ 4) ↔ s = 4 := by
  have : ∀ s : Fin 5, (nI s.val ≥ 4) ↔ s.val = 4 := by decide +kernel
  exact this ⟨s, by omega⟩
abbrev nO (b k0 k1 k2 k3 k5 k6 k7 k8 k9 : Nat) : va_E := .inr (10, [.ref (b + k0), .ref (b + k1), .ref (b + k2), .ref (b + k3), .int 0, .ref (b + k5), .ref (b + k6), .ref (b + k7), .ref (b + k8), .ref (b + k9), .int 0])
set_option maxHeartbeats 8000000 in
theorem kX11_init (l : Launch) (D : va_G) (b : Nat) (ct : Nat → ClassId) (en : Nat → va_E) (he : en 0 = .inr (10, [.null, .null, .null, .null, .int 0, .null, .null, .null, .null, .null, .int 0])) : nM l yX11_init wsX11_init ({ frames := 4, cells := 96, slots := 1632, locals := 78 } : Room) (nE D b ct) b 1 en [.ref (b + 0)] 97 (fun en1 => ∀ j, j < 97 → en1 j = fin D b ct j) 96 1632 := by
  refine n_body (cc := cX11_init) (nL := 5) (by decide) rfl rfl (Nat.le_of_ble_eq_true rfl) ?_
  intro p e R s m args below meth c ls hfr hlo hce hsl hF hr hlk hnm hsz hG hl
  have hx := hF.1.1
  have hb := hF.1.2.1
  have hts := hF.1.2.2.2.2
  have hl : lv_has ls 5 [(0, .ref (b + 0))] := hl
  have in1 : ∀ w ∈ u_ws RX1 TX1 2, w ∈ wsX11_init := fun _ h => List.mem_cons_of_mem _ (List.mem_append_left _ (List.mem_append_left _ (List.mem_append_left _ (List.mem_append_left _ (List.mem_append_left _ (List.mem_append_left _ (List.mem_append_left _ (List.mem_append_left _ (List.mem_append_left _ (List.mem_append_left _ (List.mem_append_right _ h)))))))))))
  have in0 : ∀ w ∈ u_ws RX0 TX0 2, w ∈ wsX11_init := fun _ h => List.mem_cons_of_mem _ (List.mem_append_left _ (List.mem_append_left _ (List.mem_append_left _ (List.mem_append_left _ (List.mem_append_left _ (List.mem_append_left _ (List.mem_append_left _ (List.mem_append_left _ (List.mem_append_left _ (List.mem_append_right _ h))))))))))
  have in4 : ∀ w ∈ u_ws RX4 TX4 2, w ∈ wsX11_init := fun _ h => List.mem_cons_of_mem _ (List.mem_append_left _ (List.mem_append_left _ (List.mem_append_left _ (List.mem_append_left _ (List.mem_append_left _ (List.mem_append_left _ (List.mem_append_left _ (List.mem_append_left _ (List.mem_append_right _ h)))))))))
  have in7 : ∀ w ∈ u_ws RX7 TX7 2, w ∈ wsX11_init := fun _ h => List.mem_cons_of_mem _ (List.mem_append_left _ (List.mem_append_left _ (List.mem_append_left _ (List.mem_append_left _ (List.mem_append_left _ (List.mem_append_left _ (List.mem_append_left _ (List.mem_append_right _ h))))))))
  have in2 : ∀ w ∈ u_ws RX2 TX2 2, w ∈ wsX11_init := fun _ h => List.mem_cons_of_mem _ (List.mem_append_left _ (List.mem_append_left _ (List.mem_append_left _ (List.mem_append_left _ (List.mem_append_left _ (List.mem_append_left _ (List.mem_append_right _ h)))))))
  have in9 : ∀ w ∈ u_ws RX9 TX9 2, w ∈ wsX11_init := fun _ h => List.mem_cons_of_mem _ (List.mem_append_left _ (List.mem_append_left _ (List.mem_append_left _ (List.mem_append_left _ (List.mem_append_left _ (List.mem_append_right _ h))))))
  have in11 : ∀ w ∈ u_ws RX11 TX11 11, w ∈ wsX11_init := fun _ h => List.mem_cons_of_mem _ (List.mem_append_left _ (List.mem_append_left _ (List.mem_append_left _ (List.mem_append_left _ (List.mem_append_right _ h)))))
  have in3 : ∀ w ∈ u_ws RX3 TX3 5, w ∈ wsX11_init := fun _ h => List.mem_cons_of_mem _ (List.mem_append_left _ (List.mem_append_left _ (List.mem_append_left _ (List.mem_append_right _ h))))
  have in6 : ∀ w ∈ u_ws RX6 TX6 6, w ∈ wsX11_init := fun _ h => List.mem_cons_of_mem _ (List.mem_append_left _ (List.mem_append_left _ (List.mem_append_right _ h)))
  have in10 : ∀ w ∈ u_ws RX10 TX10 4, w ∈ wsX11_init := fun _ h => List.mem_cons_of_mem _ (List.mem_append_left _ (List.mem_append_right _ h))
  have in5 : ∀ w ∈ u_ws RX5 TX5 15, w ∈ wsX11_init := fun _ h => List.mem_cons_of_mem _ (List.mem_append_right _ h)
  have hf : fF D b ct 0 1 en _ := ⟨he, fun j j1 j2 _ => by omega⟩
  refine lv_aload_n hx hb dX11_init_0 rfl (lv_at hl 0 rfl) ?_
  refine n_obj hF hl.1 (List.mem_of_getElem? (i := 1) rfl) (List.mem_of_getElem? (i := 2) rfl) (List.mem_of_getElem? (i := 3) rfl) (Nat.le_trans (Nat.le_of_ble_eq_true rfl) hfr) (Nat.le_trans (Nat.le_of_ble_eq_true rfl) hlo) dX11_init_1 ?_
  refine n_new (fs := [.int 0, .null]) (ci := 1) hF hG (by omega) in1 tyX1 tyX1_ok (List.mem_of_getElem? (i := 4) rfl) (List.mem_of_getElem? (i := 5) rfl) (List.mem_of_getElem? (i := 6) rfl) rfl (by decide +kernel) (Nat.le_trans (Nat.le_of_ble_eq_true rfl) hce) (Nat.le_trans (Nat.le_of_ble_eq_true rfl) hsl) dX11_init_4 (fun H hG => ?_)
  refine lv_dup hx hb dX11_init_7 rfl ?_
  refine lv_iconst (v := 0) hx hb dX11_init_8 (by decide) ?_
  refine lv_null hx hb dX11_init_9 ?_
  refine n_call hG (by omega) (fun hz => va_runI (As := [.int 0, .null]) (rest := [.ref (b + 1)]) hF.1 (kX1_init_X1N l (nE D b ct) b 2 _ 1 0 (by decide) (va_up_s _ _ _)) (cwI 2 hts gX11_init_X1_init rfl rfl rfl (hts _ (List.mem_of_getElem? (i := 6) rfl)) (hts _ (List.mem_of_getElem? (i := 41) rfl)) (hts _ (List.mem_of_getElem? (i := 42) rfl)) rfl (by decide +kernel) ⟨Nat.le_trans (Nat.le_of_ble_eq_true rfl) hfr, Nat.le_trans (Nat.le_of_ble_eq_true rfl) hlo⟩) (n_pre hF hG hz) rfl rfl hl.1 rfl (lv_room (Nat.le_of_ble_eq_true rfl)) dX11_init_10 ⟨Nat.le_trans (Nat.le_of_ble_eq_true rfl) hce, Nat.le_trans (Nat.le_of_ble_eq_true rfl) hsl⟩) (fun en1 H locs hk1 hG => ?_)
  have hf := (hf.mk (by decide) (by decide) hk1 rfl).1
  refine lv_astore_n (lv' := [(1, .ref (b + 1)), (0, .ref (b + 0))]) hx hb dX11_init_13 rfl hl (by decide) rfl (fun ls hl => ?_)
  refine n_new (fs := [.int 0, .null]) (ci := 0) hF hG (by omega) in0 tyX0 tyX0_ok (List.mem_of_getElem? (i := 7) rfl) (List.mem_of_getElem? (i := 8) rfl) (List.mem_of_getElem? (i := 9) rfl) rfl (by decide +kernel) (Nat.le_trans (Nat.le_of_ble_eq_true rfl) hce) (Nat.le_trans (Nat.le_of_ble_eq_true rfl) hsl) dX11_init_14 (fun H hG => ?_)
  refine lv_dup hx hb dX11_init_17 rfl ?_
  refine lv_iconst (v := 1) hx hb dX11_init_18 (by decide) ?_
  refine lv_aload_n hx hb dX11_init_19 rfl (lv_at hl 0 rfl) ?_
  refine n_call hG (by omega) (fun hz => va_runI (As := [.int 1, .ref (b + 1)]) (rest := [.ref (b + 2)]) hF.1 (kX0_init_X0 l (nE D b ct) b 3 _ 2 1 (b + 1) (by decide) (va_up_s _ _ _)) (cwI 2 hts gX11_init_X0_init rfl rfl rfl (hts _ (List.mem_of_getElem? (i := 9) rfl)) (hts _ (List.mem_of_getElem? (i := 47) rfl)) (hts _ (List.mem_of_getElem? (i := 48) rfl)) rfl (by decide +kernel) ⟨Nat.le_trans (Nat.le_of_ble_eq_true rfl) hfr, Nat.le_trans (Nat.le_of_ble_eq_true rfl) hlo⟩) (n_pre hF hG hz) rfl rfl hl.1 rfl (lv_room (Nat.le_of_ble_eq_true rfl)) dX11_init_20 ⟨Nat.le_trans (Nat.le_of_ble_eq_true rfl) hce, Nat.le_trans (Nat.le_of_ble_eq_true rfl) hsl⟩) (fun en2 H locs hk1 hG => ?_)
  have hf := (hf.mk (by decide) (by decide) hk1 rfl).1
  refine lv_astore_n (lv' := [(2, .ref (b + 2)), (1, .ref (b + 1)), (0, .ref (b + 0))]) hx hb dX11_init_23 rfl hl (by decide) rfl (fun ls hl => ?_)
  refine n_new (fs := [.int 0, .null]) (ci := 4) hF hG (by omega) in4 tyX4 tyX4_ok (List.mem_of_getElem? (i := 10) rfl) (List.mem_of_getElem? (i := 11) rfl) (List.mem_of_getElem? (i := 12) rfl) rfl (by decide +kernel) (Nat.le_trans (Nat.le_of_ble_eq_true rfl) hce) (Nat.le_trans (Nat.le_of_ble_eq_true rfl) hsl) dX11_init_24 (fun H hG => ?_)
  refine lv_dup hx hb dX11_init_27 rfl ?_
  refine lv_iconst (v := 2) hx hb dX11_init_28 (by decide) ?_
  refine lv_aload_n hx hb dX11_init_29 rfl (lv_at hl 1 rfl) ?_
  refine n_call hG (by omega) (fun hz => va_runI (As := [.int 2, .ref (b + 1)]) (rest := [.ref (b + 3)]) hF.1 (kX4_init_X4 l (nE D b ct) b 4 _ 3 2 (b + 1) (by decide) (va_up_s _ _ _)) (cwI 2 hts gX11_init_X4_init rfl rfl rfl (hts _ (List.mem_of_getElem? (i := 12) rfl)) (hts _ (List.mem_of_getElem? (i := 51) rfl)) (hts _ (List.mem_of_getElem? (i := 52) rfl)) rfl (by decide +kernel) ⟨Nat.le_trans (Nat.le_of_ble_eq_true rfl) hfr, Nat.le_trans (Nat.le_of_ble_eq_true rfl) hlo⟩) (n_pre hF hG hz) rfl rfl hl.1 rfl (lv_room (Nat.le_of_ble_eq_true rfl)) dX11_init_30 ⟨Nat.le_trans (Nat.le_of_ble_eq_true rfl) hce, Nat.le_trans (Nat.le_of_ble_eq_true rfl) hsl⟩) (fun en3 H locs hk1 hG => ?_)
  have hf := (hf.mk (by decide) (by decide) hk1 rfl).1
  refine lv_astore_n (lv' := [(3, .ref (b + 3)), (2, .ref (b + 2)), (1, .ref (b + 1)), (0, .ref (b + 0))]) hx hb dX11_init_33 rfl hl (by decide) rfl (fun ls hl => ?_)
  refine lv_aload_n hx hb dX11_init_34 rfl (lv_at hl 3 rfl) ?_
  refine lv_bipush (v := 6) hx hb dX11_init_35 (by decide) ?_
  refine n_newq (N := 6) hF hG (by omega) 4 rfl (List.mem_of_getElem? (i := 4) rfl) hF.2.2.2.2.2.1 (by decide) (by decide) (by decide) (Nat.le_trans (Nat.le_of_ble_eq_true rfl) hce) (Nat.le_trans (Nat.le_of_ble_eq_true rfl) hsl) dX11_init_37 (fun H hG => ?_)
  obtain ⟨enA, hA⟩ : ∃ z, z = va_up en3 4 (.inl (ct 4, 6, .inr (.inr (.inr (.inr (fun _ => none)))))) := ⟨_, rfl⟩
  have hG : nG (nE D b ct) b 5 enA s H locs := by rw [hA]; exact hG
  obtain ⟨hf, hk4⟩ := hf.opn (by decide) hA
  refine lv_dup hx hb dX11_init_40 rfl ?_
  refine lv_iconst (v := 0) hx hb dX11_init_41 (by decide) ?_
  refine lv_aload_n hx hb dX11_init_42 rfl (lv_at hl 2 rfl) ?_
  refine n_astq hF hG 4 4 1 1 (by decide) (by decide) hk4 rfl (hf.2 1 (by decide) (by decide) (by decide)) rfl (vp_in_nI (n := 0) (by decide) (by decide)) dX11_init_43 (fun H locs hG => ?_)
  obtain ⟨enB0, hA⟩ : ∃ z, z = va_up enA 4 (.inl (ct 4, 6, .inr (.inr (.inr (.inr (va_up (fun _ => none) (0 : Int32).toNatClampNeg (some (b + 1)))))))) := ⟨_, rfl⟩
  have hG : nG (nE D b ct) b 5 enB0 s H locs := by rw [hA]; exact hG
  obtain ⟨hf, hk4⟩ := hf.arr (by decide) hA
  refine lv_dup hx hb dX11_init_44 rfl ?_
  refine lv_iconst (v := 1) hx hb dX11_init_45 (by decide) ?_
  refine lv_aload_n hx hb dX11_init_46 rfl (lv_at hl 1 rfl) ?_
  refine n_astqO hF hG 4 4 2 0 (by decide) (by decide) hk4 rfl hF.2.2.2.2.2.2.1 (hf.2 2 (by decide) (by decide) (by decide)) rfl (vp_in_nI (n := 1) (by decide) (by decide)) dX11_init_47 (fun H locs hG => ?_)
  obtain ⟨enB1, hA⟩ : ∃ z, z = va_up enB0 4 (.inl (ct 4, 6, .inr (.inr (.inr (.inr (va_up (va_up (fun _ => none) (0 : Int32).toNatClampNeg (some (b + 1))) (1 : Int32).toNatClampNeg (some (b + 2)))))))) := ⟨_, rfl⟩
  have hG : nG (nE D b ct) b 5 enB1 s H locs := by rw [hA]; exact hG
  obtain ⟨hf, hk4⟩ := hf.arr (by decide) hA
  refine lv_dup hx hb dX11_init_48 rfl ?_
  refine lv_iconst (v := 2) hx hb dX11_init_49 (by decide) ?_
  refine lv_aload_n hx hb dX11_init_50 rfl (lv_at hl 0 rfl) ?_
  refine n_astqO hF hG 4 4 3 4 (by decide) (by decide) hk4 rfl hF.2.2.2.2.2.2.2.1 (hf.2 3 (by decide) (by decide) (by decide)) rfl (vp_in_nI (n := 2) (by decide) (by decide)) dX11_init_51 (fun H locs hG => ?_)
  obtain ⟨enB2, hA⟩ : ∃ z, z = va_up enB1 4 (.inl (ct 4, 6, .inr (.inr (.inr (.inr (va_up (va_up (va_up (fun _ => none) (0 : Int32).toNatClampNeg (some (b + 1))) (1 : Int32).toNatClampNeg (some (b + 2))) (2 : Int32).toNatClampNeg (some (b + 3)))))))) := ⟨_, rfl⟩
  have hG : nG (nE D b ct) b 5 enB2 s H locs := by rw [hA]; exact hG
  obtain ⟨hf, hk4⟩ := hf.arr (by decide) hA
  refine lv_dup hx hb dX11_init_52 rfl ?_
  refine lv_iconst (v := 3) hx hb dX11_init_53 (by decide) ?_
  refine n_new (fs := [.int 0, .null]) (ci := 7) hF hG (by omega) in7 tyX7 tyX7_ok (List.mem_of_getElem? (i := 13) rfl) (List.mem_of_getElem? (i := 14) rfl) (List.mem_of_getElem? (i := 15) rfl) rfl (by decide +kernel) (Nat.le_trans (Nat.le_of_ble_eq_true rfl) hce) (Nat.le_trans (Nat.le_of_ble_eq_true rfl) hsl) dX11_init_54 (fun H hG => ?_)
  refine lv_dup hx hb dX11_init_57 rfl ?_
  refine lv_iconst (v := 3) hx hb dX11_init_58 (by decide) ?_
  refine lv_aload_n hx hb dX11_init_59 rfl (lv_at hl 1 rfl) ?_
  refine n_call hG (by omega) (fun hz => va_runI (As := [.int 3, .ref (b + 2)]) (rest := [.ref (b + 5), .int 3, .ref (b + 4), .ref (b + 4), .ref (b + 0)]) hF.1 (kX7_init_X7 l (nE D b ct) b 6 _ 5 3 (b + 2) (by decide) (va_up_s _ _ _)) (cwI 2 hts gX11_init_X7_init rfl rfl rfl (hts _ (List.mem_of_getElem? (i := 15) rfl)) (hts _ (List.mem_of_getElem? (i := 55) rfl)) (hts _ (List.mem_of_getElem? (i := 56) rfl)) rfl (by decide +kernel) ⟨Nat.le_trans (Nat.le_of_ble_eq_true rfl) hfr, Nat.le_trans (Nat.le_of_ble_eq_true rfl) hlo⟩) (n_pre hF hG hz) rfl rfl hl.1 rfl (lv_room (Nat.le_of_ble_eq_true rfl)) dX11_init_60 ⟨Nat.le_trans (Nat.le_of_ble_eq_true rfl) hce, Nat.le_trans (Nat.le_of_ble_eq_true rfl) hsl⟩) (fun en4 H locs hk1 hG => ?_)
  obtain ⟨hf, h4e⟩ := hf.mk (by decide) (by decide) hk1 rfl
  have hk4 := h4e.trans hk4
  refine n_astqO hF hG 4 4 5 7 (by decide) (by decide) hk4 rfl hF.2.2.2.2.2.2.2.2.1 (hf.2 5 (by decide) (by decide) (by decide)) rfl (vp_in_nI (n := 3) (by decide) (by decide)) dX11_init_63 (fun H locs hG => ?_)
  obtain ⟨enB3, hA⟩ : ∃ z, z = va_up en4 4 (.inl (ct 4, 6, .inr (.inr (.inr (.inr (va_up (va_up (va_up (va_up (fun _ => none) (0 : Int32).toNatClampNeg (some (b + 1))) (1 : Int32).toNatClampNeg (some (b + 2))) (2 : Int32).toNatClampNeg (some (b + 3))) (3 : Int32).toNatClampNeg (some (b + 5)))))))) := ⟨_, rfl⟩
  have hG : nG (nE D b ct) b 6 enB3 s H locs := by rw [hA]; exact hG
  obtain ⟨hf, hk4⟩ := hf.arr (by decide) hA
  refine lv_dup hx hb dX11_init_64 rfl ?_
  refine lv_iconst (v := 4) hx hb dX11_init_65 (by decide) ?_
  refine n_new (fs := [.int 0, .null]) (ci := 2) hF hG (by omega) in2 tyX2 tyX2_ok (List.mem_of_getElem? (i := 16) rfl) (List.mem_of_getElem? (i := 17) rfl) (List.mem_of_getElem? (i := 18) rfl) rfl (by decide +kernel) (Nat.le_trans (Nat.le_of_ble_eq_true rfl) hce) (Nat.le_trans (Nat.le_of_ble_eq_true rfl) hsl) dX11_init_66 (fun H hG => ?_)
  refine lv_dup hx hb dX11_init_69 rfl ?_
  refine lv_iconst (v := 4) hx hb dX11_init_70 (by decide) ?_
  refine lv_aload_n hx hb dX11_init_71 rfl (lv_at hl 1 rfl) ?_
  refine n_call hG (by omega) (fun hz => va_runI (As := [.int 4, .ref (b + 2)]) (rest := [.ref (b + 6), .int 4, .ref (b + 4), .ref (b + 4), .ref (b + 0)]) hF.1 (kX2_init_X2 l (nE D b ct) b 7 _ 6 4 (b + 2) (by decide) (va_up_s _ _ _)) (cwI 2 hts gX11_init_X2_init rfl rfl rfl (hts _ (List.mem_of_getElem? (i := 18) rfl)) (hts _ (List.mem_of_getElem? (i := 59) rfl)) (hts _ (List.mem_of_getElem? (i := 60) rfl)) rfl (by decide +kernel) ⟨Nat.le_trans (Nat.le_of_ble_eq_true rfl) hfr, Nat.le_trans (Nat.le_of_ble_eq_true rfl) hlo⟩) (n_pre hF hG hz) rfl rfl hl.1 rfl (lv_room (Nat.le_of_ble_eq_true rfl)) dX11_init_72 ⟨Nat.le_trans (Nat.le_of_ble_eq_true rfl) hce, Nat.le_trans (Nat.le_of_ble_eq_true rfl) hsl⟩) (fun en5 H locs hk1 hG => ?_)
  obtain ⟨hf, h4e⟩ := hf.mk (by decide) (by decide) hk1 rfl
  have hk4 := h4e.trans hk4
  refine n_astqO hF hG 4 4 6 2 (by decide) (by decide) hk4 rfl hF.2.2.2.2.2.2.2.2.2.1 (hf.2 6 (by decide) (by decide) (by decide)) rfl (vp_in_nI (n := 4) (by decide) (by decide)) dX11_init_75 (fun H locs hG => ?_)
  obtain ⟨enB4, hA⟩ : ∃ z, z = va_up en5 4 (.inl (ct 4, 6, .inr (.inr (.inr (.inr (va_up (va_up (va_up (va_up (va_up (fun _ => none) (0 : Int32).toNatClampNeg (some (b + 1))) (1 : Int32).toNatClampNeg (some (b + 2))) (2 : Int32).toNatClampNeg (some (b + 3))) (3 : Int32).toNatClampNeg (some (b + 5))) (4 : Int32).toNatClampNeg (some (b + 6)))))))) := ⟨_, rfl⟩
  have hG : nG (nE D b ct) b 7 enB4 s H locs := by rw [hA]; exact hG
  obtain ⟨hf, hk4⟩ := hf.arr (by decide) hA
  refine lv_dup hx hb dX11_init_76 rfl ?_
  refine lv_iconst (v := 5) hx hb dX11_init_77 (by decide) ?_
  refine n_new (fs := [.int 0, .null]) (ci := 8) hF hG (by omega) in9 tyX9 tyX9_ok (List.mem_of_getElem? (i := 19) rfl) (List.mem_of_getElem? (i := 20) rfl) (List.mem_of_getElem? (i := 21) rfl) rfl (by decide +kernel) (Nat.le_trans (Nat.le_of_ble_eq_true rfl) hce) (Nat.le_trans (Nat.le_of_ble_eq_true rfl) hsl) dX11_init_78 (fun H hG => ?_)
  refine lv_dup hx hb dX11_init_81 rfl ?_
  refine lv_iconst (v := 5) hx hb dX11_init_82 (by decide) ?_
  refine lv_aload_n hx hb dX11_init_83 rfl (lv_at hl 0 rfl) ?_
  refine n_call hG (by omega) (fun hz => va_runI (As := [.int 5, .ref (b + 3)]) (rest := [.ref (b + 7), .int 5, .ref (b + 4), .ref (b + 4), .ref (b + 0)]) hF.1 (kX9_init_X9 l (nE D b ct) b 8 _ 7 5 (b + 3) (by decide) (va_up_s _ _ _)) (cwI 2 hts gX11_init_X9_init rfl rfl rfl (hts _ (List.mem_of_getElem? (i := 21) rfl)) (hts _ (List.mem_of_getElem? (i := 63) rfl)) (hts _ (List.mem_of_getElem? (i := 64) rfl)) rfl (by decide +kernel) ⟨Nat.le_trans (Nat.le_of_ble_eq_true rfl) hfr, Nat.le_trans (Nat.le_of_ble_eq_true rfl) hlo⟩) (n_pre hF hG hz) rfl rfl hl.1 rfl (lv_room (Nat.le_of_ble_eq_true rfl)) dX11_init_84 ⟨Nat.le_trans (Nat.le_of_ble_eq_true rfl) hce, Nat.le_trans (Nat.le_of_ble_eq_true rfl) hsl⟩) (fun en6 H locs hk1 hG => ?_)
  obtain ⟨hf, h4e⟩ := hf.mk (by decide) (by decide) hk1 rfl
  have hk4 := h4e.trans hk4
  refine n_astqO hF hG 4 4 7 8 (by decide) (by decide) hk4 rfl hF.2.2.2.2.2.2.2.2.2.2 (hf.2 7 (by decide) (by decide) (by decide)) rfl (vp_in_nI (n := 5) (by decide) (by decide)) dX11_init_87 (fun H locs hG => ?_)
  obtain ⟨enB5, hA⟩ : ∃ z, z = va_up en6 4 (.inl (ct 4, 6, .inr (.inr (.inr (.inr (va_up (va_up (va_up (va_up (va_up (va_up (fun _ => none) (0 : Int32).toNatClampNeg (some (b + 1))) (1 : Int32).toNatClampNeg (some (b + 2))) (2 : Int32).toNatClampNeg (some (b + 3))) (3 : Int32).toNatClampNeg (some (b + 5))) (4 : Int32).toNatClampNeg (some (b + 6))) (5 : Int32).toNatClampNeg (some (b + 7)))))))) := ⟨_, rfl⟩
  have hG : nG (nE D b ct) b 8 enB5 s H locs := by rw [hA]; exact hG
  obtain ⟨hf, hk4⟩ := hf.arr (by decide) hA
  have hG := n_arr (g := fG b 84) hG 4 (by decide) hk4 (fun j hj => (fG_k j hj).symm)
  obtain ⟨enC, hA⟩ : ∃ z, z = va_up enB5 4 (.inl (ct 4, 6, .inr (.inr (.inr (.inr (fG b 84)))))) := ⟨_, rfl⟩
  have hG : nG (nE D b ct) b 8 enC s H locs := by rw [hA]; exact hG
  obtain ⟨hf, hk4⟩ := hf.arr (by decide) hA
  have hf := hf.cls (hk4.trans rfl)
  refine n_putF (ty := .array (.object "GreedyServers$Hard")) hF hG 0 (by omega) hf.1 rfl in11 tyX11_ok nmX11 0 (by decide) (List.mem_of_getElem? (i := 22) rfl) rfl rfl hnm rfl (by decide +kernel) rfl rfl (Nat.le_of_ble_eq_true rfl) dX11_init_88 (fun H locs hG => ?_)
  obtain ⟨enD0, hA⟩ : ∃ z, z = va_up enC 0 (.inr (10, [.ref (b + 4), .null, .null, .null, .int 0, .null, .null, .null, .null, .null, .int 0])) := ⟨_, rfl⟩
  have hG : nG (nE D b ct) b 8 enD0 s H locs := by rw [hA]; exact hG
  have hf := hf.obj hA
  refine lv_aload_n hx hb dX11_init_91 rfl (lv_at hl 3 rfl) ?_
  refine n_new (fs := [.null, .int 0, .int 0, .int 0, .int 0]) (ci := 3) hF hG (by omega) in3 tyX3 tyX3_ok (List.mem_of_getElem? (i := 23) rfl) (List.mem_of_getElem? (i := 24) rfl) (List.mem_of_getElem? (i := 25) rfl) rfl (by decide +kernel) (Nat.le_trans (Nat.le_of_ble_eq_true rfl) hce) (Nat.le_trans (Nat.le_of_ble_eq_true rfl) hsl) dX11_init_92 (fun H hG => ?_)
  refine lv_dup hx hb dX11_init_95 rfl ?_
  refine lv_aload_n hx hb dX11_init_96 rfl (lv_at hl 2 rfl) ?_
  refine n_call hG (by omega) (fun hz => va_runI (As := [.ref (b + 1)]) (rest := [.ref (b + 8), .ref (b + 0)]) hF.1 (kX3_init l (nE D b ct) b 9 _ 8 (b + 1) (by decide) (va_up_s _ _ _) (fGp b 0) (fGp_at (by decide))) (cwI 1 hts gX11_init_X3_init rfl rfl rfl (hts _ (List.mem_of_getElem? (i := 25) rfl)) (hts _ (List.mem_of_getElem? (i := 67) rfl)) (hts _ (List.mem_of_getElem? (i := 68) rfl)) rfl (by decide +kernel) ⟨Nat.le_trans (Nat.le_of_ble_eq_true rfl) hfr, Nat.le_trans (Nat.le_of_ble_eq_true rfl) hlo⟩) (n_pre hF hG hz) rfl rfl hl.1 rfl (lv_room (Nat.le_of_ble_eq_true rfl)) dX11_init_97 ⟨Nat.le_trans (Nat.le_of_ble_eq_true rfl) hce, Nat.le_trans (Nat.le_of_ble_eq_true rfl) hsl⟩) (fun en7 H locs hk1 hG => ?_)
  obtain ⟨g1, g2, g3, g4⟩ := hk1
  have hf : fF D b ct 0 28 en7 (.inr (10, [.ref (b + 4), .null, .null, .null, .int 0, .null, .null, .null, .null, .null, .int 0])) := fF.plant (p := 0) (en := va_up enD0 8 (.inr (3, [.null, .int 0, .int 0, .int 0, .int 0]))) ⟨by rw [va_up_n (by decide)]; exact hf.1, fun j j1 j2 j3 => by rw [va_up_n (by omega)]; exact hf.2 j j1 j2 j3⟩ (by decide) rfl g1 g2 g3 g4
  refine n_putF (ty := .object "GreedyServers$Plant") hF hG 0 (by omega) hf.1 rfl in11 tyX11_ok nmX11 1 (by decide) (List.mem_of_getElem? (i := 26) rfl) rfl rfl hnm rfl (by decide +kernel) rfl rfl (Nat.le_of_ble_eq_true rfl) dX11_init_100 (fun H locs hG => ?_)
  obtain ⟨enD1, hA⟩ : ∃ z, z = va_up en7 0 (.inr (10, [.ref (b + 4), .ref (b + 8), .null, .null, .int 0, .null, .null, .null, .null, .null, .int 0])) := ⟨_, rfl⟩
  have hG : nG (nE D b ct) b 28 enD1 s H locs := by rw [hA]; exact hG
  have hf := hf.obj hA
  refine lv_aload_n hx hb dX11_init_103 rfl (lv_at hl 3 rfl) ?_
  refine n_new (fs := [.null, .int 0, .int 0, .int 0, .int 0]) (ci := 3) hF hG (by omega) in3 tyX3 tyX3_ok (List.mem_of_getElem? (i := 23) rfl) (List.mem_of_getElem? (i := 24) rfl) (List.mem_of_getElem? (i := 25) rfl) rfl (by decide +kernel) (Nat.le_trans (Nat.le_of_ble_eq_true rfl) hce) (Nat.le_trans (Nat.le_of_ble_eq_true rfl) hsl) dX11_init_104 (fun H hG => ?_)
  refine lv_dup hx hb dX11_init_107 rfl ?_
  refine lv_aload_n hx hb dX11_init_108 rfl (lv_at hl 2 rfl) ?_
  refine n_call hG (by omega) (fun hz => va_runI (As := [.ref (b + 1)]) (rest := [.ref (b + 28), .ref (b + 0)]) hF.1 (kX3_init l (nE D b ct) b 29 _ 28 (b + 1) (by decide) (va_up_s _ _ _) (fGp b 1) (fGp_at (by decide))) (cwI 1 hts gX11_init_X3_init rfl rfl rfl (hts _ (List.mem_of_getElem? (i := 25) rfl)) (hts _ (List.mem_of_getElem? (i := 67) rfl)) (hts _ (List.mem_of_getElem? (i := 68) rfl)) rfl (by decide +kernel) ⟨Nat.le_trans (Nat.le_of_ble_eq_true rfl) hfr, Nat.le_trans (Nat.le_of_ble_eq_true rfl) hlo⟩) (n_pre hF hG hz) rfl rfl hl.1 rfl (lv_room (Nat.le_of_ble_eq_true rfl)) dX11_init_109 ⟨Nat.le_trans (Nat.le_of_ble_eq_true rfl) hce, Nat.le_trans (Nat.le_of_ble_eq_true rfl) hsl⟩) (fun en8 H locs hk1 hG => ?_)
  obtain ⟨g1, g2, g3, g4⟩ := hk1
  have hf : fF D b ct 0 48 en8 (.inr (10, [.ref (b + 4), .ref (b + 8), .null, .null, .int 0, .null, .null, .null, .null, .null, .int 0])) := fF.plant (p := 1) (en := va_up enD1 28 (.inr (3, [.null, .int 0, .int 0, .int 0, .int 0]))) ⟨by rw [va_up_n (by decide)]; exact hf.1, fun j j1 j2 j3 => by rw [va_up_n (by omega)]; exact hf.2 j j1 j2 j3⟩ (by decide) rfl g1 g2 g3 g4
  refine n_putF (ty := .object "GreedyServers$Plant") hF hG 0 (by omega) hf.1 rfl in11 tyX11_ok nmX11 2 (by decide) (List.mem_of_getElem? (i := 27) rfl) rfl rfl hnm rfl (by decide +kernel) rfl rfl (Nat.le_of_ble_eq_true rfl) dX11_init_112 (fun H locs hG => ?_)
  obtain ⟨enD2, hA⟩ : ∃ z, z = va_up en8 0 (.inr (10, [.ref (b + 4), .ref (b + 8), .ref (b + 28), .null, .int 0, .null, .null, .null, .null, .null, .int 0])) := ⟨_, rfl⟩
  have hG : nG (nE D b ct) b 48 enD2 s H locs := by rw [hA]; exact hG
  have hf := hf.obj hA
  refine lv_aload_n hx hb dX11_init_115 rfl (lv_at hl 3 rfl) ?_
  refine n_new (fs := [.null, .int 0, .int 0, .int 0, .int 0]) (ci := 3) hF hG (by omega) in3 tyX3 tyX3_ok (List.mem_of_getElem? (i := 23) rfl) (List.mem_of_getElem? (i := 24) rfl) (List.mem_of_getElem? (i := 25) rfl) rfl (by decide +kernel) (Nat.le_trans (Nat.le_of_ble_eq_true rfl) hce) (Nat.le_trans (Nat.le_of_ble_eq_true rfl) hsl) dX11_init_116 (fun H hG => ?_)
  refine lv_dup hx hb dX11_init_119 rfl ?_
  refine lv_aload_n hx hb dX11_init_120 rfl (lv_at hl 2 rfl) ?_
  refine n_call hG (by omega) (fun hz => va_runI (As := [.ref (b + 1)]) (rest := [.ref (b + 48), .ref (b + 0)]) hF.1 (kX3_init l (nE D b ct) b 49 _ 48 (b + 1) (by decide) (va_up_s _ _ _) (fGp b 2) (fGp_at (by decide))) (cwI 1 hts gX11_init_X3_init rfl rfl rfl (hts _ (List.mem_of_getElem? (i := 25) rfl)) (hts _ (List.mem_of_getElem? (i := 67) rfl)) (hts _ (List.mem_of_getElem? (i := 68) rfl)) rfl (by decide +kernel) ⟨Nat.le_trans (Nat.le_of_ble_eq_true rfl) hfr, Nat.le_trans (Nat.le_of_ble_eq_true rfl) hlo⟩) (n_pre hF hG hz) rfl rfl hl.1 rfl (lv_room (Nat.le_of_ble_eq_true rfl)) dX11_init_121 ⟨Nat.le_trans (Nat.le_of_ble_eq_true rfl) hce, Nat.le_trans (Nat.le_of_ble_eq_true rfl) hsl⟩) (fun en9 H locs hk1 hG => ?_)
  obtain ⟨g1, g2, g3, g4⟩ := hk1
  have hf : fF D b ct 0 68 en9 (.inr (10, [.ref (b + 4), .ref (b + 8), .ref (b + 28), .null, .int 0, .null, .null, .null, .null, .null, .int 0])) := fF.plant (p := 2) (en := va_up enD2 48 (.inr (3, [.null, .int 0, .int 0, .int 0, .int 0]))) ⟨by rw [va_up_n (by decide)]; exact hf.1, fun j j1 j2 j3 => by rw [va_up_n (by omega)]; exact hf.2 j j1 j2 j3⟩ (by decide) rfl g1 g2 g3 g4
  refine n_putF (ty := .object "GreedyServers$Plant") hF hG 0 (by omega) hf.1 rfl in11 tyX11_ok nmX11 3 (by decide) (List.mem_of_getElem? (i := 28) rfl) rfl rfl hnm rfl (by decide +kernel) rfl rfl (Nat.le_of_ble_eq_true rfl) dX11_init_124 (fun H locs hG => ?_)
  obtain ⟨enD3, hA⟩ : ∃ z, z = va_up en9 0 (.inr (10, [.ref (b + 4), .ref (b + 8), .ref (b + 28), .ref (b + 48), .int 0, .null, .null, .null, .null, .null, .int 0])) := ⟨_, rfl⟩
  have hG : nG (nE D b ct) b 68 enD3 s H locs := by rw [hA]; exact hG
  have hf := hf.obj hA
  refine lv_aload_n hx hb dX11_init_127 rfl (lv_at hl 3 rfl) ?_
  refine lv_bipush (v := 8) hx hb dX11_init_128 (by decide) ?_
  refine n_newq (N := 8) hF hG (by omega) 2 rfl (List.mem_of_getElem? (i := 29) rfl) hF.2.2.2.1 (by decide) (by decide) (by decide) (Nat.le_trans (Nat.le_of_ble_eq_true rfl) hce) (Nat.le_trans (Nat.le_of_ble_eq_true rfl) hsl) dX11_init_130 (fun H hG => ?_)
  obtain ⟨enS, hA⟩ : ∃ z, z = va_up enD3 68 (.inl (ct 2, 8, .inr (.inr (.inr (.inr (fun _ => none)))))) := ⟨_, rfl⟩
  have hG : nG (nE D b ct) b 69 enS s H locs := by rw [hA]; exact hG
  obtain ⟨hf, hk4⟩ := hf.opn (by decide) hA
  refine n_putF (ty := .array (.object "GreedyServers$Shelf")) hF hG 0 (by omega) hf.1 rfl in11 tyX11_ok nmX11 5 (by decide) (List.mem_of_getElem? (i := 30) rfl) rfl rfl hnm rfl (by decide +kernel) rfl rfl (Nat.le_of_ble_eq_true rfl) dX11_init_133 (fun H locs hG => ?_)
  obtain ⟨enS1, hA⟩ : ∃ z, z = va_up enS 0 (.inr (10, [.ref (b + 4), .ref (b + 8), .ref (b + 28), .ref (b + 48), .int 0, .ref (b + 68), .null, .null, .null, .null, .int 0])) := ⟨_, rfl⟩
  have hG : nG (nE D b ct) b 69 enS1 s H locs := by rw [hA]; exact hG
  have hf := hf.obj hA
  have hk4 : enS1 68 = .inl (ct 2, 8, .inr (.inr (.inr (.inr (fun _ => none))))) := by rw [hA, va_up_n (by decide)]; exact hk4
  refine lv_iconst (v := 0) hx hb dX11_init_136 (by decide) ?_
  refine lv_istore (lv' := [(4, .int (nI 0)), (3, .ref (b + 3)), (2, .ref (b + 2)), (1, .ref (b + 1)), (0, .ref (b + 0))]) hx hb dX11_init_137 hl (by decide) rfl (fun ls hl => ?_)
  have lp1 : (∀ (en2 : Nat → va_E) (H : Heap) (locs : List Loc) (ls : Array Slot), fF D b ct 0 85 en2 (.inr (10, [.ref (b + 4), .ref (b + 8), .ref (b + 28), .ref (b + 48), .int 0, .ref (b + 68), .null, .null, .null, .null, .int 0])) → nG (nE D b ct) b 85 en2 s H locs → lv_has ls 5 [(4, .int (nI 8)), (3, .ref (b + 3)), (2, .ref (b + 2)), (1, .ref (b + 1)), (0, .ref (b + 0))] → W p l e R s m args below meth c H locs 84 1321 (MQ below (va_Qv (fun en1 : Nat → va_E => ∀ j, j < 97 → en1 j = fin D b ct j) (nB (nE D b ct) b 97) (nA b)) args s 96 1632 (nA b)) (F0 m 167 ls [])) → ∀ (t i : Nat) (en2 : Nat → va_E) (f : Nat → Option Nat) (H : Heap) (locs : List Loc) (ls : Array Slot), i + t = 8 → fF D b ct 68 (69 + 2 * i) en2 (.inr (10, [.ref (b + 4), .ref (b + 8), .ref (b + 28), .ref (b + 48), .int 0, .ref (b + 68), .null, .null, .null, .null, .int 0])) → en2 68 = .inl (ct 2, 8, .inr (.inr (.inr (.inr f)))) → (∀ j, j < i → f j = some (b + (69 + 2 * j))) → nG (nE D b ct) b (69 + 2 * i) en2 s H locs → lv_has ls 5 [(4, .int (nI i)), (3, .ref (b + 3)), (2, .ref (b + 2)), (1, .ref (b + 1)), (0, .ref (b + 0))] → W p l e R s m args below meth c H locs (68 + 2 * i) (473 + 106 * i) (MQ below (va_Qv (fun en1 : Nat → va_E => ∀ j, j < 97 → en1 j = fin D b ct j) (nB (nE D b ct) b 97) (nA b)) args s 96 1632 (nA b)) (F0 m 139 ls []) := by
    intro out t
    induction t with
    | zero =>
      intro i en2 f H locs ls hi hf hk4 h4 hG hl
      have hi : i = 8 := by omega
      subst hi
      refine lv_iload hx hb dX11_init_139 (lv_at hl 0 rfl) ?_
      refine lv_bipush (v := 8) hx hb dX11_init_141 (by decide) ?_
      refine lv_icmp_ge (tgt := 167) hx hb dX11_init_143 (by decide) (fun c1 => ?_) (fun c1 => absurd ((n_lt8 (Nat.le_refl _)).mpr rfl) c1)
      have hG := n_arr (g := fG b 60) hG 68 (by decide) hk4 (fun j hj => (h4 j hj).trans (fG_s j hj).symm)
      exact out _ H locs ls ((hf.arr (by decide) rfl).1.cls ((va_up_s _ _ _).trans rfl)) hG hl
    | succ t ih =>
      intro i en2 f H locs ls hi hf hk4 h4 hG hl
      have hi6 : i < 8 := by omega
      refine lv_iload hx hb dX11_init_139 (lv_at hl 0 rfl) ?_
      refine lv_bipush (v := 8) hx hb dX11_init_141 (by decide) ?_
      refine lv_icmp_ge (tgt := 167) hx hb dX11_init_143 (by decide) (fun c1 => absurd ((n_lt8 (by omega)).mp c1) (by omega)) (fun c1 => ?_)
      refine lv_aload_n hx hb dX11_init_146 rfl (lv_at hl 4 rfl) ?_
      refine n_get hF hG 0 (by omega) hf.1 rfl in11 5 (by decide) (List.mem_of_getElem? (i := 30) rfl) rfl rfl dX11_init_147 ?_
      refine lv_iload hx hb dX11_init_150 (lv_at hl 0 rfl) ?_
      refine n_new (fs := [.int 0, .null, .int 0, .int 0, .int 0, .null]) (ci := 6) hF hG (by omega) in6 tyX6 tyX6_ok (List.mem_of_getElem? (i := 29) rfl) (List.mem_of_getElem? (i := 31) rfl) (List.mem_of_getElem? (i := 32) rfl) rfl (by decide +kernel) (by have : (96 : Nat) ≤ R.cells := hce; omega) (by have : (1632 : Nat) ≤ R.slots := hsl; omega) dX11_init_152 (fun H hG => ?_)
      refine lv_dup hx hb dX11_init_155 rfl ?_
      refine lv_aload_n hx hb dX11_init_156 rfl (lv_at hl 3 rfl) ?_
      refine n_call hG (by omega) (fun hz => va_runI (As := [.ref (b + 1)]) (rest := [.ref (b + (69 + 2 * i)), .int (nI i), .ref (b + 68)]) hF.1 (kX6_init l (nE D b ct) b (69 + 2 * i + 1) _ (69 + 2 * i) (b + 1) (Nat.lt_succ_self _) (va_up_s _ _ _)) (cwI 1 hts gX11_init_X6_init rfl rfl rfl (hts _ (List.mem_of_getElem? (i := 32) rfl)) (hts _ (List.mem_of_getElem? (i := 84) rfl)) (hts _ (List.mem_of_getElem? (i := 85) rfl)) rfl (by decide +kernel) ⟨Nat.le_trans (Nat.le_of_ble_eq_true rfl) hfr, Nat.le_trans (Nat.le_of_ble_eq_true rfl) hlo⟩) (n_pre hF hG hz) rfl rfl hl.1 rfl (lv_room (Nat.le_of_ble_eq_true rfl)) dX11_init_157 ⟨by have : (96 : Nat) ≤ R.cells := hce; omega, by have : (1632 : Nat) ≤ R.slots := hsl; omega⟩) (fun en3 H locs hk1 hG => ?_)
      obtain ⟨g1, g2, g3⟩ := hk1
      obtain ⟨w1, w2⟩ := fin_sh (D := D) (b := b) (ct := ct) i hi6
      have hk5 : en3 68 = .inl (ct 2, 8, .inr (.inr (.inr (.inr f)))) := by rw [g1 68 (by omega) (by omega), va_up_n (by omega)]; exact hk4
      have hf3 : fF D b ct 68 (69 + 2 * (i + 1)) en3 (.inr (10, [.ref (b + 4), .ref (b + 8), .ref (b + 28), .ref (b + 48), .int 0, .ref (b + 68), .null, .null, .null, .null, .int 0])) := by
        refine ⟨by rw [g1 0 (by omega) (by omega), va_up_n (by omega)]; exact hf.1, fun j j1 j2 j3 => ?_⟩
        by_cases c2 : j = 69 + 2 * i
        · rw [c2, g2, w1, show 69 + 2 * i + 1 = 70 + 2 * i by omega]
        · by_cases c3 : j = 69 + 2 * i + 1
          · rw [c3, g3, show 69 + 2 * i + 1 = 70 + 2 * i by omega, w2]
          · rw [g1 j (by omega) c2, va_up_n c2]; exact hf.2 j j1 (by omega) j3
      refine n_astq hF hG 68 2 (69 + 2 * i) 6 (by omega) (by omega) hk5 rfl g2 rfl (vp_in_nI hi6 (by decide)) dX11_init_160 (fun H locs hG => ?_)
      refine lv_iinc (v := nI (i + 1)) (lv' := [(4, .int (nI (i + 1))), (3, .ref (b + 3)), (2, .ref (b + 2)), (1, .ref (b + 1)), (0, .ref (b + 0))]) hx hb dX11_init_161 hl (k := 0) rfl (nI_1 i) (by decide) rfl (fun ls hl => ?_)
      refine lv_goto (tgt := 139) hx hb dX11_init_164 (by decide) ?_
      rw [nI_clamp (by omega)] at hG
      have hf4 := hf3.arr (by decide) (rfl : va_up en3 68 (.inl (ct 2, 8, .inr (.inr (.inr (.inr (va_up f i (some (b + (69 + 2 * i)))))))) ) = _)
      have key := ih (i + 1) _ _ H locs ls (by omega) hf4.1 hf4.2 (fun j hj => ?_) (by rw [show 69 + 2 * (i + 1) = 69 + 2 * i + 1 + 1 by omega]; exact hG) hl
      · rw [show 68 + 2 * i + 1 + 1 = 68 + 2 * (i + 1) by omega, show 473 + 106 * i + 6 + 100 = 473 + 106 * (i + 1) by omega]
        exact key
      · by_cases hji : j = i
        · subst hji; exact va_up_s _ _ _
        · rw [va_up_n hji]; exact h4 j (by omega)
  refine lp1 ?_ 8 0 _ (fun _ => none) H locs ls rfl hf hk4 (fun j hj => absurd hj (Nat.not_lt_zero _)) hG hl
  intro en2 H locs ls hf hG hl
  refine lv_aload_n hx hb dX11_init_167 rfl (lv_at hl 4 rfl) ?_
  refine lv_iconst (v := 4) hx hb dX11_init_168 (by decide) ?_
  refine n_newq (N := 4) hF hG (by omega) 3 rfl (List.mem_of_getElem? (i := 33) rfl) hF.2.2.2.2.1 (by decide) (by decide) (by decide) (Nat.le_trans (Nat.le_of_ble_eq_true rfl) hce) (Nat.le_trans (Nat.le_of_ble_eq_true rfl) hsl) dX11_init_169 (fun H hG => ?_)
  obtain ⟨enT, hA⟩ : ∃ z, z = va_up en2 85 (.inl (ct 3, 4, .inr (.inr (.inr (.inr (fun _ => none)))))) := ⟨_, rfl⟩
  have hG : nG (nE D b ct) b 86 enT s H locs := by rw [hA]; exact hG
  obtain ⟨hf, hk4⟩ := hf.opn (by decide) hA
  refine n_putF (ty := .array (.object "GreedyServers$Tray")) hF hG 0 (by omega) hf.1 rfl in11 tyX11_ok nmX11 6 (by decide) (List.mem_of_getElem? (i := 34) rfl) rfl rfl hnm rfl (by decide +kernel) rfl rfl (Nat.le_of_ble_eq_true rfl) dX11_init_172 (fun H locs hG => ?_)
  obtain ⟨enT1, hA⟩ : ∃ z, z = va_up enT 0 (.inr (10, [.ref (b + 4), .ref (b + 8), .ref (b + 28), .ref (b + 48), .int 0, .ref (b + 68), .ref (b + 85), .null, .null, .null, .int 0])) := ⟨_, rfl⟩
  have hG : nG (nE D b ct) b 86 enT1 s H locs := by rw [hA]; exact hG
  have hf := hf.obj hA
  have hk4 : enT1 85 = .inl (ct 3, 4, .inr (.inr (.inr (.inr (fun _ => none))))) := by rw [hA, va_up_n (by decide)]; exact hk4
  refine lv_iconst (v := 0) hx hb dX11_init_175 (by decide) ?_
  refine lv_istore (lv' := [(4, .int (nI 0)), (3, .ref (b + 3)), (2, .ref (b + 2)), (1, .ref (b + 1)), (0, .ref (b + 0))]) hx hb dX11_init_176 hl (by decide) rfl (fun ls hl => ?_)
  have lp2 : (∀ (en2 : Nat → va_E) (H : Heap) (locs : List Loc) (ls : Array Slot), fF D b ct 0 94 en2 (.inr (10, [.ref (b + 4), .ref (b + 8), .ref (b + 28), .ref (b + 48), .int 0, .ref (b + 68), .ref (b + 85), .null, .null, .null, .int 0])) → nG (nE D b ct) b 94 en2 s H locs → lv_has ls 5 [(4, .int (nI 4)), (3, .ref (b + 3)), (2, .ref (b + 2)), (1, .ref (b + 1)), (0, .ref (b + 0))] → W p l e R s m args below meth c H locs 93 1421 (MQ below (va_Qv (fun en1 : Nat → va_E => ∀ j, j < 97 → en1 j = fin D b ct j) (nB (nE D b ct) b 97) (nA b)) args s 96 1632 (nA b)) (F0 m 205 ls [])) → ∀ (t i : Nat) (en2 : Nat → va_E) (f : Nat → Option Nat) (H : Heap) (locs : List Loc) (ls : Array Slot), i + t = 4 → fF D b ct 85 (86 + 2 * i) en2 (.inr (10, [.ref (b + 4), .ref (b + 8), .ref (b + 28), .ref (b + 48), .int 0, .ref (b + 68), .ref (b + 85), .null, .null, .null, .int 0])) → en2 85 = .inl (ct 3, 4, .inr (.inr (.inr (.inr f)))) → (∀ j, j < i → f j = some (b + (86 + 2 * j))) → nG (nE D b ct) b (86 + 2 * i) en2 s H locs → lv_has ls 5 [(4, .int (nI i)), (3, .ref (b + 3)), (2, .ref (b + 2)), (1, .ref (b + 1)), (0, .ref (b + 0))] → W p l e R s m args below meth c H locs (85 + 2 * i) (1325 + 24 * i) (MQ below (va_Qv (fun en1 : Nat → va_E => ∀ j, j < 97 → en1 j = fin D b ct j) (nB (nE D b ct) b 97) (nA b)) args s 96 1632 (nA b)) (F0 m 178 ls []) := by
    intro out t
    induction t with
    | zero =>
      intro i en2 f H locs ls hi hf hk4 h4 hG hl
      have hi : i = 4 := by omega
      subst hi
      refine lv_iload hx hb dX11_init_178 (lv_at hl 0 rfl) ?_
      refine lv_iconst (v := 4) hx hb dX11_init_180 (by decide) ?_
      refine lv_icmp_ge (tgt := 205) hx hb dX11_init_181 (by decide) (fun c1 => ?_) (fun c1 => absurd ((n_lt4 (Nat.le_refl _)).mpr rfl) c1)
      have hG := n_arr (g := fG b 76) hG 85 (by decide) hk4 (fun j hj => (h4 j hj).trans (fG_t j hj).symm)
      exact out _ H locs ls ((hf.arr (by decide) rfl).1.cls ((va_up_s _ _ _).trans rfl)) hG hl
    | succ t ih =>
      intro i en2 f H locs ls hi hf hk4 h4 hG hl
      have hi6 : i < 4 := by omega
      refine lv_iload hx hb dX11_init_178 (lv_at hl 0 rfl) ?_
      refine lv_iconst (v := 4) hx hb dX11_init_180 (by decide) ?_
      refine lv_icmp_ge (tgt := 205) hx hb dX11_init_181 (by decide) (fun c1 => absurd ((n_lt4 (by omega)).mp c1) (by omega)) (fun c1 => ?_)
      refine lv_aload_n hx hb dX11_init_184 rfl (lv_at hl 4 rfl) ?_
      refine n_get hF hG 0 (by omega) hf.1 rfl in11 6 (by decide) (List.mem_of_getElem? (i := 34) rfl) rfl rfl dX11_init_185 ?_
      refine lv_iload hx hb dX11_init_188 (lv_at hl 0 rfl) ?_
      refine n_new (fs := [.int 0, .null, .int 0, .null]) (ci := 9) hF hG (by omega) in10 tyX10 tyX10_ok (List.mem_of_getElem? (i := 33) rfl) (List.mem_of_getElem? (i := 35) rfl) (List.mem_of_getElem? (i := 36) rfl) rfl (by decide +kernel) (by have : (96 : Nat) ≤ R.cells := hce; omega) (by have : (1632 : Nat) ≤ R.slots := hsl; omega) dX11_init_190 (fun H hG => ?_)
      refine lv_dup hx hb dX11_init_193 rfl ?_
      refine lv_aload_n hx hb dX11_init_194 rfl (lv_at hl 3 rfl) ?_
      refine n_call hG (by omega) (fun hz => va_runI (As := [.ref (b + 1)]) (rest := [.ref (b + (86 + 2 * i)), .int (nI i), .ref (b + 85)]) hF.1 (kX10_init l (nE D b ct) b (86 + 2 * i + 1) _ (86 + 2 * i) (b + 1) (Nat.lt_succ_self _) (va_up_s _ _ _)) (cwI 1 hts gX11_init_X10_init rfl rfl rfl (hts _ (List.mem_of_getElem? (i := 36) rfl)) (hts _ (List.mem_of_getElem? (i := 91) rfl)) (hts _ (List.mem_of_getElem? (i := 92) rfl)) rfl (by decide +kernel) ⟨Nat.le_trans (Nat.le_of_ble_eq_true rfl) hfr, Nat.le_trans (Nat.le_of_ble_eq_true rfl) hlo⟩) (n_pre hF hG hz) rfl rfl hl.1 rfl (lv_room (Nat.le_of_ble_eq_true rfl)) dX11_init_195 ⟨by have : (96 : Nat) ≤ R.cells := hce; omega, by have : (1632 : Nat) ≤ R.slots := hsl; omega⟩) (fun en3 H locs hk1 hG => ?_)
      obtain ⟨g1, g2, g3⟩ := hk1
      obtain ⟨w1, w2⟩ := fin_tr (D := D) (b := b) (ct := ct) i hi6
      have hk5 : en3 85 = .inl (ct 3, 4, .inr (.inr (.inr (.inr f)))) := by rw [g1 85 (by omega) (by omega), va_up_n (by omega)]; exact hk4
      have hf3 : fF D b ct 85 (86 + 2 * (i + 1)) en3 (.inr (10, [.ref (b + 4), .ref (b + 8), .ref (b + 28), .ref (b + 48), .int 0, .ref (b + 68), .ref (b + 85), .null, .null, .null, .int 0])) := by
        refine ⟨by rw [g1 0 (by omega) (by omega), va_up_n (by omega)]; exact hf.1, fun j j1 j2 j3 => ?_⟩
        by_cases c2 : j = 86 + 2 * i
        · rw [c2, g2, w1, show 86 + 2 * i + 1 = 87 + 2 * i by omega]
        · by_cases c3 : j = 86 + 2 * i + 1
          · rw [c3, g3, show 86 + 2 * i + 1 = 87 + 2 * i by omega, w2]
          · rw [g1 j (by omega) c2, va_up_n c2]; exact hf.2 j j1 (by omega) j3
      refine n_astq hF hG 85 3 (86 + 2 * i) 9 (by omega) (by omega) hk5 rfl g2 rfl (vp_in_nI hi6 (by decide)) dX11_init_198 (fun H locs hG => ?_)
      refine lv_iinc (v := nI (i + 1)) (lv' := [(4, .int (nI (i + 1))), (3, .ref (b + 3)), (2, .ref (b + 2)), (1, .ref (b + 1)), (0, .ref (b + 0))]) hx hb dX11_init_199 hl (k := 0) rfl (nI_1 i) (by decide) rfl (fun ls hl => ?_)
      refine lv_goto (tgt := 178) hx hb dX11_init_202 (by decide) ?_
      rw [nI_clamp (by omega)] at hG
      have hf4 := hf3.arr (by decide) (rfl : va_up en3 85 (.inl (ct 3, 4, .inr (.inr (.inr (.inr (va_up f i (some (b + (86 + 2 * i)))))))) ) = _)
      have key := ih (i + 1) _ _ H locs ls (by omega) hf4.1 hf4.2 (fun j hj => ?_) (by rw [show 86 + 2 * (i + 1) = 86 + 2 * i + 1 + 1 by omega]; exact hG) hl
      · rw [show 85 + 2 * i + 1 + 1 = 85 + 2 * (i + 1) by omega, show 1325 + 24 * i + 4 + 20 = 1325 + 24 * (i + 1) by omega]
        exact key
      · by_cases hji : j = i
        · subst hji; exact va_up_s _ _ _
        · rw [va_up_n hji]; exact h4 j (by omega)
  refine lp2 ?_ 4 0 _ (fun _ => none) H locs ls rfl hf hk4 (fun j hj => absurd hj (Nat.not_lt_zero _)) hG hl
  intro en2 H locs ls hf hG hl
  refine lv_aload_n hx hb dX11_init_205 rfl (lv_at hl 4 rfl) ?_
  refine lv_iconst (v := 4) hx hb dX11_init_206 (by decide) ?_
  refine n_newa (N := 4) hF hG (by omega) (List.mem_of_getElem? (i := 37) rfl) (by decide) (by decide) (by decide) (Nat.le_trans (Nat.le_of_ble_eq_true rfl) hce) (Nat.le_trans (Nat.le_of_ble_eq_true rfl) hsl) dX11_init_207 (fun H hG => ?_)
  obtain ⟨enU94, hA⟩ : ∃ z, z = va_up en2 94 (.inl (ct 0, 4, .inl (fun _ => 0))) := ⟨_, rfl⟩
  have hG : nG (nE D b ct) b 95 enU94 s H locs := by rw [hA]; exact hG
  have hf := hf.mk1 (by decide) (by decide) hA rfl
  refine n_putF (ty := .array .int) hF hG 0 (by omega) hf.1 rfl in11 tyX11_ok nmX11 7 (by decide) (List.mem_of_getElem? (i := 38) rfl) rfl rfl hnm rfl (by decide +kernel) rfl rfl (Nat.le_of_ble_eq_true rfl) dX11_init_209 (fun H locs hG => ?_)
  obtain ⟨enV94, hA⟩ : ∃ z, z = va_up enU94 0 (.inr (10, [.ref (b + 4), .ref (b + 8), .ref (b + 28), .ref (b + 48), .int 0, .ref (b + 68), .ref (b + 85), .ref (b + 94), .null, .null, .int 0])) := ⟨_, rfl⟩
  have hG : nG (nE D b ct) b 95 enV94 s H locs := by rw [hA]; exact hG
  have hf := hf.obj hA
  refine lv_aload_n hx hb dX11_init_212 rfl (lv_at hl 4 rfl) ?_
  refine lv_iconst (v := 4) hx hb dX11_init_213 (by decide) ?_
  refine n_newa (N := 4) hF hG (by omega) (List.mem_of_getElem? (i := 37) rfl) (by decide) (by decide) (by decide) (Nat.le_trans (Nat.le_of_ble_eq_true rfl) hce) (Nat.le_trans (Nat.le_of_ble_eq_true rfl) hsl) dX11_init_214 (fun H hG => ?_)
  obtain ⟨enU95, hA⟩ : ∃ z, z = va_up enV94 95 (.inl (ct 0, 4, .inl (fun _ => 0))) := ⟨_, rfl⟩
  have hG : nG (nE D b ct) b 96 enU95 s H locs := by rw [hA]; exact hG
  have hf := hf.mk1 (by decide) (by decide) hA rfl
  refine n_putF (ty := .array .int) hF hG 0 (by omega) hf.1 rfl in11 tyX11_ok nmX11 8 (by decide) (List.mem_of_getElem? (i := 39) rfl) rfl rfl hnm rfl (by decide +kernel) rfl rfl (Nat.le_of_ble_eq_true rfl) dX11_init_216 (fun H locs hG => ?_)
  obtain ⟨enV95, hA⟩ : ∃ z, z = va_up enU95 0 (.inr (10, [.ref (b + 4), .ref (b + 8), .ref (b + 28), .ref (b + 48), .int 0, .ref (b + 68), .ref (b + 85), .ref (b + 94), .ref (b + 95), .null, .int 0])) := ⟨_, rfl⟩
  have hG : nG (nE D b ct) b 96 enV95 s H locs := by rw [hA]; exact hG
  have hf := hf.obj hA
  refine lv_aload_n hx hb dX11_init_219 rfl (lv_at hl 4 rfl) ?_
  refine lv_bipush (v := 6) hx hb dX11_init_220 (by decide) ?_
  refine n_newa (N := 6) hF hG (by omega) (List.mem_of_getElem? (i := 37) rfl) (by decide) (by decide) (by decide) (Nat.le_trans (Nat.le_of_ble_eq_true rfl) hce) (Nat.le_trans (Nat.le_of_ble_eq_true rfl) hsl) dX11_init_222 (fun H hG => ?_)
  obtain ⟨enU96, hA⟩ : ∃ z, z = va_up enV95 96 (.inl (ct 0, 6, .inl (fun _ => 0))) := ⟨_, rfl⟩
  have hG : nG (nE D b ct) b 97 enU96 s H locs := by rw [hA]; exact hG
  have hf := hf.mk1 (by decide) (by decide) hA rfl
  refine n_putF (ty := .array .int) hF hG 0 (by omega) hf.1 rfl in11 tyX11_ok nmX11 9 (by decide) (List.mem_of_getElem? (i := 40) rfl) rfl rfl hnm rfl (by decide +kernel) rfl rfl (Nat.le_of_ble_eq_true rfl) dX11_init_224 (fun H locs hG => ?_)
  obtain ⟨enV96, hA⟩ : ∃ z, z = va_up enU96 0 (.inr (10, [.ref (b + 4), .ref (b + 8), .ref (b + 28), .ref (b + 48), .int 0, .ref (b + 68), .ref (b + 85), .ref (b + 94), .ref (b + 95), .ref (b + 96), .int 0])) := ⟨_, rfl⟩
  have hG : nG (nE D b ct) b 97 enV96 s H locs := by rw [hA]; exact hG
  have hf := hf.obj hA
  refine n_vret hF hG hr hlk (by decide) (by decide) (fun j hj => ?_) dX11_init_227
  rcases Nat.eq_zero_or_pos j with h | h
  · subst h; exact hf.1.trans rfl
  · exact hf.2 j h hj (by omega)
