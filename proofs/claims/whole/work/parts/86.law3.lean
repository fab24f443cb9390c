/-! THE LAW: cases -/
theorem hL_X11_needs : yX11_needs.cls ≠ "java/lang/invoke/MethodHandle" ∧ yX11_needs.cls ≠ "java/lang/invoke/VarHandle" ∧ (parseMethodDescriptor yX11_needs.desc).map (fun d => d.parameters.length) = some 2 := by decide +kernel
theorem hL_X12_needs : yX12_needs.cls ≠ "java/lang/invoke/MethodHandle" ∧ yX12_needs.cls ≠ "java/lang/invoke/VarHandle" ∧ (parseMethodDescriptor yX12_needs.desc).map (fun d => d.parameters.length) = some 2 := by decide +kernel
set_option maxHeartbeats 2000000 in
theorem lwc_14 (l : Launch) (hfl : l.flags = flags0) {p : Program} {e : Env} {s : State} {m : MethodId} {below : List Frame} {meth : Method} {c : Code} {b L j : Nat} {xs : Nat → Int32} {E : zE} {Z : zS} {H : Heap} {locs : List Loc} {ls : Array Slot} {Q : State → Prop} (hC : lwF p m c s b L xs E) (hj : 6 * j + 6 ≤ L) (hI : zInv Z) (hG : zG E Z s H locs) (hl : lv_has ls 8 (lwLV E b j)) (T : lwT p l e s m below meth c b j E Q) : W p l e room_1 s m #[Value.ref b] below meth c H locs (112 + j) (2948 + 6 * j) Q (F0 m 742 ls []) := by
  have hF := hC.1
  have hx := hF.1.1
  have hb := hF.1.2.1
  have hts := hF.1.2.2.2.2
  have hcc := lw_room hj hC.2.2.2.2.2
  refine lv_aload_n hx hb dL_law_742 rfl (lv_at hl 3 rfl) ?_
  refine lw_arg (lv := lwLV E b j) hC hG rfl (lv_at hl 4 rfl) (lv_at hl 0 rfl) hj 1 (by decide) dL_law_743 dL_law_744 dL_law_746 rfl dL_law_747 dL_law_748 ?_
  refine lw_arg (lv := lwLV E b j) hC hG rfl (lv_at hl 4 rfl) (lv_at hl 0 rfl) hj 2 (by decide) dL_law_749 dL_law_750 dL_law_752 rfl dL_law_753 dL_law_754 ?_
  refine z_ci (va_runV (rest := []) hF.1 (kX11_needs l E Z (xs (6 * j + 1)) (xs (6 * j + 2)) (M_needs hI) _) (cwV 2 hts gL_law_X11_needs rfl rfl rfl ⟨rfl, hL_X11_needs⟩ ⟨Nat.le_of_ble_eq_true rfl, Nat.le_of_ble_eq_true rfl⟩) (z_preV hF hG 96 (by decide) z_gs rfl) rfl rfl hl.1 rfl (lv_room (Nat.le_of_ble_eq_true rfl)) dL_law_755 ⟨Nat.le_of_succ_le hcc.1, Nat.le_trans (Nat.le_add_right _ 6) hcc.2⟩) hG (fun r Z1 H locs hw hG => ?_)
  refine lv_aload_n hx hb dL_law_758 rfl (lv_at hl 2 rfl) ?_
  refine lw_arg (lv := lwLV E b j) hC hG rfl (lv_at hl 4 rfl) (lv_at hl 0 rfl) hj 1 (by decide) dL_law_759 dL_law_760 dL_law_762 rfl dL_law_763 dL_law_764 ?_
  refine lw_arg (lv := lwLV E b j) hC hG rfl (lv_at hl 4 rfl) (lv_at hl 0 rfl) hj 2 (by decide) dL_law_765 dL_law_766 dL_law_768 rfl dL_law_769 dL_law_770 ?_
  refine z_ci (va_runV (rest := [.int r]) hF.1 (kX12_needs l E Z1 (xs (6 * j + 1)) (xs (6 * j + 2)) hw _) (cwV 2 hts gL_law_X12_needs rfl rfl rfl ⟨rfl, hL_X12_needs⟩ ⟨Nat.le_of_ble_eq_true rfl, Nat.le_of_ble_eq_true rfl⟩) (z_preV hF hG 97 (by decide) z_md rfl) rfl rfl hl.1 rfl (lv_room (Nat.le_of_ble_eq_true rfl)) dL_law_771 ⟨Nat.le_of_succ_le hcc.1, Nat.le_trans (Nat.le_add_right _ 6) hcc.2⟩) hG (fun r2 Z2 H locs hw hG => ?_)
  refine lv_icmp_eq (tgt := 1835) hx hb dL_law_774 (by decide) (fun _ => ?_) (fun c => absurd hw.1.symm c)
  exact W.widen (by omega) (by omega) (T E.2.2.2 Z2 H locs ls hw.2 hG hl)
theorem hL_X11_alone : yX11_alone.cls ≠ "java/lang/invoke/MethodHandle" ∧ yX11_alone.cls ≠ "java/lang/invoke/VarHandle" ∧ (parseMethodDescriptor yX11_alone.desc).map (fun d => d.parameters.length) = some 2 := by decide +kernel
theorem hL_X12_alone : yX12_alone.cls ≠ "java/lang/invoke/MethodHandle" ∧ yX12_alone.cls ≠ "java/lang/invoke/VarHandle" ∧ (parseMethodDescriptor yX12_alone.desc).map (fun d => d.parameters.length) = some 2 := by decide +kernel
set_option maxHeartbeats 2000000 in
theorem lwc_15 (l : Launch) (hfl : l.flags = flags0) {p : Program} {e : Env} {s : State} {m : MethodId} {below : List Frame} {meth : Method} {c : Code} {b L j : Nat} {xs : Nat → Int32} {E : zE} {Z : zS} {H : Heap} {locs : List Loc} {ls : Array Slot} {Q : State → Prop} (hC : lwF p m c s b L xs E) (hj : 6 * j + 6 ≤ L) (hI : zInv Z) (hG : zG E Z s H locs) (hl : lv_has ls 8 (lwLV E b j)) (T : lwT p l e s m below meth c b j E Q) : W p l e room_1 s m #[Value.ref b] below meth c H locs (112 + j) (2948 + 6 * j) Q (F0 m 779 ls []) := by
  have hF := hC.1
  have hx := hF.1.1
  have hb := hF.1.2.1
  have hts := hF.1.2.2.2.2
  have hcc := lw_room hj hC.2.2.2.2.2
  refine lv_aload_n hx hb dL_law_779 rfl (lv_at hl 3 rfl) ?_
  refine lw_arg (lv := lwLV E b j) hC hG rfl (lv_at hl 4 rfl) (lv_at hl 0 rfl) hj 1 (by decide) dL_law_780 dL_law_781 dL_law_783 rfl dL_law_784 dL_law_785 ?_
  refine lw_arg (lv := lwLV E b j) hC hG rfl (lv_at hl 4 rfl) (lv_at hl 0 rfl) hj 2 (by decide) dL_law_786 dL_law_787 dL_law_789 rfl dL_law_790 dL_law_791 ?_
  refine z_ci (va_runV (rest := []) hF.1 (kX11_alone l E Z (xs (6 * j + 1)) (xs (6 * j + 2)) (M_alone hI) _) (cwV 2 hts gL_law_X11_alone rfl rfl rfl ⟨rfl, hL_X11_alone⟩ ⟨Nat.le_of_ble_eq_true rfl, Nat.le_of_ble_eq_true rfl⟩) (z_preV hF hG 96 (by decide) z_gs rfl) rfl rfl hl.1 rfl (lv_room (Nat.le_of_ble_eq_true rfl)) dL_law_792 ⟨Nat.le_of_succ_le hcc.1, Nat.le_trans (Nat.le_add_right _ 6) hcc.2⟩) hG (fun r Z1 H locs hw hG => ?_)
  refine lv_aload_n hx hb dL_law_795 rfl (lv_at hl 2 rfl) ?_
  refine lw_arg (lv := lwLV E b j) hC hG rfl (lv_at hl 4 rfl) (lv_at hl 0 rfl) hj 1 (by decide) dL_law_796 dL_law_797 dL_law_799 rfl dL_law_800 dL_law_801 ?_
  refine lw_arg (lv := lwLV E b j) hC hG rfl (lv_at hl 4 rfl) (lv_at hl 0 rfl) hj 2 (by decide) dL_law_802 dL_law_803 dL_law_805 rfl dL_law_806 dL_law_807 ?_
  refine z_ci (va_runV (rest := [.int r]) hF.1 (kX12_alone l E Z1 (xs (6 * j + 1)) (xs (6 * j + 2)) hw _) (cwV 2 hts gL_law_X12_alone rfl rfl rfl ⟨rfl, hL_X12_alone⟩ ⟨Nat.le_of_ble_eq_true rfl, Nat.le_of_ble_eq_true rfl⟩) (z_preV hF hG 97 (by decide) z_md rfl) rfl rfl hl.1 rfl (lv_room (Nat.le_of_ble_eq_true rfl)) dL_law_808 ⟨Nat.le_of_succ_le hcc.1, Nat.le_trans (Nat.le_add_right _ 6) hcc.2⟩) hG (fun r2 Z2 H locs hw hG => ?_)
  refine lv_icmp_eq (tgt := 1835) hx hb dL_law_811 (by decide) (fun _ => ?_) (fun c => absurd hw.1.symm c)
  exact W.widen (by omega) (by omega) (T E.2.2.2 Z2 H locs ls hw.2 hG hl)
theorem hL_X11_kindBest : yX11_kindBest.cls ≠ "java/lang/invoke/MethodHandle" ∧ yX11_kindBest.cls ≠ "java/lang/invoke/VarHandle" ∧ (parseMethodDescriptor yX11_kindBest.desc).map (fun d => d.parameters.length) = some 3 := by decide +kernel
theorem hL_X12_kindBest : yX12_kindBest.cls ≠ "java/lang/invoke/MethodHandle" ∧ yX12_kindBest.cls ≠ "java/lang/invoke/VarHandle" ∧ (parseMethodDescriptor yX12_kindBest.desc).map (fun d => d.parameters.length) = some 3 := by decide +kernel
set_option maxHeartbeats 2000000 in
theorem lwc_16 (l : Launch) (hfl : l.flags = flags0) {p : Program} {e : Env} {s : State} {m : MethodId} {below : List Frame} {meth : Method} {c : Code} {b L j : Nat} {xs : Nat → Int32} {E : zE} {Z : zS} {H : Heap} {locs : List Loc} {ls : Array Slot} {Q : State → Prop} (hC : lwF p m c s b L xs E) (hj : 6 * j + 6 ≤ L) (hI : zInv Z) (hG : zG E Z s H locs) (hl : lv_has ls 8 (lwLV E b j)) (T : lwT p l e s m below meth c b j E Q) : W p l e room_1 s m #[Value.ref b] below meth c H locs (112 + j) (2948 + 6 * j) Q (F0 m 816 ls []) := by
  have hF := hC.1
  have hx := hF.1.1
  have hb := hF.1.2.1
  have hts := hF.1.2.2.2.2
  have hcc := lw_room hj hC.2.2.2.2.2
  refine lv_aload_n hx hb dL_law_816 rfl (lv_at hl 3 rfl) ?_
  refine lw_arg (lv := lwLV E b j) hC hG rfl (lv_at hl 4 rfl) (lv_at hl 0 rfl) hj 1 (by decide) dL_law_817 dL_law_818 dL_law_820 rfl dL_law_821 dL_law_822 ?_
  refine lw_arg (lv := lwLV E b j) hC hG rfl (lv_at hl 4 rfl) (lv_at hl 0 rfl) hj 2 (by decide) dL_law_823 dL_law_824 dL_law_826 rfl dL_law_827 dL_law_828 ?_
  refine lw_arg (lv := lwLV E b j) hC hG rfl (lv_at hl 4 rfl) (lv_at hl 0 rfl) hj 3 (by decide) dL_law_829 dL_law_830 dL_law_832 rfl dL_law_833 dL_law_834 ?_
  refine z_ci (va_runV (rest := []) hF.1 (kX11_kindBest l E Z (xs (6 * j + 1)) (xs (6 * j + 2)) (xs (6 * j + 3)) (M_kindBest hI) _) (cwV 3 hts gL_law_X11_kindBest rfl rfl rfl ⟨rfl, hL_X11_kindBest⟩ ⟨Nat.le_of_ble_eq_true rfl, Nat.le_of_ble_eq_true rfl⟩) (z_preV hF hG 96 (by decide) z_gs rfl) rfl rfl hl.1 rfl (lv_room (Nat.le_of_ble_eq_true rfl)) dL_law_835 ⟨Nat.le_of_succ_le hcc.1, Nat.le_trans (Nat.le_add_right _ 6) hcc.2⟩) hG (fun r Z1 H locs hw hG => ?_)
  refine lv_aload_n hx hb dL_law_838 rfl (lv_at hl 2 rfl) ?_
  refine lw_arg (lv := lwLV E b j) hC hG rfl (lv_at hl 4 rfl) (lv_at hl 0 rfl) hj 1 (by decide) dL_law_839 dL_law_840 dL_law_842 rfl dL_law_843 dL_law_844 ?_
  refine lw_arg (lv := lwLV E b j) hC hG rfl (lv_at hl 4 rfl) (lv_at hl 0 rfl) hj 2 (by decide) dL_law_845 dL_law_846 dL_law_848 rfl dL_law_849 dL_law_850 ?_
  refine lw_arg (lv := lwLV E b j) hC hG rfl (lv_at hl 4 rfl) (lv_at hl 0 rfl) hj 3 (by decide) dL_law_851 dL_law_852 dL_law_854 rfl dL_law_855 dL_law_856 ?_
  refine z_ci (va_runV (rest := [.int r]) hF.1 (kX12_kindBest l E Z1 (xs (6 * j + 1)) (xs (6 * j + 2)) (xs (6 * j + 3)) hw _) (cwV 3 hts gL_law_X12_kindBest rfl rfl rfl ⟨rfl, hL_X12_kindBest⟩ ⟨Nat.le_of_ble_eq_true rfl, Nat.le_of_ble_eq_true rfl⟩) (z_preV hF hG 97 (by decide) z_md rfl) rfl rfl hl.1 rfl (lv_room (Nat.le_of_ble_eq_true rfl)) dL_law_857 ⟨Nat.le_of_succ_le hcc.1, Nat.le_trans (Nat.le_add_right _ 6) hcc.2⟩) hG (fun r2 Z2 H locs hw hG => ?_)
  refine lv_icmp_eq (tgt := 1835) hx hb dL_law_860 (by decide) (fun _ => ?_) (fun c => absurd hw.1.symm c)
  exact W.widen (by omega) (by omega) (T E.2.2.2 Z2 H locs ls hw.2 hG hl)
theorem hL_X11_send : yX11_send.cls ≠ "java/lang/invoke/MethodHandle" ∧ yX11_send.cls ≠ "java/lang/invoke/VarHandle" ∧ (parseMethodDescriptor yX11_send.desc).map (fun d => d.parameters.length) = some 1 := by decide +kernel
theorem hL_X12_send : yX12_send.cls ≠ "java/lang/invoke/MethodHandle" ∧ yX12_send.cls ≠ "java/lang/invoke/VarHandle" ∧ (parseMethodDescriptor yX12_send.desc).map (fun d => d.parameters.length) = some 1 := by decide +kernel
set_option maxHeartbeats 2000000 in
theorem lwc_17 (l : Launch) (hfl : l.flags = flags0) {p : Program} {e : Env} {s : State} {m : MethodId} {below : List Frame} {meth : Method} {c : Code} {b L j : Nat} {xs : Nat → Int32} {E : zE} {Z : zS} {H : Heap} {locs : List Loc} {ls : Array Slot} {Q : State → Prop} (hC : lwF p m c s b L xs E) (hj : 6 * j + 6 ≤ L) (hI : zInv Z) (hG : zG E Z s H locs) (hl : lv_has ls 8 (lwLV E b j)) (T : lwT p l e s m below meth c b j E Q) : W p l e room_1 s m #[Value.ref b] below meth c H locs (112 + j) (2948 + 6 * j) Q (F0 m 865 ls []) := by
  have hF := hC.1
  have hx := hF.1.1
  have hb := hF.1.2.1
  have hts := hF.1.2.2.2.2
  have hcc := lw_room hj hC.2.2.2.2.2
  refine lv_aload_n hx hb dL_law_865 rfl (lv_at hl 3 rfl) ?_
  refine lw_arg (lv := lwLV E b j) hC hG rfl (lv_at hl 4 rfl) (lv_at hl 0 rfl) hj 1 (by decide) dL_law_866 dL_law_867 dL_law_869 rfl dL_law_870 dL_law_871 ?_
  refine z_ci (va_runV (rest := []) hF.1 (kX11_send l E Z (xs (6 * j + 1)) (M_send hI) _) (cwV 1 hts gL_law_X11_send rfl rfl rfl ⟨rfl, hL_X11_send⟩ ⟨Nat.le_of_ble_eq_true rfl, Nat.le_of_ble_eq_true rfl⟩) (z_preV hF hG 96 (by decide) z_gs rfl) rfl rfl hl.1 rfl (lv_room (Nat.le_of_ble_eq_true rfl)) dL_law_872 ⟨Nat.le_of_succ_le hcc.1, Nat.le_trans (Nat.le_add_right _ 6) hcc.2⟩) hG (fun r Z1 H locs hw hG => ?_)
  refine lv_aload_n hx hb dL_law_875 rfl (lv_at hl 2 rfl) ?_
  refine lw_arg (lv := lwLV E b j) hC hG rfl (lv_at hl 4 rfl) (lv_at hl 0 rfl) hj 1 (by decide) dL_law_876 dL_law_877 dL_law_879 rfl dL_law_880 dL_law_881 ?_
  refine z_ci (va_runV (rest := [.int r]) hF.1 (kX12_send l E Z1 (xs (6 * j + 1)) hw _) (cwV 1 hts gL_law_X12_send rfl rfl rfl ⟨rfl, hL_X12_send⟩ ⟨Nat.le_of_ble_eq_true rfl, Nat.le_of_ble_eq_true rfl⟩) (z_preV hF hG 97 (by decide) z_md rfl) rfl rfl hl.1 rfl (lv_room (Nat.le_of_ble_eq_true rfl)) dL_law_882 ⟨Nat.le_of_succ_le hcc.1, Nat.le_trans (Nat.le_add_right _ 6) hcc.2⟩) hG (fun r2 Z2 H locs hw hG => ?_)
  refine lv_icmp_eq (tgt := 1835) hx hb dL_law_885 (by decide) (fun _ => ?_) (fun c => absurd hw.1.symm c)
  exact W.widen (by omega) (by omega) (T E.2.2.2 Z2 H locs ls hw.2 hG hl)
theorem hL_X11_load : yX11_load.cls ≠ "java/lang/invoke/MethodHandle" ∧ yX11_load.cls ≠ "java/lang/invoke/VarHandle" ∧ (parseMethodDescriptor yX11_load.desc).map (fun d => d.parameters.length) = some 1 := by decide +kernel
theorem hL_X12_load_ : yX12_load_.cls ≠ "java/lang/invoke/MethodHandle" ∧ yX12_load_.cls ≠ "java/lang/invoke/VarHandle" ∧ (parseMethodDescriptor yX12_load_.desc).map (fun d => d.parameters.length) = some 1 := by decide +kernel
set_option maxHeartbeats 2000000 in
theorem lwc_18 (l : Launch) (hfl : l.flags = flags0) {p : Program} {e : Env} {s : State} {m : MethodId} {below : List Frame} {meth : Method} {c : Code} {b L j : Nat} {xs : Nat → Int32} {E : zE} {Z : zS} {H : Heap} {locs : List Loc} {ls : Array Slot} {Q : State → Prop} (hC : lwF p m c s b L xs E) (hj : 6 * j + 6 ≤ L) (hI : zInv Z) (hG : zG E Z s H locs) (hl : lv_has ls 8 (lwLV E b j)) (T : lwT p l e s m below meth c b j E Q) : W p l e room_1 s m #[Value.ref b] below meth c H locs (112 + j) (2948 + 6 * j) Q (F0 m 890 ls []) := by
  have hF := hC.1
  have hx := hF.1.1
  have hb := hF.1.2.1
  have hts := hF.1.2.2.2.2
  have hcc := lw_room hj hC.2.2.2.2.2
  refine lv_aload_n hx hb dL_law_890 rfl (lv_at hl 3 rfl) ?_
  refine lw_arg (lv := lwLV E b j) hC hG rfl (lv_at hl 4 rfl) (lv_at hl 0 rfl) hj 1 (by decide) dL_law_891 dL_law_892 dL_law_894 rfl dL_law_895 dL_law_896 ?_
  refine z_ci (va_runV (rest := []) hF.1 (kX11_load l E Z (xs (6 * j + 1)) (M_load hI) _) (cwV 1 hts gL_law_X11_load rfl rfl rfl ⟨rfl, hL_X11_load⟩ ⟨Nat.le_of_ble_eq_true rfl, Nat.le_of_ble_eq_true rfl⟩) (z_preV hF hG 96 (by decide) z_gs rfl) rfl rfl hl.1 rfl (lv_room (Nat.le_of_ble_eq_true rfl)) dL_law_897 ⟨Nat.le_of_succ_le hcc.1, Nat.le_trans (Nat.le_add_right _ 6) hcc.2⟩) hG (fun r Z1 H locs hw hG => ?_)
  refine lv_aload_n hx hb dL_law_900 rfl (lv_at hl 2 rfl) ?_
  refine lw_arg (lv := lwLV E b j) hC hG rfl (lv_at hl 4 rfl) (lv_at hl 0 rfl) hj 1 (by decide) dL_law_901 dL_law_902 dL_law_904 rfl dL_law_905 dL_law_906 ?_
  refine z_ci (va_runV (rest := [.int r]) hF.1 (kX12_load_ l E Z1 (xs (6 * j + 1)) hw _) (cwV 1 hts gL_law_X12_load_ rfl rfl rfl ⟨rfl, hL_X12_load_⟩ ⟨Nat.le_of_ble_eq_true rfl, Nat.le_of_ble_eq_true rfl⟩) (z_preV hF hG 97 (by decide) z_md rfl) rfl rfl hl.1 rfl (lv_room (Nat.le_of_ble_eq_true rfl)) dL_law_907 ⟨Nat.le_of_succ_le hcc.1, Nat.le_trans (Nat.le_add_right _ 6) hcc.2⟩) hG (fun r2 Z2 H locs hw hG => ?_)
  refine lv_icmp_eq (tgt := 1835) hx hb dL_law_910 (by decide) (fun _ => ?_) (fun c => absurd hw.1.symm c)
  exact W.widen (by omega) (by omega) (T E.2.2.2 Z2 H locs ls hw.2 hG hl)
theorem hL_X11_whoRan : yX11_whoRan.cls ≠ "java/lang/invoke/MethodHandle" ∧ yX11_whoRan.cls ≠ "java/lang/invoke/VarHandle" ∧ (parseMethodDescriptor yX11_whoRan.desc).map (fun d => d.parameters.length) = some 3 := by decide +kernel
theorem hL_X12_whoRan : yX12_whoRan.cls ≠ "java/lang/invoke/MethodHandle" ∧ yX12_whoRan.cls ≠ "java/lang/invoke/VarHandle" ∧ (parseMethodDescriptor yX12_whoRan.desc).map (fun d => d.parameters.length) = some 3 := by decide +kernel
set_option maxHeartbeats 2000000 in
theorem lwc_19 (l : Launch) (hfl : l.flags = flags0) {p : Program} {e : Env} {s : State} {m : MethodId} {below : List Frame} {meth : Method} {c : Code} {b L j : Nat} {xs : Nat → Int32} {E : zE} {Z : zS} {H : Heap} {locs : List Loc} {ls : Array Slot} {Q : State → Prop} (hC : lwF p m c s b L xs E) (hj : 6 * j + 6 ≤ L) (hI : zInv Z) (hG : zG E Z s H locs) (hl : lv_has ls 8 (lwLV E b j)) (T : lwT p l e s m below meth c b j E Q) : W p l e room_1 s m #[Value.ref b] below meth c H locs (112 + j) (2948 + 6 * j) Q (F0 m 915 ls []) := by
  have hF := hC.1
  have hx := hF.1.1
  have hb := hF.1.2.1
  have hts := hF.1.2.2.2.2
  have hcc := lw_room hj hC.2.2.2.2.2
  refine lv_aload_n hx hb dL_law_915 rfl (lv_at hl 3 rfl) ?_
  refine lw_arg (lv := lwLV E b j) hC hG rfl (lv_at hl 4 rfl) (lv_at hl 0 rfl) hj 1 (by decide) dL_law_916 dL_law_917 dL_law_919 rfl dL_law_920 dL_law_921 ?_
  refine lw_arg (lv := lwLV E b j) hC hG rfl (lv_at hl 4 rfl) (lv_at hl 0 rfl) hj 2 (by decide) dL_law_922 dL_law_923 dL_law_925 rfl dL_law_926 dL_law_927 ?_
  refine lw_arg (lv := lwLV E b j) hC hG rfl (lv_at hl 4 rfl) (lv_at hl 0 rfl) hj 3 (by decide) dL_law_928 dL_law_929 dL_law_931 rfl dL_law_932 dL_law_933 ?_
  refine z_ci (va_runV (rest := []) hF.1 (kX11_whoRan l E Z (xs (6 * j + 1)) (xs (6 * j + 2)) (xs (6 * j + 3)) (M_whoRan hI) _) (cwV 3 hts gL_law_X11_whoRan rfl rfl rfl ⟨rfl, hL_X11_whoRan⟩ ⟨Nat.le_of_ble_eq_true rfl, Nat.le_of_ble_eq_true rfl⟩) (z_preV hF hG 96 (by decide) z_gs rfl) rfl rfl hl.1 rfl (lv_room (Nat.le_of_ble_eq_true rfl)) dL_law_934 ⟨Nat.le_of_succ_le hcc.1, Nat.le_trans (Nat.le_add_right _ 6) hcc.2⟩) hG (fun r Z1 H locs hw hG => ?_)
  refine lv_aload_n hx hb dL_law_937 rfl (lv_at hl 2 rfl) ?_
  refine lw_arg (lv := lwLV E b j) hC hG rfl (lv_at hl 4 rfl) (lv_at hl 0 rfl) hj 1 (by decide) dL_law_938 dL_law_939 dL_law_941 rfl dL_law_942 dL_law_943 ?_
  refine lw_arg (lv := lwLV E b j) hC hG rfl (lv_at hl 4 rfl) (lv_at hl 0 rfl) hj 2 (by decide) dL_law_944 dL_law_945 dL_law_947 rfl dL_law_948 dL_law_949 ?_
  refine lw_arg (lv := lwLV E b j) hC hG rfl (lv_at hl 4 rfl) (lv_at hl 0 rfl) hj 3 (by decide) dL_law_950 dL_law_951 dL_law_953 rfl dL_law_954 dL_law_955 ?_
  refine z_ci (va_runV (rest := [.int r]) hF.1 (kX12_whoRan l E Z1 (xs (6 * j + 1)) (xs (6 * j + 2)) (xs (6 * j + 3)) hw _) (cwV 3 hts gL_law_X12_whoRan rfl rfl rfl ⟨rfl, hL_X12_whoRan⟩ ⟨Nat.le_of_ble_eq_true rfl, Nat.le_of_ble_eq_true rfl⟩) (z_preV hF hG 97 (by decide) z_md rfl) rfl rfl hl.1 rfl (lv_room (Nat.le_of_ble_eq_true rfl)) dL_law_956 ⟨Nat.le_of_succ_le hcc.1, Nat.le_trans (Nat.le_add_right _ 6) hcc.2⟩) hG (fun r2 Z2 H locs hw hG => ?_)
  refine lv_icmp_eq (tgt := 1835) hx hb dL_law_959 (by decide) (fun _ => ?_) (fun c => absurd hw.1.symm c)
  exact W.widen (by omega) (by omega) (T E.2.2.2 Z2 H locs ls hw.2 hG hl)
theorem hL_X11_two : yX11_two.cls ≠ "java/lang/invoke/MethodHandle" ∧ yX11_two.cls ≠ "java/lang/invoke/VarHandle" ∧ (parseMethodDescriptor yX11_two.desc).map (fun d => d.parameters.length) = some 3 := by decide +kernel
theorem hL_X12_two : yX12_two.cls ≠ "java/lang/invoke/MethodHandle" ∧ yX12_two.cls ≠ "java/lang/invoke/VarHandle" ∧ (parseMethodDescriptor yX12_two.desc).map (fun d => d.parameters.length) = some 3 := by decide +kernel
set_option maxHeartbeats 2000000 in
theorem lwc_20 (l : Launch) (hfl : l.flags = flags0) {p : Program} {e : Env} {s : State} {m : MethodId} {below : List Frame} {meth : Method} {c : Code} {b L j : Nat} {xs : Nat → Int32} {E : zE} {Z : zS} {H : Heap} {locs : List Loc} {ls : Array Slot} {Q : State → Prop} (hC : lwF p m c s b L xs E) (hj : 6 * j + 6 ≤ L) (hI : zInv Z) (hG : zG E Z s H locs) (hl : lv_has ls 8 (lwLV E b j)) (T : lwT p l e s m below meth c b j E Q) : W p l e room_1 s m #[Value.ref b] below meth c H locs (112 + j) (2948 + 6 * j) Q (F0 m 964 ls []) := by
  have hF := hC.1
  have hx := hF.1.1
  have hb := hF.1.2.1
  have hts := hF.1.2.2.2.2
  have hcc := lw_room hj hC.2.2.2.2.2
  refine lv_aload_n hx hb dL_law_964 rfl (lv_at hl 3 rfl) ?_
  refine lw_arg (lv := lwLV E b j) hC hG rfl (lv_at hl 4 rfl) (lv_at hl 0 rfl) hj 1 (by decide) dL_law_965 dL_law_966 dL_law_968 rfl dL_law_969 dL_law_970 ?_
  refine lw_arg (lv := lwLV E b j) hC hG rfl (lv_at hl 4 rfl) (lv_at hl 0 rfl) hj 2 (by decide) dL_law_971 dL_law_972 dL_law_974 rfl dL_law_975 dL_law_976 ?_
  refine lw_arg (lv := lwLV E b j) hC hG rfl (lv_at hl 4 rfl) (lv_at hl 0 rfl) hj 3 (by decide) dL_law_977 dL_law_978 dL_law_980 rfl dL_law_981 dL_law_982 ?_
  refine z_ci (va_runV (rest := []) hF.1 (kX11_two l E Z (xs (6 * j + 1)) (xs (6 * j + 2)) (xs (6 * j + 3)) (M_two hI) _) (cwV 3 hts gL_law_X11_two rfl rfl rfl ⟨rfl, hL_X11_two⟩ ⟨Nat.le_of_ble_eq_true rfl, Nat.le_of_ble_eq_true rfl⟩) (z_preV hF hG 96 (by decide) z_gs rfl) rfl rfl hl.1 rfl (lv_room (Nat.le_of_ble_eq_true rfl)) dL_law_983 ⟨Nat.le_of_succ_le hcc.1, Nat.le_trans (Nat.le_add_right _ 6) hcc.2⟩) hG (fun r Z1 H locs hw hG => ?_)
  refine lv_aload_n hx hb dL_law_986 rfl (lv_at hl 2 rfl) ?_
  refine lw_arg (lv := lwLV E b j) hC hG rfl (lv_at hl 4 rfl) (lv_at hl 0 rfl) hj 1 (by decide) dL_law_987 dL_law_988 dL_law_990 rfl dL_law_991 dL_law_992 ?_
  refine lw_arg (lv := lwLV E b j) hC hG rfl (lv_at hl 4 rfl) (lv_at hl 0 rfl) hj 2 (by decide) dL_law_993 dL_law_994 dL_law_996 rfl dL_law_997 dL_law_998 ?_
  refine lw_arg (lv := lwLV E b j) hC hG rfl (lv_at hl 4 rfl) (lv_at hl 0 rfl) hj 3 (by decide) dL_law_999 dL_law_1000 dL_law_1002 rfl dL_law_1003 dL_law_1004 ?_
  refine z_ci (va_runV (rest := [.int r]) hF.1 (kX12_two l E Z1 (xs (6 * j + 1)) (xs (6 * j + 2)) (xs (6 * j + 3)) hw _) (cwV 3 hts gL_law_X12_two rfl rfl rfl ⟨rfl, hL_X12_two⟩ ⟨Nat.le_of_ble_eq_true rfl, Nat.le_of_ble_eq_true rfl⟩) (z_preV hF hG 97 (by decide) z_md rfl) rfl rfl hl.1 rfl (lv_room (Nat.le_of_ble_eq_true rfl)) dL_law_1005 ⟨Nat.le_of_succ_le hcc.1, Nat.le_trans (Nat.le_add_right _ 6) hcc.2⟩) hG (fun r2 Z2 H locs hw hG => ?_)
  refine lv_icmp_eq (tgt := 1835) hx hb dL_law_1008 (by decide) (fun _ => ?_) (fun c => absurd hw.1.symm c)
  exact W.widen (by omega) (by omega) (T E.2.2.2 Z2 H locs ls hw.2 hG hl)
theorem hL_X11_breaks : yX11_breaks.cls ≠ "java/lang/invoke/MethodHandle" ∧ yX11_breaks.cls ≠ "java/lang/invoke/VarHandle" ∧ (parseMethodDescriptor yX11_breaks.desc).map (fun d => d.parameters.length) = some 4 := by decide +kernel
theorem hL_X12_breaks : yX12_breaks.cls ≠ "java/lang/invoke/MethodHandle" ∧ yX12_breaks.cls ≠ "java/lang/invoke/VarHandle" ∧ (parseMethodDescriptor yX12_breaks.desc).map (fun d => d.parameters.length) = some 4 := by decide +kernel
set_option maxHeartbeats 2000000 in
theorem lwc_21 (l : Launch) (hfl : l.flags = flags0) {p : Program} {e : Env} {s : State} {m : MethodId} {below : List Frame} {meth : Method} {c : Code} {b L j : Nat} {xs : Nat → Int32} {E : zE} {Z : zS} {H : Heap} {locs : List Loc} {ls : Array Slot} {Q : State → Prop} (hC : lwF p m c s b L xs E) (hj : 6 * j + 6 ≤ L) (hI : zInv Z) (hG : zG E Z s H locs) (hl : lv_has ls 8 (lwLV E b j)) (T : lwT p l e s m below meth c b j E Q) : W p l e room_1 s m #[Value.ref b] below meth c H locs (112 + j) (2948 + 6 * j) Q (F0 m 1013 ls []) := by
  have hF := hC.1
  have hx := hF.1.1
  have hb := hF.1.2.1
  have hts := hF.1.2.2.2.2
  have hcc := lw_room hj hC.2.2.2.2.2
  refine lv_aload_n hx hb dL_law_1013 rfl (lv_at hl 3 rfl) ?_
  refine lw_arg (lv := lwLV E b j) hC hG rfl (lv_at hl 4 rfl) (lv_at hl 0 rfl) hj 1 (by decide) dL_law_1014 dL_law_1015 dL_law_1017 rfl dL_law_1018 dL_law_1019 ?_
  refine lw_arg (lv := lwLV E b j) hC hG rfl (lv_at hl 4 rfl) (lv_at hl 0 rfl) hj 2 (by decide) dL_law_1020 dL_law_1021 dL_law_1023 rfl dL_law_1024 dL_law_1025 ?_
  refine lw_arg (lv := lwLV E b j) hC hG rfl (lv_at hl 4 rfl) (lv_at hl 0 rfl) hj 3 (by decide) dL_law_1026 dL_law_1027 dL_law_1029 rfl dL_law_1030 dL_law_1031 ?_
  refine lw_arg (lv := lwLV E b j) hC hG rfl (lv_at hl 4 rfl) (lv_at hl 0 rfl) hj 4 (by decide) dL_law_1032 dL_law_1033 dL_law_1035 rfl dL_law_1036 dL_law_1037 ?_
  refine z_cl (va_runV (rest := []) hF.1 (kX11_breaks l E Z (xs (6 * j + 1)) (xs (6 * j + 2)) (xs (6 * j + 3)) (xs (6 * j + 4)) (M_breaks hI) _) (cwV 4 hts gL_law_X11_breaks rfl rfl rfl ⟨rfl, hL_X11_breaks⟩ ⟨Nat.le_of_ble_eq_true rfl, Nat.le_of_ble_eq_true rfl⟩) (z_preV hF hG 96 (by decide) z_gs rfl) rfl rfl hl.1 rfl (lv_room (Nat.le_of_ble_eq_true rfl)) dL_law_1038 ⟨Nat.le_of_succ_le hcc.1, Nat.le_trans (Nat.le_add_right _ 6) hcc.2⟩) hG (fun r Z1 H locs hw hG => ?_)
  refine lv_aload_n hx hb dL_law_1041 rfl (lv_at hl 2 rfl) ?_
  refine lw_arg (lv := lwLV E b j) hC hG rfl (lv_at hl 4 rfl) (lv_at hl 0 rfl) hj 1 (by decide) dL_law_1042 dL_law_1043 dL_law_1045 rfl dL_law_1046 dL_law_1047 ?_
  refine lw_arg (lv := lwLV E b j) hC hG rfl (lv_at hl 4 rfl) (lv_at hl 0 rfl) hj 2 (by decide) dL_law_1048 dL_law_1049 dL_law_1051 rfl dL_law_1052 dL_law_1053 ?_
  refine lw_arg (lv := lwLV E b j) hC hG rfl (lv_at hl 4 rfl) (lv_at hl 0 rfl) hj 3 (by decide) dL_law_1054 dL_law_1055 dL_law_1057 rfl dL_law_1058 dL_law_1059 ?_
  refine lw_arg (lv := lwLV E b j) hC hG rfl (lv_at hl 4 rfl) (lv_at hl 0 rfl) hj 4 (by decide) dL_law_1060 dL_law_1061 dL_law_1063 rfl dL_law_1064 dL_law_1065 ?_
  refine z_cl (va_runV (rest := [.long r]) hF.1 (kX12_breaks l E Z1 (xs (6 * j + 1)) (xs (6 * j + 2)) (xs (6 * j + 3)) (xs (6 * j + 4)) hw _) (cwV 4 hts gL_law_X12_breaks rfl rfl rfl ⟨rfl, hL_X12_breaks⟩ ⟨Nat.le_of_ble_eq_true rfl, Nat.le_of_ble_eq_true rfl⟩) (z_preV hF hG 97 (by decide) z_md rfl) rfl rfl hl.1 rfl (lv_room (Nat.le_of_ble_eq_true rfl)) dL_law_1066 ⟨Nat.le_of_succ_le hcc.1, Nat.le_trans (Nat.le_add_right _ 6) hcc.2⟩) hG (fun r2 Z2 H locs hw hG => ?_)
  refine W.lcmp hx hb dL_law_1069 ?_
  refine lv_if_eq (tgt := 1835) hx hb dL_law_1070 (by decide) (fun _ => ?_) (fun c => absurd ((lg_cmp_eq _ _).mpr hw.1.symm) c)
  exact W.widen (by omega) (by omega) (T E.2.2.2 Z2 H locs ls hw.2 hG hl)
theorem hL_X11_share : yX11_share.cls ≠ "java/lang/invoke/MethodHandle" ∧ yX11_share.cls ≠ "java/lang/invoke/VarHandle" ∧ (parseMethodDescriptor yX11_share.desc).map (fun d => d.parameters.length) = some 2 := by decide +kernel
theorem hL_X12_share_ : yX12_share_.cls ≠ "java/lang/invoke/MethodHandle" ∧ yX12_share_.cls ≠ "java/lang/invoke/VarHandle" ∧ (parseMethodDescriptor yX12_share_.desc).map (fun d => d.parameters.length) = some 2 := by decide +kernel
set_option maxHeartbeats 2000000 in
theorem lwc_22 (l : Launch) (hfl : l.flags = flags0) {p : Program} {e : Env} {s : State} {m : MethodId} {below : List Frame} {meth : Method} {c : Code} {b L j : Nat} {xs : Nat → Int32} {E : zE} {Z : zS} {H : Heap} {locs : List Loc} {ls : Array Slot} {Q : State → Prop} (hC : lwF p m c s b L xs E) (hj : 6 * j + 6 ≤ L) (hI : zInv Z) (hG : zG E Z s H locs) (hl : lv_has ls 8 (lwLV E b j)) (T : lwT p l e s m below meth c b j E Q) : W p l e room_1 s m #[Value.ref b] below meth c H locs (112 + j) (2948 + 6 * j) Q (F0 m 1075 ls []) := by
  have hF := hC.1
  have hx := hF.1.1
  have hb := hF.1.2.1
  have hts := hF.1.2.2.2.2
  have hcc := lw_room hj hC.2.2.2.2.2
  refine lv_aload_n hx hb dL_law_1075 rfl (lv_at hl 3 rfl) ?_
  refine lw_arg (lv := lwLV E b j) hC hG rfl (lv_at hl 4 rfl) (lv_at hl 0 rfl) hj 1 (by decide) dL_law_1076 dL_law_1077 dL_law_1079 rfl dL_law_1080 dL_law_1081 ?_
  refine lw_arg (lv := lwLV E b j) hC hG rfl (lv_at hl 4 rfl) (lv_at hl 0 rfl) hj 2 (by decide) dL_law_1082 dL_law_1083 dL_law_1085 rfl dL_law_1086 dL_law_1087 ?_
  refine z_cl (va_runV (rest := []) hF.1 (kX11_share l E Z (xs (6 * j + 1)) (xs (6 * j + 2)) (M_share hI) _) (cwV 2 hts gL_law_X11_share rfl rfl rfl ⟨rfl, hL_X11_share⟩ ⟨Nat.le_of_ble_eq_true rfl, Nat.le_of_ble_eq_true rfl⟩) (z_preV hF hG 96 (by decide) z_gs rfl) rfl rfl hl.1 rfl (lv_room (Nat.le_of_ble_eq_true rfl)) dL_law_1088 ⟨Nat.le_of_succ_le hcc.1, Nat.le_trans (Nat.le_add_right _ 6) hcc.2⟩) hG (fun r Z1 H locs hw hG => ?_)
  refine lv_aload_n hx hb dL_law_1091 rfl (lv_at hl 2 rfl) ?_
  refine lw_arg (lv := lwLV E b j) hC hG rfl (lv_at hl 4 rfl) (lv_at hl 0 rfl) hj 1 (by decide) dL_law_1092 dL_law_1093 dL_law_1095 rfl dL_law_1096 dL_law_1097 ?_
  refine lw_arg (lv := lwLV E b j) hC hG rfl (lv_at hl 4 rfl) (lv_at hl 0 rfl) hj 2 (by decide) dL_law_1098 dL_law_1099 dL_law_1101 rfl dL_law_1102 dL_law_1103 ?_
  refine z_cl (va_runV (rest := [.long r]) hF.1 (kX12_share_ l E Z1 (xs (6 * j + 1)) (xs (6 * j + 2)) hw _) (cwV 2 hts gL_law_X12_share_ rfl rfl rfl ⟨rfl, hL_X12_share_⟩ ⟨Nat.le_of_ble_eq_true rfl, Nat.le_of_ble_eq_true rfl⟩) (z_preV hF hG 97 (by decide) z_md rfl) rfl rfl hl.1 rfl (lv_room (Nat.le_of_ble_eq_true rfl)) dL_law_1104 ⟨Nat.le_of_succ_le hcc.1, Nat.le_trans (Nat.le_add_right _ 6) hcc.2⟩) hG (fun r2 Z2 H locs hw hG => ?_)
  refine W.lcmp hx hb dL_law_1107 ?_
  refine lv_if_eq (tgt := 1835) hx hb dL_law_1108 (by decide) (fun _ => ?_) (fun c => absurd ((lg_cmp_eq _ _).mpr hw.1.symm) c)
  exact W.widen (by omega) (by omega) (T E.2.2.2 Z2 H locs ls hw.2 hG hl)
theorem hL_X11_bits : yX11_bits.cls ≠ "java/lang/invoke/MethodHandle" ∧ yX11_bits.cls ≠ "java/lang/invoke/VarHandle" ∧ (parseMethodDescriptor yX11_bits.desc).map (fun d => d.parameters.length) = some 1 := by decide +kernel
theorem hL_X12_bits : yX12_bits.cls ≠ "java/lang/invoke/MethodHandle" ∧ yX12_bits.cls ≠ "java/lang/invoke/VarHandle" ∧ (parseMethodDescriptor yX12_bits.desc).map (fun d => d.parameters.length) = some 1 := by decide +kernel
set_option maxHeartbeats 2000000 in
theorem lwc_23 (l : Launch) (hfl : l.flags = flags0) {p : Program} {e : Env} {s : State} {m : MethodId} {below : List Frame} {meth : Method} {c : Code} {b L j : Nat} {xs : Nat → Int32} {E : zE} {Z : zS} {H : Heap} {locs : List Loc} {ls : Array Slot} {Q : State → Prop} (hC : lwF p m c s b L xs E) (hj : 6 * j + 6 ≤ L) (hI : zInv Z) (hG : zG E Z s H locs) (hl : lv_has ls 8 (lwLV E b j)) (T : lwT p l e s m below meth c b j E Q) : W p l e room_1 s m #[Value.ref b] below meth c H locs (112 + j) (2948 + 6 * j) Q (F0 m 1113 ls []) := by
  have hF := hC.1
  have hx := hF.1.1
  have hb := hF.1.2.1
  have hts := hF.1.2.2.2.2
  have hcc := lw_room hj hC.2.2.2.2.2
  refine lv_aload_n hx hb dL_law_1113 rfl (lv_at hl 3 rfl) ?_
  refine lw_arg (lv := lwLV E b j) hC hG rfl (lv_at hl 4 rfl) (lv_at hl 0 rfl) hj 1 (by decide) dL_law_1114 dL_law_1115 dL_law_1117 rfl dL_law_1118 dL_law_1119 ?_
  refine z_ci (va_runV (rest := []) hF.1 (kX11_bits l E Z (xs (6 * j + 1)) (M_bits hI) _) (cwV 1 hts gL_law_X11_bits rfl rfl rfl ⟨rfl, hL_X11_bits⟩ ⟨Nat.le_of_ble_eq_true rfl, Nat.le_of_ble_eq_true rfl⟩) (z_preV hF hG 96 (by decide) z_gs rfl) rfl rfl hl.1 rfl (lv_room (Nat.le_of_ble_eq_true rfl)) dL_law_1120 ⟨Nat.le_of_succ_le hcc.1, Nat.le_trans (Nat.le_add_right _ 6) hcc.2⟩) hG (fun r Z1 H locs hw hG => ?_)
  refine lv_aload_n hx hb dL_law_1123 rfl (lv_at hl 2 rfl) ?_
  refine lw_arg (lv := lwLV E b j) hC hG rfl (lv_at hl 4 rfl) (lv_at hl 0 rfl) hj 1 (by decide) dL_law_1124 dL_law_1125 dL_law_1127 rfl dL_law_1128 dL_law_1129 ?_
  refine z_ci (va_runV (rest := [.int r]) hF.1 (kX12_bits l E Z1 (xs (6 * j + 1)) hw _) (cwV 1 hts gL_law_X12_bits rfl rfl rfl ⟨rfl, hL_X12_bits⟩ ⟨Nat.le_of_ble_eq_true rfl, Nat.le_of_ble_eq_true rfl⟩) (z_preV hF hG 97 (by decide) z_md rfl) rfl rfl hl.1 rfl (lv_room (Nat.le_of_ble_eq_true rfl)) dL_law_1130 ⟨Nat.le_of_succ_le hcc.1, Nat.le_trans (Nat.le_add_right _ 6) hcc.2⟩) hG (fun r2 Z2 H locs hw hG => ?_)
  refine lv_icmp_eq (tgt := 1835) hx hb dL_law_1133 (by decide) (fun _ => ?_) (fun c => absurd hw.1.symm c)
  exact W.widen (by omega) (by omega) (T E.2.2.2 Z2 H locs ls hw.2 hG hl)
theorem hL_X11_wide : yX11_wide.cls ≠ "java/lang/invoke/MethodHandle" ∧ yX11_wide.cls ≠ "java/lang/invoke/VarHandle" ∧ (parseMethodDescriptor yX11_wide.desc).map (fun d => d.parameters.length) = some 1 := by decide +kernel
theorem hL_X12_wide : yX12_wide.cls ≠ "java/lang/invoke/MethodHandle" ∧ yX12_wide.cls ≠ "java/lang/invoke/VarHandle" ∧ (parseMethodDescriptor yX12_wide.desc).map (fun d => d.parameters.length) = some 1 := by decide +kernel
set_option maxHeartbeats 2000000 in
theorem lwc_24 (l : Launch) (hfl : l.flags = flags0) {p : Program} {e : Env} {s : State} {m : MethodId} {below : List Frame} {meth : Method} {c : Code} {b L j : Nat} {xs : Nat → Int32} {E : zE} {Z : zS} {H : Heap} {locs : List Loc} {ls : Array Slot} {Q : State → Prop} (hC : lwF p m c s b L xs E) (hj : 6 * j + 6 ≤ L) (hI : zInv Z) (hG : zG E Z s H locs) (hl : lv_has ls 8 (lwLV E b j)) (T : lwT p l e s m below meth c b j E Q) : W p l e room_1 s m #[Value.ref b] below meth c H locs (112 + j) (2948 + 6 * j) Q (F0 m 1138 ls []) := by
  have hF := hC.1
  have hx := hF.1.1
  have hb := hF.1.2.1
  have hts := hF.1.2.2.2.2
  have hcc := lw_room hj hC.2.2.2.2.2
  refine lv_aload_n hx hb dL_law_1138 rfl (lv_at hl 3 rfl) ?_
  refine lw_arg (lv := lwLV E b j) hC hG rfl (lv_at hl 4 rfl) (lv_at hl 0 rfl) hj 1 (by decide) dL_law_1139 dL_law_1140 dL_law_1142 rfl dL_law_1143 dL_law_1144 ?_
  refine z_cl (va_runV (rest := []) hF.1 (kX11_wide l E Z (xs (6 * j + 1)) (M_wide hI) _) (cwV 1 hts gL_law_X11_wide rfl rfl rfl ⟨rfl, hL_X11_wide⟩ ⟨Nat.le_of_ble_eq_true rfl, Nat.le_of_ble_eq_true rfl⟩) (z_preV hF hG 96 (by decide) z_gs rfl) rfl rfl hl.1 rfl (lv_room (Nat.le_of_ble_eq_true rfl)) dL_law_1145 ⟨Nat.le_of_succ_le hcc.1, Nat.le_trans (Nat.le_add_right _ 6) hcc.2⟩) hG (fun r Z1 H locs hw hG => ?_)
  refine lv_aload_n hx hb dL_law_1148 rfl (lv_at hl 2 rfl) ?_
  refine lw_arg (lv := lwLV E b j) hC hG rfl (lv_at hl 4 rfl) (lv_at hl 0 rfl) hj 1 (by decide) dL_law_1149 dL_law_1150 dL_law_1152 rfl dL_law_1153 dL_law_1154 ?_
  refine z_cl (va_runV (rest := [.long r]) hF.1 (kX12_wide l E Z1 (xs (6 * j + 1)) hw _) (cwV 1 hts gL_law_X12_wide rfl rfl rfl ⟨rfl, hL_X12_wide⟩ ⟨Nat.le_of_ble_eq_true rfl, Nat.le_of_ble_eq_true rfl⟩) (z_preV hF hG 97 (by decide) z_md rfl) rfl rfl hl.1 rfl (lv_room (Nat.le_of_ble_eq_true rfl)) dL_law_1155 ⟨Nat.le_of_succ_le hcc.1, Nat.le_trans (Nat.le_add_right _ 6) hcc.2⟩) hG (fun r2 Z2 H locs hw hG => ?_)
  refine W.lcmp hx hb dL_law_1158 ?_
  refine lv_if_eq (tgt := 1835) hx hb dL_law_1159 (by decide) (fun _ => ?_) (fun c => absurd ((lg_cmp_eq _ _).mpr hw.1.symm) c)
  exact W.widen (by omega) (by omega) (T E.2.2.2 Z2 H locs ls hw.2 hG hl)
theorem hL_X11_forged : yX11_forged.cls ≠ "java/lang/invoke/MethodHandle" ∧ yX11_forged.cls ≠ "java/lang/invoke/VarHandle" ∧ (parseMethodDescriptor yX11_forged.desc).map (fun d => d.parameters.length) = some 1 := by decide +kernel
theorem hL_X12_forged : yX12_forged.cls ≠ "java/lang/invoke/MethodHandle" ∧ yX12_forged.cls ≠ "java/lang/invoke/VarHandle" ∧ (parseMethodDescriptor yX12_forged.desc).map (fun d => d.parameters.length) = some 1 := by decide +kernel
set_option maxHeartbeats 2000000 in
theorem lwc_25 (l : Launch) (hfl : l.flags = flags0) {p : Program} {e : Env} {s : State} {m : MethodId} {below : List Frame} {meth : Method} {c : Code} {b L j : Nat} {xs : Nat → Int32} {E : zE} {Z : zS} {H : Heap} {locs : List Loc} {ls : Array Slot} {Q : State → Prop} (hC : lwF p m c s b L xs E) (hj : 6 * j + 6 ≤ L) (hI : zInv Z) (hG : zG E Z s H locs) (hl : lv_has ls 8 (lwLV E b j)) (T : lwT p l e s m below meth c b j E Q) : W p l e room_1 s m #[Value.ref b] below meth c H locs (112 + j) (2948 + 6 * j) Q (F0 m 1164 ls []) := by
  have hF := hC.1
  have hx := hF.1.1
  have hb := hF.1.2.1
  have hts := hF.1.2.2.2.2
  have hcc := lw_room hj hC.2.2.2.2.2
  refine lv_aload_n hx hb dL_law_1164 rfl (lv_at hl 3 rfl) ?_
  refine lw_arg (lv := lwLV E b j) hC hG rfl (lv_at hl 4 rfl) (lv_at hl 0 rfl) hj 1 (by decide) dL_law_1165 dL_law_1166 dL_law_1168 rfl dL_law_1169 dL_law_1170 ?_
  refine z_ci (va_runV (rest := []) hF.1 (kX11_forged l E Z (xs (6 * j + 1)) (M_forged hI) _) (cwV 1 hts gL_law_X11_forged rfl rfl rfl ⟨rfl, hL_X11_forged⟩ ⟨Nat.le_of_ble_eq_true rfl, Nat.le_of_ble_eq_true rfl⟩) (z_preV hF hG 96 (by decide) z_gs rfl) rfl rfl hl.1 rfl (lv_room (Nat.le_of_ble_eq_true rfl)) dL_law_1171 ⟨Nat.le_of_succ_le hcc.1, Nat.le_trans (Nat.le_add_right _ 6) hcc.2⟩) hG (fun r Z1 H locs hw hG => ?_)
  refine lv_aload_n hx hb dL_law_1174 rfl (lv_at hl 2 rfl) ?_
  refine lw_arg (lv := lwLV E b j) hC hG rfl (lv_at hl 4 rfl) (lv_at hl 0 rfl) hj 1 (by decide) dL_law_1175 dL_law_1176 dL_law_1178 rfl dL_law_1179 dL_law_1180 ?_
  refine z_ci (va_runV (rest := [.int r]) hF.1 (kX12_forged l E Z1 (xs (6 * j + 1)) hw _) (cwV 1 hts gL_law_X12_forged rfl rfl rfl ⟨rfl, hL_X12_forged⟩ ⟨Nat.le_of_ble_eq_true rfl, Nat.le_of_ble_eq_true rfl⟩) (z_preV hF hG 97 (by decide) z_md rfl) rfl rfl hl.1 rfl (lv_room (Nat.le_of_ble_eq_true rfl)) dL_law_1181 ⟨Nat.le_of_succ_le hcc.1, Nat.le_trans (Nat.le_add_right _ 6) hcc.2⟩) hG (fun r2 Z2 H locs hw hG => ?_)
  refine lv_icmp_eq (tgt := 1835) hx hb dL_law_1184 (by decide) (fun _ => ?_) (fun c => absurd hw.1.symm c)
  exact W.widen (by omega) (by omega) (T E.2.2.2 Z2 H locs ls hw.2 hG hl)
theorem hL_X11_judge : yX11_judge.cls ≠ "java/lang/invoke/MethodHandle" ∧ yX11_judge.cls ≠ "java/lang/invoke/VarHandle" ∧ (parseMethodDescriptor yX11_judge.desc).map (fun d => d.parameters.length) = some 1 := by decide +kernel
theorem hL_X12_judge : yX12_judge.cls ≠ "java/lang/invoke/MethodHandle" ∧ yX12_judge.cls ≠ "java/lang/invoke/VarHandle" ∧ (parseMethodDescriptor yX12_judge.desc).map (fun d => d.parameters.length) = some 1 := by decide +kernel
set_option maxHeartbeats 2000000 in
theorem lwc_26 (l : Launch) (hfl : l.flags = flags0) {p : Program} {e : Env} {s : State} {m : MethodId} {below : List Frame} {meth : Method} {c : Code} {b L j : Nat} {xs : Nat → Int32} {E : zE} {Z : zS} {H : Heap} {locs : List Loc} {ls : Array Slot} {Q : State → Prop} (hC : lwF p m c s b L xs E) (hj : 6 * j + 6 ≤ L) (hI : zInv Z) (hG : zG E Z s H locs) (hl : lv_has ls 8 (lwLV E b j)) (T : lwT p l e s m below meth c b j E Q) : W p l e room_1 s m #[Value.ref b] below meth c H locs (112 + j) (2948 + 6 * j) Q (F0 m 1189 ls []) := by
  have hF := hC.1
  have hx := hF.1.1
  have hb := hF.1.2.1
  have hts := hF.1.2.2.2.2
  have hcc := lw_room hj hC.2.2.2.2.2
  refine lv_aload_n hx hb dL_law_1189 rfl (lv_at hl 3 rfl) ?_
  refine lw_arg (lv := lwLV E b j) hC hG rfl (lv_at hl 4 rfl) (lv_at hl 0 rfl) hj 1 (by decide) dL_law_1190 dL_law_1191 dL_law_1193 rfl dL_law_1194 dL_law_1195 ?_
  refine z_ci (va_runV (rest := []) hF.1 (kX11_judge l E Z (xs (6 * j + 1)) (M_judge hI) _) (cwV 1 hts gL_law_X11_judge rfl rfl rfl ⟨rfl, hL_X11_judge⟩ ⟨Nat.le_of_ble_eq_true rfl, Nat.le_of_ble_eq_true rfl⟩) (z_preV hF hG 96 (by decide) z_gs rfl) rfl rfl hl.1 rfl (lv_room (Nat.le_of_ble_eq_true rfl)) dL_law_1196 ⟨Nat.le_of_succ_le hcc.1, Nat.le_trans (Nat.le_add_right _ 6) hcc.2⟩) hG (fun r Z1 H locs hw hG => ?_)
  refine lv_aload_n hx hb dL_law_1199 rfl (lv_at hl 2 rfl) ?_
  refine lw_arg (lv := lwLV E b j) hC hG rfl (lv_at hl 4 rfl) (lv_at hl 0 rfl) hj 1 (by decide) dL_law_1200 dL_law_1201 dL_law_1203 rfl dL_law_1204 dL_law_1205 ?_
  refine z_ci (va_runV (rest := [.int r]) hF.1 (kX12_judge l E Z1 (xs (6 * j + 1)) hw _) (cwV 1 hts gL_law_X12_judge rfl rfl rfl ⟨rfl, hL_X12_judge⟩ ⟨Nat.le_of_ble_eq_true rfl, Nat.le_of_ble_eq_true rfl⟩) (z_preV hF hG 97 (by decide) z_md rfl) rfl rfl hl.1 rfl (lv_room (Nat.le_of_ble_eq_true rfl)) dL_law_1206 ⟨Nat.le_of_succ_le hcc.1, Nat.le_trans (Nat.le_add_right _ 6) hcc.2⟩) hG (fun r2 Z2 H locs hw hG => ?_)
  refine lv_icmp_eq (tgt := 1835) hx hb dL_law_1209 (by decide) (fun _ => ?_) (fun c => absurd hw.1.symm c)
  exact W.widen (by omega) (by omega) (T E.2.2.2 Z2 H locs ls hw.2 hG hl)
theorem hL_X11_days : yX11_days.cls ≠ "java/lang/invoke/MethodHandle" ∧ yX11_days.cls ≠ "java/lang/invoke/VarHandle" ∧ (parseMethodDescriptor yX11_days.desc).map (fun d => d.parameters.length) = some 3 := by decide +kernel
theorem hL_X12_days : yX12_days.cls ≠ "java/lang/invoke/MethodHandle" ∧ yX12_days.cls ≠ "java/lang/invoke/VarHandle" ∧ (parseMethodDescriptor yX12_days.desc).map (fun d => d.parameters.length) = some 3 := by decide +kernel
set_option maxHeartbeats 2000000 in
theorem lwc_27 (l : Launch) (hfl : l.flags = flags0) {p : Program} {e : Env} {s : State} {m : MethodId} {below : List Frame} {meth : Method} {c : Code} {b L j : Nat} {xs : Nat → Int32} {E : zE} {Z : zS} {H : Heap} {locs : List Loc} {ls : Array Slot} {Q : State → Prop} (hC : lwF p m c s b L xs E) (hj : 6 * j + 6 ≤ L) (hI : zInv Z) (hG : zG E Z s H locs) (hl : lv_has ls 8 (lwLV E b j)) (T : lwT p l e s m below meth c b j E Q) : W p l e room_1 s m #[Value.ref b] below meth c H locs (112 + j) (2948 + 6 * j) Q (F0 m 1214 ls []) := by
  have hF := hC.1
  have hx := hF.1.1
  have hb := hF.1.2.1
  have hts := hF.1.2.2.2.2
  have hcc := lw_room hj hC.2.2.2.2.2
  refine lv_aload_n hx hb dL_law_1214 rfl (lv_at hl 3 rfl) ?_
  refine lw_arg (lv := lwLV E b j) hC hG rfl (lv_at hl 4 rfl) (lv_at hl 0 rfl) hj 1 (by decide) dL_law_1215 dL_law_1216 dL_law_1218 rfl dL_law_1219 dL_law_1220 ?_
  refine lw_arg (lv := lwLV E b j) hC hG rfl (lv_at hl 4 rfl) (lv_at hl 0 rfl) hj 2 (by decide) dL_law_1221 dL_law_1222 dL_law_1224 rfl dL_law_1225 dL_law_1226 ?_
  refine lw_arg (lv := lwLV E b j) hC hG rfl (lv_at hl 4 rfl) (lv_at hl 0 rfl) hj 3 (by decide) dL_law_1227 dL_law_1228 dL_law_1230 rfl dL_law_1231 dL_law_1232 ?_
  refine z_ci (va_runV (rest := []) hF.1 (kX11_days l E Z (xs (6 * j + 1)) (xs (6 * j + 2)) (xs (6 * j + 3)) (M_days hI) _) (cwV 3 hts gL_law_X11_days rfl rfl rfl ⟨rfl, hL_X11_days⟩ ⟨Nat.le_of_ble_eq_true rfl, Nat.le_of_ble_eq_true rfl⟩) (z_preV hF hG 96 (by decide) z_gs rfl) rfl rfl hl.1 rfl (lv_room (Nat.le_of_ble_eq_true rfl)) dL_law_1233 ⟨Nat.le_of_succ_le hcc.1, Nat.le_trans (Nat.le_add_right _ 6) hcc.2⟩) hG (fun r Z1 H locs hw hG => ?_)
  refine lv_aload_n hx hb dL_law_1236 rfl (lv_at hl 2 rfl) ?_
  refine lw_arg (lv := lwLV E b j) hC hG rfl (lv_at hl 4 rfl) (lv_at hl 0 rfl) hj 1 (by decide) dL_law_1237 dL_law_1238 dL_law_1240 rfl dL_law_1241 dL_law_1242 ?_
  refine lw_arg (lv := lwLV E b j) hC hG rfl (lv_at hl 4 rfl) (lv_at hl 0 rfl) hj 2 (by decide) dL_law_1243 dL_law_1244 dL_law_1246 rfl dL_law_1247 dL_law_1248 ?_
  refine lw_arg (lv := lwLV E b j) hC hG rfl (lv_at hl 4 rfl) (lv_at hl 0 rfl) hj 3 (by decide) dL_law_1249 dL_law_1250 dL_law_1252 rfl dL_law_1253 dL_law_1254 ?_
  refine z_ci (va_runV (rest := [.int r]) hF.1 (kX12_days l E Z1 (xs (6 * j + 1)) (xs (6 * j + 2)) (xs (6 * j + 3)) hw _) (cwV 3 hts gL_law_X12_days rfl rfl rfl ⟨rfl, hL_X12_days⟩ ⟨Nat.le_of_ble_eq_true rfl, Nat.le_of_ble_eq_true rfl⟩) (z_preV hF hG 97 (by decide) z_md rfl) rfl rfl hl.1 rfl (lv_room (Nat.le_of_ble_eq_true rfl)) dL_law_1255 ⟨Nat.le_of_succ_le hcc.1, Nat.le_trans (Nat.le_add_right _ 6) hcc.2⟩) hG (fun r2 Z2 H locs hw hG => ?_)
  refine lv_icmp_eq (tgt := 1835) hx hb dL_law_1258 (by decide) (fun _ => ?_) (fun c => absurd hw.1.symm c)
  exact W.widen (by omega) (by omega) (T E.2.2.2 Z2 H locs ls hw.2 hG hl)
