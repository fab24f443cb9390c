/-! THE LAW: its loop -/
theorem lw_and (a : Int32) : ∃ k, k < 64 ∧ a &&& 63 = nI k := by
  refine ⟨(a.toBitVec &&& 63#32).toNat, ?_, ?_⟩
  · have h : (a.toBitVec &&& 63#32).toNat ≤ 63 := by rw [BitVec.toNat_and]; exact Nat.and_le_right
    omega
  · apply Int32.toBitVec_inj.1
    show (a &&& 63).toBitVec = BitVec.ofNat 32 _
    rw [BitVec.ofNat_toNat]
    simp
theorem lw_gt {j L : Nat} (hj : 6 * j ≤ L) (hL : L ≤ 3072) : (nI (6 * j) > Int32.ofNat L - 6) ↔ L < 6 * j + 6 := by
  have h1 : (nI (6 * j)).toInt = ((6 * j : Nat) : Int) := nI_toInt (by omega)
  have h2 : (nI L).toInt = (L : Int) := nI_toInt (by omega)
  have h3 : (6 : Int32).toInt = 6 := by decide
  have h4 : (Int32.ofNat L - 6).toInt = (L : Int) - 6 := by
    show (nI L - 6).toInt = _
    rw [zsub (by rw [h2, h3]; omega) (by rw [h2, h3]; omega), h2, h3]
  show Int32.ofNat L - 6 < nI (6 * j) ↔ _
  rw [Int32.lt_iff_toInt_lt, h1, h4]
  omega
set_option maxHeartbeats 4000000 in
theorem lw_loop (l : Launch) (hfl : l.flags = flags0) {p : Program} {e : Env} {s : State} {m : MethodId} {below : List Frame} {meth : Method} {c : Code} {b L : Nat} {xs : Nat → Int32} {E : zE} (hC : lwF p m c s b L xs E) (hr : meth.sig.returnType = ret) (hlk : meth.locks = false) (hE : ∀ q, zA E s.heap.size q → s.heap.size ≤ q) : ∀ (t j : Nat) (x : Int64) (Z : zS) (H : Heap) (locs : List Loc) (ls : Array Slot), 6 * j ≤ L → L < 6 * j + 6 * t + 6 → zInv Z → zG (zEo E x) Z s H locs → lv_has ls 8 (lwLV E b j) → W p l e room_1 s m #[Value.ref b] below meth c H locs (112 + j) (2948 + 6 * j) (lw_Z below #[Value.ref b] s) (F0 m 23 ls []) := by
  have hx := hC.1.1.1
  have hb := hC.1.1.2.1
  have hL := hC.2.2.2.2.2
  intro t
  induction t with
  | zero =>
    intro j x Z H locs ls h1 h2 hI hG hl
    have hA : ¬ zA (zEo E x) s.heap.size b := hC.2.2.2.2.1
    refine lv_iload hx hb dL_law_23 (lv_at hl 0 rfl) ?_
    refine lv_aload_n hx hb dL_law_25 rfl (lv_at hl 4 rfl) ?_
    refine va_slen hx hb hC.2.2.1 hC.2.2.2.1 hA hG.2 dL_law_26 ?_
    refine lv_bipush (v := 6) hx hb dL_law_27 (by decide) ?_
    refine lv_isub hx hb dL_law_29 ?_
    refine lv_icmp_gt (tgt := 1841) hx hb dL_law_30 (by decide) (fun _ => ?_) (fun c1 => absurd ((lw_gt h1 hL).mpr (by omega)) c1)
    refine lv_iconst (v := 1) hx hb dL_law_1841 (by decide) ?_
    refine va_forget (fun q hq => hE _ (hG.2.2.2 q hq)) (W.widen (k := 601024) (n := 7293034) (by omega) (by omega) ?_)
    exact lw_ret hx hb hr hlk dL_law_1842
  | succ t ih =>
    intro j x Z H locs ls h1 h2 hI hG hl
    have hA : ¬ zA (zEo E x) s.heap.size b := hC.2.2.2.2.1
    refine lv_iload hx hb dL_law_23 (lv_at hl 0 rfl) ?_
    refine lv_aload_n hx hb dL_law_25 rfl (lv_at hl 4 rfl) ?_
    refine va_slen hx hb hC.2.2.1 hC.2.2.2.1 hA hG.2 dL_law_26 ?_
    refine lv_bipush (v := 6) hx hb dL_law_27 (by decide) ?_
    refine lv_isub hx hb dL_law_29 ?_
    refine lv_icmp_gt (tgt := 1841) hx hb dL_law_30 (by decide) (fun _ => ?_) (fun c1 => ?_)
    · refine lv_iconst (v := 1) hx hb dL_law_1841 (by decide) ?_
      refine va_forget (fun q hq => hE _ (hG.2.2.2 q hq)) (W.widen (k := 601024) (n := 7293034) (by omega) (by omega) ?_)
      exact lw_ret hx hb hr hlk dL_law_1842
    have hj : 6 * j + 6 ≤ L := by
      rcases Nat.lt_or_ge L (6 * j + 6) with h | h
      · exact absurd ((lw_gt h1 hL).mpr h) c1
      · exact h
    have hC2 : lwF p m c s b L xs (zEo E x) := hC
    have T : lwT p l e s m below meth c b j (zEo E x) (lw_Z below #[Value.ref b] s) := by
      intro x2 Z2 H locs ls hI hG hl
      refine lv_iinc (v := nI (6 * (j + 1))) (lv' := lwLV E b (j + 1)) hx hb dL_law_1835 hl (k := 0) rfl ((nI_add (6 * j) 6).trans (congrArg nI (by omega))) (by decide) rfl (fun ls hl => ?_)
      refine lv_goto (tgt := 23) hx hb dL_law_1838 (by decide) ?_
      have key := ih (j + 1) x2 Z2 H locs ls (by omega) (by omega) hI hG hl
      rw [show 2948 + 6 * (j + 1) = 2948 + 6 * j + 6 by omega] at key
      exact key
    refine lv_aload_n hx hb dL_law_33 rfl (lv_at hl 4 rfl) ?_
    refine lv_iload hx hb dL_law_34 (lv_at hl 0 rfl) ?_
    refine va_sld hx hb hC.2.2.1 hC.2.2.2.1 hA hG.2 (vp_in_nI (by omega) (by omega)) dL_law_36 ?_
    refine lv_bipush (v := 63) hx hb dL_law_37 (by decide) ?_
    refine lv_iand hx hb dL_law_39 ?_
    obtain ⟨k, hk, ek⟩ := lw_and (xs (nI (6 * j)).toNatClampNeg)
    rw [ek]
    have hk : k = 0 ∨ k = 1 ∨ k = 2 ∨ k = 3 ∨ k = 4 ∨ k = 5 ∨ k = 6 ∨ k = 7 ∨ k = 8 ∨ k = 9 ∨ k = 10 ∨ k = 11 ∨ k = 12 ∨ k = 13 ∨ k = 14 ∨ k = 15 ∨ k = 16 ∨ k = 17 ∨ k = 18 ∨ k = 19 ∨ k = 20 ∨ k = 21 ∨ k = 22 ∨ k = 23 ∨ k = 24 ∨ k = 25 ∨ k = 26 ∨ k = 27 ∨ k = 28 ∨ k = 29 ∨ k = 30 ∨ k = 31 ∨ k = 32 ∨ k = 33 ∨ k = 34 ∨ k = 35 ∨ k = 36 ∨ k = 37 ∨ k = 38 ∨ k = 39 ∨ k = 40 ∨ k = 41 ∨ 42 ≤ k := by omega
    rcases hk with rfl | rfl | rfl | rfl | rfl | rfl | rfl | rfl | rfl | rfl | rfl | rfl | rfl | rfl | rfl | rfl | rfl | rfl | rfl | rfl | rfl | rfl | rfl | rfl | rfl | rfl | rfl | rfl | rfl | rfl | rfl | rfl | rfl | rfl | rfl | rfl | rfl | rfl | rfl | rfl | rfl | rfl | hk
    · refine lv_tableIn (off := 184) (tgt := 224) hx hb dL_law_40 (by decide) (by decide) (by decide) (by decide) ?_
      exact lwc_0 l hfl hC2 hj hI hG hl T
    · refine lv_tableIn (off := 209) (tgt := 249) hx hb dL_law_40 (by decide) (by decide) (by decide) (by decide) ?_
      exact lwc_1 l hfl hC2 hj hI hG hl T
    · refine lv_tableIn (off := 246) (tgt := 286) hx hb dL_law_40 (by decide) (by decide) (by decide) (by decide) ?_
      exact lwc_2 l hfl hC2 hj hI hG hl T
    · refine lv_tableIn (off := 295) (tgt := 335) hx hb dL_law_40 (by decide) (by decide) (by decide) (by decide) ?_
      exact lwc_3 l hfl hC2 hj hI hG hl T
    · refine lv_tableIn (off := 344) (tgt := 384) hx hb dL_law_40 (by decide) (by decide) (by decide) (by decide) ?_
      exact lwc_4 l hfl hC2 hj hI hG hl T
    · refine lv_tableIn (off := 393) (tgt := 433) hx hb dL_law_40 (by decide) (by decide) (by decide) (by decide) ?_
      exact lwc_5 l hfl hC2 hj hI hG hl T
    · refine lv_tableIn (off := 418) (tgt := 458) hx hb dL_law_40 (by decide) (by decide) (by decide) (by decide) ?_
      exact lwc_6 l hfl hC2 hj hI hG hl T
    · refine lv_tableIn (off := 443) (tgt := 483) hx hb dL_law_40 (by decide) (by decide) (by decide) (by decide) ?_
      exact lwc_7 l hfl hC2 hj hI hG hl T
    · refine lv_tableIn (off := 492) (tgt := 532) hx hb dL_law_40 (by decide) (by decide) (by decide) (by decide) ?_
      exact lwc_8 l hfl hC2 hj hI hG hl T
    · refine lv_tableIn (off := 529) (tgt := 569) hx hb dL_law_40 (by decide) (by decide) (by decide) (by decide) ?_
      exact lwc_9 l hfl hC2 hj hI hG hl T
    · refine lv_tableIn (off := 554) (tgt := 594) hx hb dL_law_40 (by decide) (by decide) (by decide) (by decide) ?_
      exact lwc_10 l hfl hC2 hj hI hG hl T
    · refine lv_tableIn (off := 579) (tgt := 619) hx hb dL_law_40 (by decide) (by decide) (by decide) (by decide) ?_
      exact lwc_11 l hfl hC2 hj hI hG hl T
    · refine lv_tableIn (off := 628) (tgt := 668) hx hb dL_law_40 (by decide) (by decide) (by decide) (by decide) ?_
      exact lwc_12 l hfl hC2 hj hI hG hl T
    · refine lv_tableIn (off := 665) (tgt := 705) hx hb dL_law_40 (by decide) (by decide) (by decide) (by decide) ?_
      exact lwc_13 l hfl hC2 hj hI hG hl T
    · refine lv_tableIn (off := 702) (tgt := 742) hx hb dL_law_40 (by decide) (by decide) (by decide) (by decide) ?_
      exact lwc_14 l hfl hC2 hj hI hG hl T
    · refine lv_tableIn (off := 739) (tgt := 779) hx hb dL_law_40 (by decide) (by decide) (by decide) (by decide) ?_
      exact lwc_15 l hfl hC2 hj hI hG hl T
    · refine lv_tableIn (off := 776) (tgt := 816) hx hb dL_law_40 (by decide) (by decide) (by decide) (by decide) ?_
      exact lwc_16 l hfl hC2 hj hI hG hl T
    · refine lv_tableIn (off := 825) (tgt := 865) hx hb dL_law_40 (by decide) (by decide) (by decide) (by decide) ?_
      exact lwc_17 l hfl hC2 hj hI hG hl T
    · refine lv_tableIn (off := 850) (tgt := 890) hx hb dL_law_40 (by decide) (by decide) (by decide) (by decide) ?_
      exact lwc_18 l hfl hC2 hj hI hG hl T
    · refine lv_tableIn (off := 875) (tgt := 915) hx hb dL_law_40 (by decide) (by decide) (by decide) (by decide) ?_
      exact lwc_19 l hfl hC2 hj hI hG hl T
    · refine lv_tableIn (off := 924) (tgt := 964) hx hb dL_law_40 (by decide) (by decide) (by decide) (by decide) ?_
      exact lwc_20 l hfl hC2 hj hI hG hl T
    · refine lv_tableIn (off := 973) (tgt := 1013) hx hb dL_law_40 (by decide) (by decide) (by decide) (by decide) ?_
      exact lwc_21 l hfl hC2 hj hI hG hl T
    · refine lv_tableIn (off := 1035) (tgt := 1075) hx hb dL_law_40 (by decide) (by decide) (by decide) (by decide) ?_
      exact lwc_22 l hfl hC2 hj hI hG hl T
    · refine lv_tableIn (off := 1073) (tgt := 1113) hx hb dL_law_40 (by decide) (by decide) (by decide) (by decide) ?_
      exact lwc_23 l hfl hC2 hj hI hG hl T
    · refine lv_tableIn (off := 1098) (tgt := 1138) hx hb dL_law_40 (by decide) (by decide) (by decide) (by decide) ?_
      exact lwc_24 l hfl hC2 hj hI hG hl T
    · refine lv_tableIn (off := 1124) (tgt := 1164) hx hb dL_law_40 (by decide) (by decide) (by decide) (by decide) ?_
      exact lwc_25 l hfl hC2 hj hI hG hl T
    · refine lv_tableIn (off := 1149) (tgt := 1189) hx hb dL_law_40 (by decide) (by decide) (by decide) (by decide) ?_
      exact lwc_26 l hfl hC2 hj hI hG hl T
    · refine lv_tableIn (off := 1174) (tgt := 1214) hx hb dL_law_40 (by decide) (by decide) (by decide) (by decide) ?_
      exact lwc_27 l hfl hC2 hj hI hG hl T
    · refine lv_tableIn (off := 1223) (tgt := 1263) hx hb dL_law_40 (by decide) (by decide) (by decide) (by decide) ?_
      exact lwc_28 l hfl hC2 hj hI hG hl T
    · refine lv_tableIn (off := 1236) (tgt := 1276) hx hb dL_law_40 (by decide) (by decide) (by decide) (by decide) ?_
      exact lwc_29 l hfl hC2 hj hI hG hl T
    · refine lv_tableIn (off := 1249) (tgt := 1289) hx hb dL_law_40 (by decide) (by decide) (by decide) (by decide) ?_
      exact lwc_30 l hfl hC2 hj hI hG hl T
    · refine lv_tableIn (off := 1274) (tgt := 1314) hx hb dL_law_40 (by decide) (by decide) (by decide) (by decide) ?_
      exact lwc_31 l hfl hC2 hj hI hG hl T
    · refine lv_tableIn (off := 1323) (tgt := 1363) hx hb dL_law_40 (by decide) (by decide) (by decide) (by decide) ?_
      exact lwc_32 l hfl hC2 hj hI hG hl T
    · refine lv_tableIn (off := 1372) (tgt := 1412) hx hb dL_law_40 (by decide) (by decide) (by decide) (by decide) ?_
      exact lwc_33 l hfl hC2 hj hI hG hl T
    · refine lv_tableIn (off := 1409) (tgt := 1449) hx hb dL_law_40 (by decide) (by decide) (by decide) (by decide) ?_
      exact lwc_34 l hfl hC2 hj hI hG hl T
    · refine lv_tableIn (off := 1446) (tgt := 1486) hx hb dL_law_40 (by decide) (by decide) (by decide) (by decide) ?_
      exact lwc_35 l hfl hC2 hj hI hG hl T
    · refine lv_tableIn (off := 1507) (tgt := 1547) hx hb dL_law_40 (by decide) (by decide) (by decide) (by decide) ?_
      exact lwc_36 l hfl hC2 hj hI hG hl T
    · refine lv_tableIn (off := 1556) (tgt := 1596) hx hb dL_law_40 (by decide) (by decide) (by decide) (by decide) ?_
      exact lwc_37 l hfl hC2 hj hI hG hl T
    · refine lv_tableIn (off := 1605) (tgt := 1645) hx hb dL_law_40 (by decide) (by decide) (by decide) (by decide) ?_
      exact lwc_38 l hfl hC2 hj hI hG hl T
    · refine lv_tableIn (off := 1672) (tgt := 1712) hx hb dL_law_40 (by decide) (by decide) (by decide) (by decide) ?_
      exact lwc_39 l hfl hC2 hj hI hG hl T
    · refine lv_tableIn (off := 1745) (tgt := 1785) hx hb dL_law_40 (by decide) (by decide) (by decide) (by decide) ?_
      exact lwc_40 l hfl hC2 hj hI hG hl T
    · refine lv_tableIn (off := 1770) (tgt := 1810) hx hb dL_law_40 (by decide) (by decide) (by decide) (by decide) ?_
      exact lwc_41 l hfl hC2 hj hI hG hl T
    · refine lv_tableOut (tgt := 1835) hx hb dL_law_40 (Or.inr (by rw [nI_toInt (by omega)]; omega)) (by decide) ?_
      exact W.widen (by omega) (by omega) (T x Z H locs ls hI hG hl)
