set_option maxHeartbeats 4000000 in
set_option maxRecDepth 100000 in
theorem kX12_copy (l : Launch) (E : zE) (Z : zS) (a1 : Int32) (a2 : Int32) (a3 : Int32) (a4 : Int32) (a5 : Int32) {K : Int32 → zS → Prop} (hw : wX12_copy a1 a2 a3 a4 a5 Z K) : zCi l yX12_copy wsX12_copy ({ frames := 2, cells := 0, slots := 0, locals := 42 } : Room) E Z [.ref (E.2.1 97), .int a1, .int a2, .int a3, .int a4, .int a5] K := by
  refine z_bodyi (cc := cX12_copy) (nL := 7) (ret := .int) (by decide) rfl (Nat.le_of_ble_eq_true rfl) ?_
  intro p e R s m args below meth c ls hfr hlo hF hr hlk hG hl
  have hx := hF.1.1
  have hb := hF.1.2.1
  have hown := hF.1.2.2.2.1
  have hts := hF.1.2.2.2.2
  have in12 : ∀ w ∈ u_ws RX12 TX12 22, w ∈ wsX12_copy := fun _ h => List.mem_cons_of_mem _ (List.mem_append_right _ h)
  have hl : lv_has ls 7 [(0, .ref (E.2.1 97)), (1, .int a1), (2, .int a2), (3, .int a3), (4, .int a4), (5, .int a5)] := hl
  have S190 : ∀ (L190 : Int32 → zS → Prop), (∀ (x6 : Int32) (Z : zS) (H : Heap) (locs : List Loc) (ls : Array Slot), zG E Z s H locs → lv_has ls 7 [(0, .ref (E.2.1 97)), (1, .int a1), (2, .int a2), (3, .int a3), (4, .int a4), (5, .int a5), (6, .int x6)] → L190 x6 Z → W p l e R s m args below meth c H locs 0 0 (zQi E K below args s) (F0 m 190 ls [])) → ∀ (x6 : Int32) (Z : zS) (H : Heap) (locs : List Loc) (ls : Array Slot), zG E Z s H locs → lv_has ls 7 [(0, .ref (E.2.1 97)), (1, .int a1), (2, .int a2), (3, .int a3), (4, .int a4), (5, .int a5), (6, .int x6)] → wX12_copy_190b L190 a1 a2 a3 a4 a5 x6 Z K → W p l e R s m args below meth c H locs 0 0 (zQi E K below args s) (F0 m 190 ls []) := by
    intro L190 ih190
    intro x6 Z H locs ls hG hl hw
    unfold wX12_copy_190b at hw
    refine lv_iload hx hb dX12_copy_190 (lv_at hl 6 rfl) ?_
    refine lv_iload hx hb dX12_copy_192 (lv_at hl 5 rfl) ?_
    refine lv_icmp_ge (tgt := 232) hx hb dX12_copy_194 (by decide) (fun c34 => ?_) (fun c34 => ?_)
    · replace hw := hw.1 c34
      refine lv_iload hx hb dX12_copy_232 (lv_at hl 5 rfl) ?_
      exact z_iret hF hG hr hlk hw dX12_copy_234
    replace hw := hw.2 c34
    refine lv_aload_n hx hb dX12_copy_197 rfl (lv_at hl 0 rfl) ?_
    refine z_get hF hG 97 (by decide) z_md rfl in12 17 (by decide) (List.mem_of_getElem? (i := 4) rfl) rfl rfl dX12_copy_198 ?_
    refine lv_bipush (v := 100) hx hb dX12_copy_201 (by decide) ?_
    refine lv_iload_n hx hb dX12_copy_203 rfl (lv_at hl 3 rfl) ?_
    refine lv_imul hx hb dX12_copy_204 ?_
    refine lv_iload hx hb dX12_copy_205 (lv_at hl 4 rfl) ?_
    refine lv_iadd hx hb dX12_copy_207 ?_
    refine lv_iload hx hb dX12_copy_208 (lv_at hl 6 rfl) ?_
    refine lv_iadd hx hb dX12_copy_210 ?_
    refine lv_aload_n hx hb dX12_copy_211 rfl (lv_at hl 0 rfl) ?_
    refine z_get hF hG 97 (by decide) z_md rfl in12 17 (by decide) (List.mem_of_getElem? (i := 4) rfl) rfl rfl dX12_copy_212 ?_
    refine lv_bipush (v := 100) hx hb dX12_copy_215 (by decide) ?_
    refine lv_iload_n hx hb dX12_copy_217 rfl (lv_at hl 1 rfl) ?_
    refine lv_imul hx hb dX12_copy_218 ?_
    refine lv_iload_n hx hb dX12_copy_219 rfl (lv_at hl 2 rfl) ?_
    refine lv_iadd hx hb dX12_copy_220 ?_
    refine lv_iload hx hb dX12_copy_221 (lv_at hl 6 rfl) ?_
    refine lv_iadd hx hb dX12_copy_223 ?_
    obtain ⟨q35, hw⟩ := hw
    refine z_iald hF hG 107 (by decide) z_m107 q35 dX12_copy_224 ?_
    obtain ⟨q36, hw⟩ := hw
    refine z_iast hF hG 107 (by decide) (fun _ => z_m107) q36 dX12_copy_225 (fun Z37 H locs eZ37 hG => ?_)
    replace hw := hw Z37 eZ37
    obtain ⟨y38, ey38⟩ : ∃ y : Int32, y = x6 + 1 := ⟨_, rfl⟩
    replace hw := hw y38 ey38
    refine lv_iinc (v := y38) (lv' := [(6, .int y38), (0, .ref (E.2.1 97)), (1, .int a1), (2, .int a2), (3, .int a3), (4, .int a4), (5, .int a5)]) hx hb dX12_copy_226 hl (k := 6) rfl (by rw [ey38]; rfl) (by decide) rfl (fun ls hl => ?_)
    refine lv_goto (tgt := 190) hx hb dX12_copy_229 (by decide) ?_
    exact ih190 y38 Z37 _ _ _ hG (lv_sub hl [1, 2, 3, 4, 5, 6, 0] rfl) hw
  have J190 : ∀ n : Nat, ∀ (x6 : Int32) (Z : zS) (H : Heap) (locs : List Loc) (ls : Array Slot), zG E Z s H locs → lv_has ls 7 [(0, .ref (E.2.1 97)), (1, .int a1), (2, .int a2), (3, .int a3), (4, .int a4), (5, .int a5), (6, .int x6)] → wX12_copy_190 a1 a2 a3 a4 a5 K n x6 Z → W p l e R s m args below meth c H locs 0 0 (zQi E K below args s) (F0 m 190 ls []) := by
    intro n
    induction n with
    | zero => intro x6 Z H locs ls hG hl hw; exact hw.elim
    | succ n ih => intro x6 Z H locs ls hG hl hw; exact S190 _ ih x6 Z H locs ls hG hl hw
  have J187 : ∀ (Z : zS) (H : Heap) (locs : List Loc) (ls : Array Slot), zG E Z s H locs → lv_has ls 7 [(0, .ref (E.2.1 97)), (1, .int a1), (2, .int a2), (3, .int a3), (4, .int a4), (5, .int a5)] → wX12_copy_187 a1 a2 a3 a4 a5 Z K → W p l e R s m args below meth c H locs 0 0 (zQi E K below args s) (F0 m 187 ls []) := by
    intro Z H locs ls hG hl hw
    unfold wX12_copy_187 at hw
    refine lv_iconst (v := 0) hx hb dX12_copy_187 (by decide) ?_
    refine lv_topi (fun y33 ey33 => ?_)
    replace hw := hw y33 ey33
    refine lv_istore (lv' := [(6, .int y33), (0, .ref (E.2.1 97)), (1, .int a1), (2, .int a2), (3, .int a3), (4, .int a4), (5, .int a5)]) hx hb dX12_copy_188 hl (by decide) rfl (fun ls hl => ?_)
    obtain ⟨n190, hw⟩ := hw
    exact J190 n190 y33 Z _ _ _ hG (lv_sub hl [1, 2, 3, 4, 5, 6, 0] rfl) hw
  have S144 : ∀ (L144 : Int32 → zS → Prop), (∀ (x6 : Int32) (Z : zS) (H : Heap) (locs : List Loc) (ls : Array Slot), zG E Z s H locs → lv_has ls 7 [(0, .ref (E.2.1 97)), (1, .int a1), (2, .int a2), (3, .int a3), (4, .int a4), (5, .int a5), (6, .int x6)] → L144 x6 Z → W p l e R s m args below meth c H locs 0 0 (zQi E K below args s) (F0 m 144 ls [])) → ∀ (x6 : Int32) (Z : zS) (H : Heap) (locs : List Loc) (ls : Array Slot), zG E Z s H locs → lv_has ls 7 [(0, .ref (E.2.1 97)), (1, .int a1), (2, .int a2), (3, .int a3), (4, .int a4), (5, .int a5), (6, .int x6)] → wX12_copy_144b L144 a1 a2 a3 a4 a5 x6 Z K → W p l e R s m args below meth c H locs 0 0 (zQi E K below args s) (F0 m 144 ls []) := by
    intro L144 ih144
    intro x6 Z H locs ls hG hl hw
    unfold wX12_copy_144b at hw
    refine lv_iload hx hb dX12_copy_144 (lv_at hl 6 rfl) ?_
    refine lv_if_lt (tgt := 184) hx hb dX12_copy_146 (by decide) (fun c28 => ?_) (fun c28 => ?_)
    · replace hw := hw.1 c28
      refine lv_goto (tgt := 232) hx hb dX12_copy_184 (by decide) ?_
      refine lv_iload hx hb dX12_copy_232 (lv_at hl 5 rfl) ?_
      exact z_iret hF hG hr hlk hw dX12_copy_234
    replace hw := hw.2 c28
    refine lv_aload_n hx hb dX12_copy_149 rfl (lv_at hl 0 rfl) ?_
    refine z_get hF hG 97 (by decide) z_md rfl in12 17 (by decide) (List.mem_of_getElem? (i := 4) rfl) rfl rfl dX12_copy_150 ?_
    refine lv_bipush (v := 100) hx hb dX12_copy_153 (by decide) ?_
    refine lv_iload_n hx hb dX12_copy_155 rfl (lv_at hl 3 rfl) ?_
    refine lv_imul hx hb dX12_copy_156 ?_
    refine lv_iload hx hb dX12_copy_157 (lv_at hl 4 rfl) ?_
    refine lv_iadd hx hb dX12_copy_159 ?_
    refine lv_iload hx hb dX12_copy_160 (lv_at hl 6 rfl) ?_
    refine lv_iadd hx hb dX12_copy_162 ?_
    refine lv_aload_n hx hb dX12_copy_163 rfl (lv_at hl 0 rfl) ?_
    refine z_get hF hG 97 (by decide) z_md rfl in12 17 (by decide) (List.mem_of_getElem? (i := 4) rfl) rfl rfl dX12_copy_164 ?_
    refine lv_bipush (v := 100) hx hb dX12_copy_167 (by decide) ?_
    refine lv_iload_n hx hb dX12_copy_169 rfl (lv_at hl 1 rfl) ?_
    refine lv_imul hx hb dX12_copy_170 ?_
    refine lv_iload_n hx hb dX12_copy_171 rfl (lv_at hl 2 rfl) ?_
    refine lv_iadd hx hb dX12_copy_172 ?_
    refine lv_iload hx hb dX12_copy_173 (lv_at hl 6 rfl) ?_
    refine lv_iadd hx hb dX12_copy_175 ?_
    obtain ⟨q29, hw⟩ := hw
    refine z_iald hF hG 107 (by decide) z_m107 q29 dX12_copy_176 ?_
    obtain ⟨q30, hw⟩ := hw
    refine z_iast hF hG 107 (by decide) (fun _ => z_m107) q30 dX12_copy_177 (fun Z31 H locs eZ31 hG => ?_)
    replace hw := hw Z31 eZ31
    obtain ⟨y32, ey32⟩ : ∃ y : Int32, y = x6 + (-1) := ⟨_, rfl⟩
    replace hw := hw y32 ey32
    refine lv_iinc (v := y32) (lv' := [(6, .int y32), (0, .ref (E.2.1 97)), (1, .int a1), (2, .int a2), (3, .int a3), (4, .int a4), (5, .int a5)]) hx hb dX12_copy_178 hl (k := 6) rfl (by rw [ey32]; rfl) (by decide) rfl (fun ls hl => ?_)
    refine lv_goto (tgt := 144) hx hb dX12_copy_181 (by decide) ?_
    exact ih144 y32 Z31 _ _ _ hG (lv_sub hl [1, 2, 3, 4, 5, 6, 0] rfl) hw
  have J144 : ∀ n : Nat, ∀ (x6 : Int32) (Z : zS) (H : Heap) (locs : List Loc) (ls : Array Slot), zG E Z s H locs → lv_has ls 7 [(0, .ref (E.2.1 97)), (1, .int a1), (2, .int a2), (3, .int a3), (4, .int a4), (5, .int a5), (6, .int x6)] → wX12_copy_144 a1 a2 a3 a4 a5 K n x6 Z → W p l e R s m args below meth c H locs 0 0 (zQi E K below args s) (F0 m 144 ls []) := by
    intro n
    induction n with
    | zero => intro x6 Z H locs ls hG hl hw; exact hw.elim
    | succ n ih => intro x6 Z H locs ls hG hl hw; exact S144 _ ih x6 Z H locs ls hG hl hw
  unfold wX12_copy at hw
  refine lv_iload_n hx hb dX12_copy_0 rfl (lv_at hl 1 rfl) ?_
  refine z_ci (va_runS (rest := []) hF.1 (kX12_isShelf l E Z a1  hw _) (va_cwS 1 hts gX12_copy_X12_isShelf rfl rfl rfl hS_yX12_isShelf ⟨Nat.le_trans (Nat.le_of_ble_eq_true rfl) hfr, Nat.le_trans (Nat.le_of_ble_eq_true rfl) hlo⟩) (z_preS hF hG) rfl rfl hl.1 rfl (lv_room (Nat.le_of_ble_eq_true rfl)) dX12_copy_1 ⟨Nat.zero_le _, Nat.zero_le _⟩) hG (fun r2 Z1 H locs hw hG => ?_)
  refine lv_if_eq (tgt := 14) hx hb dX12_copy_4 (by decide) (fun c3 => ?_) (fun c3 => ?_)
  · replace hw := hw.1 c3
    refine lv_iconst (v := (-1)) hx hb dX12_copy_14 (by decide) ?_
    exact z_iret hF hG hr hlk hw dX12_copy_15
  replace hw := hw.2 c3
  refine lv_iload_n hx hb dX12_copy_7 rfl (lv_at hl 3 rfl) ?_
  refine z_ci (va_runS (rest := []) hF.1 (kX12_isShelf l E Z1 a3  hw _) (va_cwS 1 hts gX12_copy_X12_isShelf rfl rfl rfl hS_yX12_isShelf ⟨Nat.le_trans (Nat.le_of_ble_eq_true rfl) hfr, Nat.le_trans (Nat.le_of_ble_eq_true rfl) hlo⟩) (z_preS hF hG) rfl rfl hl.1 rfl (lv_room (Nat.le_of_ble_eq_true rfl)) dX12_copy_8 ⟨Nat.zero_le _, Nat.zero_le _⟩) hG (fun r5 Z4 H locs hw hG => ?_)
  refine lv_if_ne (tgt := 16) hx hb dX12_copy_11 (by decide) (fun c6 => ?_) (fun c6 => ?_)
  · replace hw := hw.1 c6
    refine lv_aload_n hx hb dX12_copy_16 rfl (lv_at hl 0 rfl) ?_
    refine z_get hF hG 97 (by decide) z_md rfl in12 14 (by decide) (List.mem_of_getElem? (i := 1) rfl) rfl rfl dX12_copy_17 ?_
    refine lv_iload_n hx hb dX12_copy_20 rfl (lv_at hl 1 rfl) ?_
    obtain ⟨q7, hw⟩ := hw
    refine z_iald hF hG 104 (by decide) z_m104 q7 dX12_copy_21 ?_
    refine lv_if_eq (tgt := 34) hx hb dX12_copy_22 (by decide) (fun c8 => ?_) (fun c8 => ?_)
    · replace hw := hw.1 c8
      refine lv_bipush (v := (-11)) hx hb dX12_copy_34 (by decide) ?_
      exact z_iret hF hG hr hlk hw dX12_copy_36
    replace hw := hw.2 c8
    refine lv_aload_n hx hb dX12_copy_25 rfl (lv_at hl 0 rfl) ?_
    refine z_get hF hG 97 (by decide) z_md rfl in12 14 (by decide) (List.mem_of_getElem? (i := 1) rfl) rfl rfl dX12_copy_26 ?_
    refine lv_iload_n hx hb dX12_copy_29 rfl (lv_at hl 3 rfl) ?_
    obtain ⟨q9, hw⟩ := hw
    refine z_iald hF hG 104 (by decide) z_m104 q9 dX12_copy_30 ?_
    refine lv_if_ne (tgt := 37) hx hb dX12_copy_31 (by decide) (fun c10 => ?_) (fun c10 => ?_)
    · replace hw := hw.1 c10
      refine lv_aload_n hx hb dX12_copy_37 rfl (lv_at hl 0 rfl) ?_
      refine z_get hF hG 97 (by decide) z_md rfl in12 14 (by decide) (List.mem_of_getElem? (i := 1) rfl) rfl rfl dX12_copy_38 ?_
      refine lv_iload_n hx hb dX12_copy_41 rfl (lv_at hl 1 rfl) ?_
      obtain ⟨q11, hw⟩ := hw
      refine z_iald hF hG 104 (by decide) z_m104 q11 dX12_copy_42 ?_
      refine lv_iconst (v := 2) hx hb dX12_copy_43 (by decide) ?_
      refine lv_icmp_ne (tgt := 72) hx hb dX12_copy_44 (by decide) (fun c12 => ?_) (fun c12 => ?_)
      · replace hw := hw.1 c12
        refine lv_bipush (v := (-12)) hx hb dX12_copy_72 (by decide) ?_
        exact z_iret hF hG hr hlk hw dX12_copy_74
      replace hw := hw.2 (fun h => h c12)
      refine lv_aload_n hx hb dX12_copy_47 rfl (lv_at hl 0 rfl) ?_
      refine z_get hF hG 97 (by decide) z_md rfl in12 14 (by decide) (List.mem_of_getElem? (i := 1) rfl) rfl rfl dX12_copy_48 ?_
      refine lv_iload_n hx hb dX12_copy_51 rfl (lv_at hl 3 rfl) ?_
      obtain ⟨q13, hw⟩ := hw
      refine z_iald hF hG 104 (by decide) z_m104 q13 dX12_copy_52 ?_
      refine lv_iconst (v := 2) hx hb dX12_copy_53 (by decide) ?_
      refine lv_icmp_ne (tgt := 72) hx hb dX12_copy_54 (by decide) (fun c14 => ?_) (fun c14 => ?_)
      · replace hw := hw.1 c14
        refine lv_bipush (v := (-12)) hx hb dX12_copy_72 (by decide) ?_
        exact z_iret hF hG hr hlk hw dX12_copy_74
      replace hw := hw.2 (fun h => h c14)
      refine lv_aload_n hx hb dX12_copy_57 rfl (lv_at hl 0 rfl) ?_
      refine z_get hF hG 97 (by decide) z_md rfl in12 15 (by decide) (List.mem_of_getElem? (i := 2) rfl) rfl rfl dX12_copy_58 ?_
      refine lv_iload_n hx hb dX12_copy_61 rfl (lv_at hl 1 rfl) ?_
      obtain ⟨q15, hw⟩ := hw
      refine z_iald hF hG 105 (by decide) z_m105 q15 dX12_copy_62 ?_
      refine lv_aload_n hx hb dX12_copy_63 rfl (lv_at hl 0 rfl) ?_
      refine z_get hF hG 97 (by decide) z_md rfl in12 15 (by decide) (List.mem_of_getElem? (i := 2) rfl) rfl rfl dX12_copy_64 ?_
      refine lv_iload_n hx hb dX12_copy_67 rfl (lv_at hl 3 rfl) ?_
      obtain ⟨q16, hw⟩ := hw
      refine z_iald hF hG 105 (by decide) z_m105 q16 dX12_copy_68 ?_
      refine lv_icmp_eq (tgt := 75) hx hb dX12_copy_69 (by decide) (fun c17 => ?_) (fun c17 => ?_)
      · replace hw := hw.1 c17
        refine lv_iload hx hb dX12_copy_75 (lv_at hl 5 rfl) ?_
        refine lv_if_lt (tgt := 124) hx hb dX12_copy_77 (by decide) (fun c18 => ?_) (fun c18 => ?_)
        · replace hw := hw.1 c18
          refine lv_bipush (v := (-13)) hx hb dX12_copy_124 (by decide) ?_
          exact z_iret hF hG hr hlk hw dX12_copy_126
        replace hw := hw.2 c18
        refine lv_iload_n hx hb dX12_copy_80 rfl (lv_at hl 2 rfl) ?_
        refine lv_if_lt (tgt := 124) hx hb dX12_copy_81 (by decide) (fun c19 => ?_) (fun c19 => ?_)
        · replace hw := hw.1 c19
          refine lv_bipush (v := (-13)) hx hb dX12_copy_124 (by decide) ?_
          exact z_iret hF hG hr hlk hw dX12_copy_126
        replace hw := hw.2 c19
        refine lv_iload hx hb dX12_copy_84 (lv_at hl 4 rfl) ?_
        refine lv_if_lt (tgt := 124) hx hb dX12_copy_86 (by decide) (fun c20 => ?_) (fun c20 => ?_)
        · replace hw := hw.1 c20
          refine lv_bipush (v := (-13)) hx hb dX12_copy_124 (by decide) ?_
          exact z_iret hF hG hr hlk hw dX12_copy_126
        replace hw := hw.2 c20
        refine lv_iload_n hx hb dX12_copy_89 rfl (lv_at hl 2 rfl) ?_
        refine lv_i2l hx hb dX12_copy_90 rfl ?_
        refine lv_iload hx hb dX12_copy_91 (lv_at hl 5 rfl) ?_
        refine lv_i2l hx hb dX12_copy_93 rfl ?_
        refine lv_ladd hx hb dX12_copy_94 ?_
        refine lv_aload_n hx hb dX12_copy_95 rfl (lv_at hl 0 rfl) ?_
        refine z_get hF hG 97 (by decide) z_md rfl in12 16 (by decide) (List.mem_of_getElem? (i := 3) rfl) rfl rfl dX12_copy_96 ?_
        refine lv_iload_n hx hb dX12_copy_99 rfl (lv_at hl 1 rfl) ?_
        obtain ⟨q21, hw⟩ := hw
        refine z_iald hF hG 106 (by decide) z_m106 q21 dX12_copy_100 ?_
        refine lv_i2l hx hb dX12_copy_101 rfl ?_
        refine W.lcmp hx hb dX12_copy_102 ?_
        refine lv_if_gt (tgt := 124) hx hb dX12_copy_103 (by decide) (fun c22 => ?_) (fun c22 => ?_)
        · replace hw := hw.1 c22
          refine lv_bipush (v := (-13)) hx hb dX12_copy_124 (by decide) ?_
          exact z_iret hF hG hr hlk hw dX12_copy_126
        replace hw := hw.2 c22
        refine lv_iload hx hb dX12_copy_106 (lv_at hl 4 rfl) ?_
        refine lv_i2l hx hb dX12_copy_108 rfl ?_
        refine lv_iload hx hb dX12_copy_109 (lv_at hl 5 rfl) ?_
        refine lv_i2l hx hb dX12_copy_111 rfl ?_
        refine lv_ladd hx hb dX12_copy_112 ?_
        refine lv_aload_n hx hb dX12_copy_113 rfl (lv_at hl 0 rfl) ?_
        refine z_get hF hG 97 (by decide) z_md rfl in12 16 (by decide) (List.mem_of_getElem? (i := 3) rfl) rfl rfl dX12_copy_114 ?_
        refine lv_iload_n hx hb dX12_copy_117 rfl (lv_at hl 3 rfl) ?_
        obtain ⟨q23, hw⟩ := hw
        refine z_iald hF hG 106 (by decide) z_m106 q23 dX12_copy_118 ?_
        refine lv_i2l hx hb dX12_copy_119 rfl ?_
        refine W.lcmp hx hb dX12_copy_120 ?_
        refine lv_if_le (tgt := 127) hx hb dX12_copy_121 (by decide) (fun c24 => ?_) (fun c24 => ?_)
        · replace hw := hw.1 c24
          refine lv_iload_n hx hb dX12_copy_127 rfl (lv_at hl 1 rfl) ?_
          refine lv_iload_n hx hb dX12_copy_128 rfl (lv_at hl 3 rfl) ?_
          refine lv_icmp_ne (tgt := 187) hx hb dX12_copy_129 (by decide) (fun c25 => ?_) (fun c25 => ?_)
          · replace hw := hw.1 c25
            exact J187  Z4 _ _ _ hG (lv_sub hl [0, 1, 2, 3, 4, 5] rfl) hw
          replace hw := hw.2 (fun h => h c25)
          refine lv_iload_n hx hb dX12_copy_132 rfl (lv_at hl 2 rfl) ?_
          refine lv_iload hx hb dX12_copy_133 (lv_at hl 4 rfl) ?_
          refine lv_icmp_ge (tgt := 187) hx hb dX12_copy_135 (by decide) (fun c26 => ?_) (fun c26 => ?_)
          · replace hw := hw.1 c26
            exact J187  Z4 _ _ _ hG (lv_sub hl [0, 1, 2, 3, 4, 5] rfl) hw
          replace hw := hw.2 c26
          refine lv_iload hx hb dX12_copy_138 (lv_at hl 5 rfl) ?_
          refine lv_iconst (v := 1) hx hb dX12_copy_140 (by decide) ?_
          refine lv_isub hx hb dX12_copy_141 ?_
          refine lv_topi (fun y27 ey27 => ?_)
          replace hw := hw y27 ey27
          refine lv_istore (lv' := [(6, .int y27), (0, .ref (E.2.1 97)), (1, .int a1), (2, .int a2), (3, .int a3), (4, .int a4), (5, .int a5)]) hx hb dX12_copy_142 hl (by decide) rfl (fun ls hl => ?_)
          obtain ⟨n144, hw⟩ := hw
          exact J144 n144 y27 Z4 _ _ _ hG (lv_sub hl [1, 2, 3, 4, 5, 6, 0] rfl) hw
        replace hw := hw.2 c24
        refine lv_bipush (v := (-13)) hx hb dX12_copy_124 (by decide) ?_
        exact z_iret hF hG hr hlk hw dX12_copy_126
      replace hw := hw.2 c17
      refine lv_bipush (v := (-12)) hx hb dX12_copy_72 (by decide) ?_
      exact z_iret hF hG hr hlk hw dX12_copy_74
    replace hw := hw.2 (fun h => h c10)
    refine lv_bipush (v := (-11)) hx hb dX12_copy_34 (by decide) ?_
    exact z_iret hF hG hr hlk hw dX12_copy_36
  replace hw := hw.2 (fun h => h c6)
  refine lv_iconst (v := (-1)) hx hb dX12_copy_14 (by decide) ?_
  exact z_iret hF hG hr hlk hw dX12_copy_15
set_option maxHeartbeats 4000000 in
set_option maxRecDepth 100000 in
theorem kX12_costOf (l : Launch) (E : zE) (Z : zS) (a1 : Int32) {K : Int32 → zS → Prop} (hw : wX12_costOf a1 Z K) : zCi l yX12_costOf wsX12_costOf ({ frames := 0, cells := 0, slots := 0, locals := 0 } : Room) E Z [.ref (E.2.1 97), .int a1] K := by
  refine z_bodyi (cc := cX12_costOf) (nL := 2) (ret := .int) (by decide) rfl (Nat.le_of_ble_eq_true rfl) ?_
  intro p e R s m args below meth c ls hfr hlo hF hr hlk hG hl
  have hx := hF.1.1
  have hb := hF.1.2.1
  have hown := hF.1.2.2.2.1
  have hts := hF.1.2.2.2.2
  have in12 : ∀ w ∈ u_ws RX12 TX12 22, w ∈ wsX12_costOf := fun _ h => List.mem_cons_of_mem _ (List.mem_append_right _ h)
  have hl : lv_has ls 2 [(0, .ref (E.2.1 97)), (1, .int a1)] := hl
  unfold wX12_costOf at hw
  refine lv_aload_n hx hb dX12_costOf_0 rfl (lv_at hl 0 rfl) ?_
  refine z_get hF hG 97 (by decide) z_md rfl in12 15 (by decide) (List.mem_of_getElem? (i := 1) rfl) rfl rfl dX12_costOf_1 ?_
  refine lv_iload_n hx hb dX12_costOf_4 rfl (lv_at hl 1 rfl) ?_
  obtain ⟨q1, hw⟩ := hw
  refine z_iald hF hG 105 (by decide) z_m105 q1 dX12_costOf_5 ?_
  refine lv_topi (fun y2 ey2 => ?_)
  replace hw := hw y2 ey2
  by_cases c3 : y2 = 1
  · replace hw := hw.1 c3
    refine lv_tableIn (tgt := 40) (off := 34) hx hb dX12_costOf_6 (by rw [c3]; decide) (by rw [c3]; decide) (by rw [c3]; decide) (by decide) ?_
    refine lv_iconst (v := 1) hx hb dX12_costOf_40 (by decide) ?_
    exact z_iret hF hG hr hlk hw dX12_costOf_41
  replace hw := hw.2 c3
  by_cases c4 : y2 = 2
  · replace hw := hw.1 c4
    refine lv_tableIn (tgt := 42) (off := 36) hx hb dX12_costOf_6 (by rw [c4]; decide) (by rw [c4]; decide) (by rw [c4]; decide) (by decide) ?_
    refine lv_iconst (v := 2) hx hb dX12_costOf_42 (by decide) ?_
    refine lv_aload_n hx hb dX12_costOf_43 rfl (lv_at hl 0 rfl) ?_
    refine z_get hF hG 97 (by decide) z_md rfl in12 16 (by decide) (List.mem_of_getElem? (i := 2) rfl) rfl rfl dX12_costOf_44 ?_
    refine lv_iload_n hx hb dX12_costOf_47 rfl (lv_at hl 1 rfl) ?_
    obtain ⟨q5, hw⟩ := hw
    refine z_iald hF hG 106 (by decide) z_m106 q5 dX12_costOf_48 ?_
    refine lv_imul hx hb dX12_costOf_49 ?_
    exact z_iret hF hG hr hlk hw dX12_costOf_50
  replace hw := hw.2 c4
  by_cases c6 : y2 = 3
  · replace hw := hw.1 c6
    refine lv_tableIn (tgt := 51) (off := 45) hx hb dX12_costOf_6 (by rw [c6]; decide) (by rw [c6]; decide) (by rw [c6]; decide) (by decide) ?_
    refine lv_iconst (v := 4) hx hb dX12_costOf_51 (by decide) ?_
    exact z_iret hF hG hr hlk hw dX12_costOf_52
  replace hw := hw.2 c6
  by_cases c7 : y2 = 4
  · replace hw := hw.1 c7
    refine lv_tableIn (tgt := 53) (off := 47) hx hb dX12_costOf_6 (by rw [c7]; decide) (by rw [c7]; decide) (by rw [c7]; decide) (by decide) ?_
    refine lv_iconst (v := 0) hx hb dX12_costOf_53 (by decide) ?_
    exact z_iret hF hG hr hlk hw dX12_costOf_54
  replace hw := hw.2 c7
  by_cases c8 : y2 = 5
  · replace hw := hw.1 c8
    refine lv_tableIn (tgt := 55) (off := 49) hx hb dX12_costOf_6 (by rw [c8]; decide) (by rw [c8]; decide) (by rw [c8]; decide) (by decide) ?_
    refine lv_iconst (v := 2) hx hb dX12_costOf_55 (by decide) ?_
    refine lv_aload_n hx hb dX12_costOf_56 rfl (lv_at hl 0 rfl) ?_
    refine z_get hF hG 97 (by decide) z_md rfl in12 16 (by decide) (List.mem_of_getElem? (i := 2) rfl) rfl rfl dX12_costOf_57 ?_
    refine lv_iload_n hx hb dX12_costOf_60 rfl (lv_at hl 1 rfl) ?_
    obtain ⟨q9, hw⟩ := hw
    refine z_iald hF hG 106 (by decide) z_m106 q9 dX12_costOf_61 ?_
    refine lv_imul hx hb dX12_costOf_62 ?_
    refine lv_iconst (v := 1) hx hb dX12_costOf_63 (by decide) ?_
    refine lv_iadd hx hb dX12_costOf_64 ?_
    exact z_iret hF hG hr hlk hw dX12_costOf_65
  replace hw := hw.2 c8
  refine lv_tableOut (tgt := 66) hx hb dX12_costOf_6 (by have t0 := lv_neT c3 (a := 1) (by decide); have t1 := lv_neT c4 (a := 2) (by decide); have t2 := lv_neT c6 (a := 3) (by decide); have t3 := lv_neT c7 (a := 4) (by decide); have t4 := lv_neT c8 (a := 5) (by decide); omega) (by decide) ?_
  refine lv_aload_n hx hb dX12_costOf_66 rfl (lv_at hl 0 rfl) ?_
  refine z_get hF hG 97 (by decide) z_md rfl in12 16 (by decide) (List.mem_of_getElem? (i := 2) rfl) rfl rfl dX12_costOf_67 ?_
  refine lv_iload_n hx hb dX12_costOf_70 rfl (lv_at hl 1 rfl) ?_
  obtain ⟨q10, hw⟩ := hw
  refine z_iald hF hG 106 (by decide) z_m106 q10 dX12_costOf_71 ?_
  exact z_iret hF hG hr hlk hw dX12_costOf_72
theorem hS_yX12_costOf : yX12_costOf.cls ≠ "java/lang/invoke/MethodHandle" ∧ yX12_costOf.cls ≠ "java/lang/invoke/VarHandle" ∧ (parseMethodDescriptor yX12_costOf.desc).map (fun d => d.parameters.length) = some 1 := by decide +kernel
set_option maxHeartbeats 4000000 in
set_option maxRecDepth 100000 in
theorem kX12_cost (l : Launch) (E : zE) (Z : zS) (a1 : Int32) {K : Int32 → zS → Prop} (hw : wX12_cost a1 Z K) : zCi l yX12_cost wsX12_cost ({ frames := 2, cells := 0, slots := 0, locals := 42 } : Room) E Z [.ref (E.2.1 97), .int a1] K := by
  refine z_bodyi (cc := cX12_cost) (nL := 3) (ret := .int) (by decide) rfl (Nat.le_of_ble_eq_true rfl) ?_
  intro p e R s m args below meth c ls hfr hlo hF hr hlk hG hl
  have hx := hF.1.1
  have hb := hF.1.2.1
  have hown := hF.1.2.2.2.1
  have hts := hF.1.2.2.2.2
  have hl : lv_has ls 3 [(0, .ref (E.2.1 97)), (1, .int a1)] := hl
  unfold wX12_cost at hw
  refine lv_iload_n hx hb dX12_cost_0 rfl (lv_at hl 1 rfl) ?_
  refine z_ci (va_runS (rest := []) hF.1 (kX12_isShelf l E Z a1  hw _) (va_cwS 1 hts gX12_cost_X12_isShelf rfl rfl rfl hS_yX12_isShelf ⟨Nat.le_trans (Nat.le_of_ble_eq_true rfl) hfr, Nat.le_trans (Nat.le_of_ble_eq_true rfl) hlo⟩) (z_preS hF hG) rfl rfl hl.1 rfl (lv_room (Nat.le_of_ble_eq_true rfl)) dX12_cost_1 ⟨Nat.zero_le _, Nat.zero_le _⟩) hG (fun r2 Z1 H locs hw hG => ?_)
  refine lv_if_ne (tgt := 9) hx hb dX12_cost_4 (by decide) (fun c3 => ?_) (fun c3 => ?_)
  · replace hw := hw.1 c3
    refine lv_aload_n hx hb dX12_cost_9 rfl (lv_at hl 0 rfl) ?_
    refine lv_iload_n hx hb dX12_cost_10 rfl (lv_at hl 1 rfl) ?_
    refine z_ci (va_runV (rest := []) hF.1 (kX12_noSort l E Z1 a1  hw _) (cwV 1 hts gX12_cost_X12_noSort rfl rfl rfl ⟨rfl, hS_yX12_noSort⟩ ⟨Nat.le_trans (Nat.le_of_ble_eq_true rfl) hfr, Nat.le_trans (Nat.le_of_ble_eq_true rfl) hlo⟩) (z_preV hF hG 97 (by decide) z_md rfl) rfl rfl hl.1 rfl (lv_room (Nat.le_of_ble_eq_true rfl)) dX12_cost_11 ⟨Nat.zero_le _, Nat.zero_le _⟩) hG (fun r5 Z4 H locs hw hG => ?_)
    refine lv_istore_n (lv' := [(2, .int r5), (0, .ref (E.2.1 97)), (1, .int a1)]) hx hb dX12_cost_14 rfl hl (by decide) rfl (fun ls hl => ?_)
    refine lv_iload_n hx hb dX12_cost_15 rfl (lv_at hl 0 rfl) ?_
    refine lv_if_ge (tgt := 23) hx hb dX12_cost_16 (by decide) (fun c6 => ?_) (fun c6 => ?_)
    · replace hw := hw.1 c6
      refine lv_aload_n hx hb dX12_cost_23 rfl (lv_at hl 1 rfl) ?_
      refine lv_iload_n hx hb dX12_cost_24 rfl (lv_at hl 2 rfl) ?_
      refine z_ci (va_runV (rest := []) hF.1 (kX12_costOf l E Z4 a1  hw _) (cwV 1 hts gX12_cost_X12_costOf rfl rfl rfl ⟨rfl, hS_yX12_costOf⟩ ⟨Nat.le_trans (Nat.le_of_ble_eq_true rfl) hfr, Nat.le_trans (Nat.le_of_ble_eq_true rfl) hlo⟩) (z_preV hF hG 97 (by decide) z_md rfl) rfl rfl hl.1 rfl (lv_room (Nat.le_of_ble_eq_true rfl)) dX12_cost_25 ⟨Nat.zero_le _, Nat.zero_le _⟩) hG (fun r8 Z7 H locs hw hG => ?_)
      exact z_iret hF hG hr hlk hw dX12_cost_28
    replace hw := hw.2 c6
    refine lv_iload_n hx hb dX12_cost_19 rfl (lv_at hl 0 rfl) ?_
    refine lv_goto (tgt := 28) hx hb dX12_cost_20 (by decide) ?_
    exact z_iret hF hG hr hlk hw dX12_cost_28
  replace hw := hw.2 (fun h => h c3)
  refine lv_iconst (v := (-1)) hx hb dX12_cost_7 (by decide) ?_
  exact z_iret hF hG hr hlk hw dX12_cost_8
set_option maxHeartbeats 4000000 in
set_option maxRecDepth 100000 in
theorem kX12_toss (l : Launch) (E : zE) (Z : zS) (a1 : Int32) {K : Int32 → zS → Prop} (hw : wX12_toss a1 Z K) : zCi l yX12_toss wsX12_toss ({ frames := 2, cells := 0, slots := 0, locals := 42 } : Room) E Z [.ref (E.2.1 97), .int a1] K := by
  refine z_bodyi (cc := cX12_toss) (nL := 3) (ret := .int) (by decide) rfl (Nat.le_of_ble_eq_true rfl) ?_
  intro p e R s m args below meth c ls hfr hlo hF hr hlk hG hl
  have hx := hF.1.1
  have hb := hF.1.2.1
  have hown := hF.1.2.2.2.1
  have hts := hF.1.2.2.2.2
  have in12 : ∀ w ∈ u_ws RX12 TX12 22, w ∈ wsX12_toss := fun _ h => List.mem_cons_of_mem _ (List.mem_append_right _ h)
  have hl : lv_has ls 3 [(0, .ref (E.2.1 97)), (1, .int a1)] := hl
  unfold wX12_toss at hw
  refine lv_iload_n hx hb dX12_toss_0 rfl (lv_at hl 1 rfl) ?_
  refine z_ci (va_runS (rest := []) hF.1 (kX12_isShelf l E Z a1  hw _) (va_cwS 1 hts gX12_toss_X12_isShelf rfl rfl rfl hS_yX12_isShelf ⟨Nat.le_trans (Nat.le_of_ble_eq_true rfl) hfr, Nat.le_trans (Nat.le_of_ble_eq_true rfl) hlo⟩) (z_preS hF hG) rfl rfl hl.1 rfl (lv_room (Nat.le_of_ble_eq_true rfl)) dX12_toss_1 ⟨Nat.zero_le _, Nat.zero_le _⟩) hG (fun r2 Z1 H locs hw hG => ?_)
  refine lv_if_ne (tgt := 9) hx hb dX12_toss_4 (by decide) (fun c3 => ?_) (fun c3 => ?_)
  · replace hw := hw.1 c3
    refine lv_aload_n hx hb dX12_toss_9 rfl (lv_at hl 0 rfl) ?_
    refine lv_iload_n hx hb dX12_toss_10 rfl (lv_at hl 1 rfl) ?_
    refine z_ci (va_runV (rest := []) hF.1 (kX12_noSort l E Z1 a1  hw _) (cwV 1 hts gX12_toss_X12_noSort rfl rfl rfl ⟨rfl, hS_yX12_noSort⟩ ⟨Nat.le_trans (Nat.le_of_ble_eq_true rfl) hfr, Nat.le_trans (Nat.le_of_ble_eq_true rfl) hlo⟩) (z_preV hF hG 97 (by decide) z_md rfl) rfl rfl hl.1 rfl (lv_room (Nat.le_of_ble_eq_true rfl)) dX12_toss_11 ⟨Nat.zero_le _, Nat.zero_le _⟩) hG (fun r5 Z4 H locs hw hG => ?_)
    refine lv_istore_n (lv' := [(2, .int r5), (0, .ref (E.2.1 97)), (1, .int a1)]) hx hb dX12_toss_14 rfl hl (by decide) rfl (fun ls hl => ?_)
    refine lv_iload_n hx hb dX12_toss_15 rfl (lv_at hl 0 rfl) ?_
    refine lv_if_ge (tgt := 21) hx hb dX12_toss_16 (by decide) (fun c6 => ?_) (fun c6 => ?_)
    · replace hw := hw.1 c6
      refine lv_aload_n hx hb dX12_toss_21 rfl (lv_at hl 1 rfl) ?_
      refine z_get hF hG 97 (by decide) z_md rfl in12 15 (by decide) (List.mem_of_getElem? (i := 1) rfl) rfl rfl dX12_toss_22 ?_
      refine lv_iload_n hx hb dX12_toss_25 rfl (lv_at hl 2 rfl) ?_
      obtain ⟨q7, hw⟩ := hw
      refine z_iald hF hG 105 (by decide) z_m105 q7 dX12_toss_26 ?_
      refine lv_iconst (v := 2) hx hb dX12_toss_27 (by decide) ?_
      refine lv_icmp_eq (tgt := 40) hx hb dX12_toss_28 (by decide) (fun c8 => ?_) (fun c8 => ?_)
      · replace hw := hw.1 c8
        refine lv_bipush (v := (-15)) hx hb dX12_toss_40 (by decide) ?_
        exact z_iret hF hG hr hlk hw dX12_toss_42
      replace hw := hw.2 c8
      refine lv_aload_n hx hb dX12_toss_31 rfl (lv_at hl 1 rfl) ?_
      refine z_get hF hG 97 (by decide) z_md rfl in12 16 (by decide) (List.mem_of_getElem? (i := 2) rfl) rfl rfl dX12_toss_32 ?_
      refine lv_iload_n hx hb dX12_toss_35 rfl (lv_at hl 2 rfl) ?_
      obtain ⟨q9, hw⟩ := hw
      refine z_iald hF hG 106 (by decide) z_m106 q9 dX12_toss_36 ?_
      refine lv_if_ne (tgt := 43) hx hb dX12_toss_37 (by decide) (fun c10 => ?_) (fun c10 => ?_)
      · replace hw := hw.1 c10
        refine lv_aload_n hx hb dX12_toss_43 rfl (lv_at hl 1 rfl) ?_
        refine z_get hF hG 97 (by decide) z_md rfl in12 15 (by decide) (List.mem_of_getElem? (i := 1) rfl) rfl rfl dX12_toss_44 ?_
        refine lv_iload_n hx hb dX12_toss_47 rfl (lv_at hl 2 rfl) ?_
        obtain ⟨q11, hw⟩ := hw
        refine z_iald hF hG 105 (by decide) z_m105 q11 dX12_toss_48 ?_
        refine lv_iconst (v := 5) hx hb dX12_toss_49 (by decide) ?_
        refine lv_icmp_ne (tgt := 65) hx hb dX12_toss_50 (by decide) (fun c12 => ?_) (fun c12 => ?_)
        · replace hw := hw.1 c12
          refine lv_aload_n hx hb dX12_toss_65 rfl (lv_at hl 1 rfl) ?_
          refine z_get hF hG 97 (by decide) z_md rfl in12 15 (by decide) (List.mem_of_getElem? (i := 1) rfl) rfl rfl dX12_toss_66 ?_
          refine lv_iload_n hx hb dX12_toss_69 rfl (lv_at hl 2 rfl) ?_
          obtain ⟨q13, hw⟩ := hw
          refine z_iald hF hG 105 (by decide) z_m105 q13 dX12_toss_70 ?_
          refine lv_if_ne (tgt := 83) hx hb dX12_toss_71 (by decide) (fun c14 => ?_) (fun c14 => ?_)
          · replace hw := hw.1 c14
            refine lv_bipush (v := 100) hx hb dX12_toss_83 (by decide) ?_
            refine lv_aload_n hx hb dX12_toss_85 rfl (lv_at hl 1 rfl) ?_
            refine z_get hF hG 97 (by decide) z_md rfl in12 16 (by decide) (List.mem_of_getElem? (i := 2) rfl) rfl rfl dX12_toss_86 ?_
            refine lv_iload_n hx hb dX12_toss_89 rfl (lv_at hl 2 rfl) ?_
            obtain ⟨q15, hw⟩ := hw
            refine z_iald hF hG 106 (by decide) z_m106 q15 dX12_toss_90 ?_
            refine lv_iadd hx hb dX12_toss_91 ?_
            exact z_iret hF hG hr hlk hw dX12_toss_92
          replace hw := hw.2 (fun h => h c14)
          refine lv_aload_n hx hb dX12_toss_74 rfl (lv_at hl 1 rfl) ?_
          refine z_get hF hG 97 (by decide) z_md rfl in12 16 (by decide) (List.mem_of_getElem? (i := 2) rfl) rfl rfl dX12_toss_75 ?_
          refine lv_iload_n hx hb dX12_toss_78 rfl (lv_at hl 2 rfl) ?_
          obtain ⟨q16, hw⟩ := hw
          refine z_iald hF hG 106 (by decide) z_m106 q16 dX12_toss_79 ?_
          refine lv_goto (tgt := 92) hx hb dX12_toss_80 (by decide) ?_
          exact z_iret hF hG hr hlk hw dX12_toss_92
        replace hw := hw.2 (fun h => h c12)
        refine lv_sipush (v := 200) hx hb dX12_toss_53 (by decide) ?_
        refine lv_aload_n hx hb dX12_toss_56 rfl (lv_at hl 1 rfl) ?_
        refine lv_iload_n hx hb dX12_toss_57 rfl (lv_at hl 2 rfl) ?_
        refine z_ci (va_runV (rest := [.int 200]) hF.1 (kX12_costOf l E Z4 a1  hw _) (cwV 1 hts gX12_toss_X12_costOf rfl rfl rfl ⟨rfl, hS_yX12_costOf⟩ ⟨Nat.le_trans (Nat.le_of_ble_eq_true rfl) hfr, Nat.le_trans (Nat.le_of_ble_eq_true rfl) hlo⟩) (z_preV hF hG 97 (by decide) z_md rfl) rfl rfl hl.1 rfl (lv_room (Nat.le_of_ble_eq_true rfl)) dX12_toss_58 ⟨Nat.zero_le _, Nat.zero_le _⟩) hG (fun r18 Z17 H locs hw hG => ?_)
        refine lv_iadd hx hb dX12_toss_61 ?_
        refine lv_goto (tgt := 92) hx hb dX12_toss_62 (by decide) ?_
        exact z_iret hF hG hr hlk hw dX12_toss_92
      replace hw := hw.2 (fun h => h c10)
      refine lv_bipush (v := (-15)) hx hb dX12_toss_40 (by decide) ?_
      exact z_iret hF hG hr hlk hw dX12_toss_42
    replace hw := hw.2 c6
    refine lv_iload_n hx hb dX12_toss_19 rfl (lv_at hl 0 rfl) ?_
    exact z_iret hF hG hr hlk hw dX12_toss_20
  replace hw := hw.2 (fun h => h c3)
  refine lv_iconst (v := (-1)) hx hb dX12_toss_7 (by decide) ?_
  exact z_iret hF hG hr hlk hw dX12_toss_8
