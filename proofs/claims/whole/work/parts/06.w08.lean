theorem hS_yX12_begins : yX12_begins.cls ≠ "java/lang/invoke/MethodHandle" ∧ yX12_begins.cls ≠ "java/lang/invoke/VarHandle" ∧ (parseMethodDescriptor yX12_begins.desc).map (fun d => d.parameters.length) = some 0 := by decide +kernel
theorem hS_yX12_earliest : yX12_earliest.cls ≠ "java/lang/invoke/MethodHandle" ∧ yX12_earliest.cls ≠ "java/lang/invoke/VarHandle" ∧ (parseMethodDescriptor yX12_earliest.desc).map (fun d => d.parameters.length) = some 0 := by decide +kernel
theorem hS_yX12_holder : yX12_holder.cls ≠ "java/lang/invoke/MethodHandle" ∧ yX12_holder.cls ≠ "java/lang/invoke/VarHandle" ∧ (parseMethodDescriptor yX12_holder.desc).map (fun d => d.parameters.length) = some 1 := by decide +kernel
theorem hS_yX12_pays : yX12_pays.cls ≠ "java/lang/invoke/MethodHandle" ∧ yX12_pays.cls ≠ "java/lang/invoke/VarHandle" ∧ (parseMethodDescriptor yX12_pays.desc).map (fun d => d.parameters.length) = some 1 := by decide +kernel
theorem hS_yX12_ends : yX12_ends.cls ≠ "java/lang/invoke/MethodHandle" ∧ yX12_ends.cls ≠ "java/lang/invoke/VarHandle" ∧ (parseMethodDescriptor yX12_ends.desc).map (fun d => d.parameters.length) = some 1 := by decide +kernel
theorem hS_yX12_refills : yX12_refills.cls ≠ "java/lang/invoke/MethodHandle" ∧ yX12_refills.cls ≠ "java/lang/invoke/VarHandle" ∧ (parseMethodDescriptor yX12_refills.desc).map (fun d => d.parameters.length) = some 1 := by decide +kernel
set_option maxHeartbeats 4000000 in
set_option maxRecDepth 100000 in
theorem kX12_goesBy (l : Launch) (E : zE) (Z : zS) (a1 : Int32) {K : zS → Prop} (hw : wX12_goesBy a1 Z K) : zCv l yX12_goesBy wsX12_goesBy ({ frames := 4, cells := 0, slots := 0, locals := 85 } : Room) E Z [.ref (E.2.1 97), .int a1] K := by
  refine z_bodyv (cc := cX12_goesBy) (nL := 4) (by decide) rfl (Nat.le_of_ble_eq_true rfl) ?_
  intro p e R s m args below meth c ls hfr hlo hF hr hlk hG hl
  have hx := hF.1.1
  have hb := hF.1.2.1
  have hown := hF.1.2.2.2.1
  have hts := hF.1.2.2.2.2
  have in12 : ∀ w ∈ u_ws RX12 TX12 22, w ∈ wsX12_goesBy := fun _ h => List.mem_cons_of_mem _ (List.mem_append_right _ h)
  have hl : lv_has ls 4 [(0, .ref (E.2.1 97)), (1, .int a1)] := hl
  have J259 : ∀ (Z : zS) (H : Heap) (locs : List Loc) (ls : Array Slot), zG E Z s H locs → lv_has ls 4 [(0, .ref (E.2.1 97))] → wX12_goesBy_259 a1 Z K → W p l e R s m args below meth c H locs 0 0 (zQv E K below args s) (F0 m 259 ls []) := by
    intro Z H locs ls hG hl hw
    unfold wX12_goesBy_259 at hw
    refine lv_aload_n hx hb dX12_goesBy_259 rfl (lv_at hl 0 rfl) ?_
    refine lv_dup hx hb dX12_goesBy_260 rfl ?_
    refine z_get hF hG 97 (by decide) z_md rfl in12 0 (by decide) (List.mem_of_getElem? (i := 6) rfl) rfl rfl dX12_goesBy_261 ?_
    refine lv_iconst (v := 1) hx hb dX12_goesBy_264 (by decide) ?_
    refine lv_iadd hx hb dX12_goesBy_265 ?_
    refine z_put hF hG 97 (by decide) z_md rfl in12 tyX12_ok nmX12 0 (by decide) (List.mem_of_getElem? (i := 6) rfl) rfl rfl (tyX12_ok 0 (by decide)) rfl rfl (Nat.le_of_ble_eq_true rfl) (((Z 97 0) + 1)) z_md dX12_goesBy_266 (fun Z40 H locs eZ40 hG => ?_)
    replace hw := hw Z40 eZ40
    exact z_vret hF hG hr hlk hw dX12_goesBy_269
  have J220 : ∀ (Z : zS) (H : Heap) (locs : List Loc) (ls : Array Slot), zG E Z s H locs → lv_has ls 4 [(0, .ref (E.2.1 97))] → wX12_goesBy_220 a1 Z K → W p l e R s m args below meth c H locs 0 0 (zQv E K below args s) (F0 m 220 ls []) := by
    intro Z H locs ls hG hl hw
    unfold wX12_goesBy_220 at hw
    refine lv_aload_n hx hb dX12_goesBy_220 rfl (lv_at hl 0 rfl) ?_
    refine z_get hF hG 97 (by decide) z_md rfl in12 2 (by decide) (List.mem_of_getElem? (i := 5) rfl) rfl rfl dX12_goesBy_221 ?_
    refine lv_bipush (v := 36) hx hb dX12_goesBy_224 (by decide) ?_
    refine lv_aload_n hx hb dX12_goesBy_226 rfl (lv_at hl 0 rfl) ?_
    refine z_get hF hG 97 (by decide) z_md rfl in12 5 (by decide) (List.mem_of_getElem? (i := 1) rfl) rfl rfl dX12_goesBy_227 ?_
    refine lv_iadd hx hb dX12_goesBy_230 ?_
    obtain ⟨q35, hw⟩ := hw
    refine z_iald hF hG 98 (by decide) z_m98 q35 dX12_goesBy_231 ?_
    refine lv_iconst (v := 1) hx hb dX12_goesBy_232 (by decide) ?_
    refine lv_icmp_ne (tgt := 259) hx hb dX12_goesBy_233 (by decide) (fun c36 => ?_) (fun c36 => ?_)
    · replace hw := hw.1 c36
      exact J259  Z _ _ _ hG (lv_sub hl [0] rfl) hw
    replace hw := hw.2 (fun h => h c36)
    refine lv_aload_n hx hb dX12_goesBy_236 rfl (lv_at hl 0 rfl) ?_
    refine z_get hF hG 97 (by decide) z_md rfl in12 2 (by decide) (List.mem_of_getElem? (i := 5) rfl) rfl rfl dX12_goesBy_237 ?_
    refine lv_bipush (v := 24) hx hb dX12_goesBy_240 (by decide) ?_
    refine lv_aload_n hx hb dX12_goesBy_242 rfl (lv_at hl 0 rfl) ?_
    refine z_get hF hG 97 (by decide) z_md rfl in12 5 (by decide) (List.mem_of_getElem? (i := 1) rfl) rfl rfl dX12_goesBy_243 ?_
    refine lv_iadd hx hb dX12_goesBy_246 ?_
    obtain ⟨q37, hw⟩ := hw
    refine z_iald hF hG 98 (by decide) z_m98 q37 dX12_goesBy_247 ?_
    refine lv_if_gt (tgt := 259) hx hb dX12_goesBy_248 (by decide) (fun c38 => ?_) (fun c38 => ?_)
    · replace hw := hw.1 c38
      exact J259  Z _ _ _ hG (lv_sub hl [0] rfl) hw
    replace hw := hw.2 c38
    refine lv_aload_n hx hb dX12_goesBy_251 rfl (lv_at hl 0 rfl) ?_
    refine lv_aload_n hx hb dX12_goesBy_252 rfl (lv_at hl 0 rfl) ?_
    refine z_get hF hG 97 (by decide) z_md rfl in12 5 (by decide) (List.mem_of_getElem? (i := 1) rfl) rfl rfl dX12_goesBy_253 ?_
    refine z_cv (va_runV (rest := []) hF.1 (kX12_refills l E Z ((Z 97 5))  hw _) (cwV 1 hts gX12_goesBy_X12_refills rfl rfl rfl ⟨rfl, hS_yX12_refills⟩ ⟨Nat.le_trans (Nat.le_of_ble_eq_true rfl) hfr, Nat.le_trans (Nat.le_of_ble_eq_true rfl) hlo⟩) (z_preV hF hG 97 (by decide) z_md rfl) rfl rfl hl.1 rfl (lv_room (Nat.le_of_ble_eq_true rfl)) dX12_goesBy_256 ⟨Nat.zero_le _, Nat.zero_le _⟩) hG (fun Z39 H locs hw hG => ?_)
    exact J259  Z39 _ _ _ hG (lv_sub hl [0] rfl) hw
  have J198 : ∀ (Z : zS) (H : Heap) (locs : List Loc) (ls : Array Slot), zG E Z s H locs → lv_has ls 4 [(0, .ref (E.2.1 97))] → wX12_goesBy_198 a1 Z K → W p l e R s m args below meth c H locs 0 0 (zQv E K below args s) (F0 m 198 ls []) := by
    intro Z H locs ls hG hl hw
    unfold wX12_goesBy_198 at hw
    refine lv_aload_n hx hb dX12_goesBy_198 rfl (lv_at hl 0 rfl) ?_
    refine z_get hF hG 97 (by decide) z_md rfl in12 3 (by decide) (List.mem_of_getElem? (i := 4) rfl) rfl rfl dX12_goesBy_199 ?_
    refine lv_iconst (v := 4) hx hb dX12_goesBy_202 (by decide) ?_
    refine lv_aload_n hx hb dX12_goesBy_203 rfl (lv_at hl 0 rfl) ?_
    refine z_get hF hG 97 (by decide) z_md rfl in12 6 (by decide) (List.mem_of_getElem? (i := 2) rfl) rfl rfl dX12_goesBy_204 ?_
    refine lv_imul hx hb dX12_goesBy_207 ?_
    obtain ⟨q32, hw⟩ := hw
    refine z_iald hF hG 99 (by decide) z_m99 q32 dX12_goesBy_208 ?_
    refine lv_if_ne (tgt := 220) hx hb dX12_goesBy_209 (by decide) (fun c33 => ?_) (fun c33 => ?_)
    · replace hw := hw.1 c33
      exact J220  Z _ _ _ hG (lv_sub hl [0] rfl) hw
    replace hw := hw.2 (fun h => h c33)
    refine lv_aload_n hx hb dX12_goesBy_212 rfl (lv_at hl 0 rfl) ?_
    refine lv_aload_n hx hb dX12_goesBy_213 rfl (lv_at hl 0 rfl) ?_
    refine z_get hF hG 97 (by decide) z_md rfl in12 6 (by decide) (List.mem_of_getElem? (i := 2) rfl) rfl rfl dX12_goesBy_214 ?_
    refine z_cv (va_runV (rest := []) hF.1 (kX12_ends l E Z ((Z 97 6))  hw _) (cwV 1 hts gX12_goesBy_X12_ends rfl rfl rfl ⟨rfl, hS_yX12_ends⟩ ⟨Nat.le_trans (Nat.le_of_ble_eq_true rfl) hfr, Nat.le_trans (Nat.le_of_ble_eq_true rfl) hlo⟩) (z_preV hF hG 97 (by decide) z_md rfl) rfl rfl hl.1 rfl (lv_room (Nat.le_of_ble_eq_true rfl)) dX12_goesBy_217 ⟨Nat.zero_le _, Nat.zero_le _⟩) hG (fun Z34 H locs hw hG => ?_)
    exact J220  Z34 _ _ _ hG (lv_sub hl [0] rfl) hw
  have J123 : ∀ (s0 : Int32) (s1 : Int32) (Z : zS) (H : Heap) (locs : List Loc) (ls : Array Slot), zG E Z s H locs → lv_has ls 4 [(0, .ref (E.2.1 97))] → wX12_goesBy_123 a1 s0 s1 Z K → W p l e R s m args below meth c H locs 0 0 (zQv E K below args s) (F0 m 123 ls [.int s0, .int s1, .ref (E.2.1 98)]) := by
    intro s0 s1 Z H locs ls hG hl hw
    unfold wX12_goesBy_123 at hw
    obtain ⟨q20, hw⟩ := hw
    refine z_iast hF hG 98 (by decide) (fun _ => z_m98) q20 dX12_goesBy_123 (fun Z21 H locs eZ21 hG => ?_)
    replace hw := hw Z21 eZ21
    refine lv_aload_n hx hb dX12_goesBy_124 rfl (lv_at hl 0 rfl) ?_
    refine z_get hF hG 97 (by decide) z_md rfl in12 2 (by decide) (List.mem_of_getElem? (i := 5) rfl) rfl rfl dX12_goesBy_125 ?_
    refine lv_bipush (v := 24) hx hb dX12_goesBy_128 (by decide) ?_
    refine lv_aload_n hx hb dX12_goesBy_130 rfl (lv_at hl 0 rfl) ?_
    refine z_get hF hG 97 (by decide) z_md rfl in12 5 (by decide) (List.mem_of_getElem? (i := 1) rfl) rfl rfl dX12_goesBy_131 ?_
    refine lv_iadd hx hb dX12_goesBy_134 ?_
    refine lv_dup2_11 hx hb dX12_goesBy_135 rfl rfl ?_
    obtain ⟨q22, hw⟩ := hw
    refine z_iald hF hG 98 (by decide) z_m98 q22 dX12_goesBy_136 ?_
    refine lv_aload_n hx hb dX12_goesBy_137 rfl (lv_at hl 0 rfl) ?_
    refine lv_aload_n hx hb dX12_goesBy_138 rfl (lv_at hl 0 rfl) ?_
    refine z_get hF hG 97 (by decide) z_md rfl in12 5 (by decide) (List.mem_of_getElem? (i := 1) rfl) rfl rfl dX12_goesBy_139 ?_
    refine z_ci (va_runV (rest := [.int ((Z21 98 ((24 + (Z21 97 5)) : Int32).toNatClampNeg)), .int ((24 + (Z21 97 5))), .ref (E.2.1 98)]) hF.1 (kX12_pays l E Z21 ((Z21 97 5))  hw _) (cwV 1 hts gX12_goesBy_X12_pays rfl rfl rfl ⟨rfl, hS_yX12_pays⟩ ⟨Nat.le_trans (Nat.le_of_ble_eq_true rfl) hfr, Nat.le_trans (Nat.le_of_ble_eq_true rfl) hlo⟩) (z_preV hF hG 97 (by decide) z_md rfl) rfl rfl hl.1 rfl (lv_room (Nat.le_of_ble_eq_true rfl)) dX12_goesBy_142 ⟨Nat.zero_le _, Nat.zero_le _⟩) hG (fun r24 Z23 H locs hw hG => ?_)
    refine lv_isub hx hb dX12_goesBy_145 ?_
    obtain ⟨q25, hw⟩ := hw
    refine z_iast hF hG 98 (by decide) (fun _ => z_m98) q25 dX12_goesBy_146 (fun Z26 H locs eZ26 hG => ?_)
    replace hw := hw Z26 eZ26
    refine lv_aload_n hx hb dX12_goesBy_147 rfl (lv_at hl 0 rfl) ?_
    refine z_get hF hG 97 (by decide) z_md rfl in12 0 (by decide) (List.mem_of_getElem? (i := 6) rfl) rfl rfl dX12_goesBy_148 ?_
    refine lv_aload_n hx hb dX12_goesBy_151 rfl (lv_at hl 0 rfl) ?_
    refine z_get hF hG 97 (by decide) z_md rfl in12 2 (by decide) (List.mem_of_getElem? (i := 5) rfl) rfl rfl dX12_goesBy_152 ?_
    refine lv_bipush (v := 60) hx hb dX12_goesBy_155 (by decide) ?_
    refine lv_aload_n hx hb dX12_goesBy_157 rfl (lv_at hl 0 rfl) ?_
    refine z_get hF hG 97 (by decide) z_md rfl in12 6 (by decide) (List.mem_of_getElem? (i := 2) rfl) rfl rfl dX12_goesBy_158 ?_
    refine lv_iadd hx hb dX12_goesBy_161 ?_
    obtain ⟨q27, hw⟩ := hw
    refine z_iald hF hG 98 (by decide) z_m98 q27 dX12_goesBy_162 ?_
    refine lv_icmp_lt (tgt := 198) hx hb dX12_goesBy_163 (by decide) (fun c28 => ?_) (fun c28 => ?_)
    · replace hw := hw.1 c28
      exact J198  Z26 _ _ _ hG (lv_sub hl [0] rfl) hw
    replace hw := hw.2 c28
    refine lv_aload_n hx hb dX12_goesBy_166 rfl (lv_at hl 0 rfl) ?_
    refine z_get hF hG 97 (by decide) z_md rfl in12 2 (by decide) (List.mem_of_getElem? (i := 5) rfl) rfl rfl dX12_goesBy_167 ?_
    refine lv_bipush (v := 48) hx hb dX12_goesBy_170 (by decide) ?_
    refine lv_aload_n hx hb dX12_goesBy_172 rfl (lv_at hl 0 rfl) ?_
    refine z_get hF hG 97 (by decide) z_md rfl in12 6 (by decide) (List.mem_of_getElem? (i := 2) rfl) rfl rfl dX12_goesBy_173 ?_
    refine lv_iadd hx hb dX12_goesBy_176 ?_
    refine lv_sipush (v := 999) hx hb dX12_goesBy_177 (by decide) ?_
    refine lv_aload_n hx hb dX12_goesBy_180 rfl (lv_at hl 0 rfl) ?_
    refine z_get hF hG 97 (by decide) z_md rfl in12 2 (by decide) (List.mem_of_getElem? (i := 5) rfl) rfl rfl dX12_goesBy_181 ?_
    refine lv_bipush (v := 48) hx hb dX12_goesBy_184 (by decide) ?_
    refine lv_aload_n hx hb dX12_goesBy_186 rfl (lv_at hl 0 rfl) ?_
    refine z_get hF hG 97 (by decide) z_md rfl in12 6 (by decide) (List.mem_of_getElem? (i := 2) rfl) rfl rfl dX12_goesBy_187 ?_
    refine lv_iadd hx hb dX12_goesBy_190 ?_
    obtain ⟨q29, hw⟩ := hw
    refine z_iald hF hG 98 (by decide) z_m98 q29 dX12_goesBy_191 ?_
    refine lv_iconst (v := 1) hx hb dX12_goesBy_192 (by decide) ?_
    refine lv_iadd hx hb dX12_goesBy_193 ?_
    refine va_mmin hx hb (hF.1.2.2.1.trans hl.1.symm) hown (hts (.methodLink RX12 76 Lib.Math.min.name) (List.mem_of_getElem? (i := 7) rfl)) (hts (.static Lib.Math.min.name) (List.mem_of_getElem? (i := 8) rfl)) (hts (.initialized "java/lang/Math") (List.mem_of_getElem? (i := 9) rfl)) (hts (.code Lib.Math.min.name Lib.Math.min.code 2 (some .int)) (List.mem_of_getElem? (i := 10) rfl)) (Nat.le_trans (Nat.le_of_ble_eq_true rfl) hfr) (Nat.le_trans (Nat.le_of_ble_eq_true rfl) hlo) (Nat.zero_le _) (Nat.zero_le _) dX12_goesBy_194 ?_
    obtain ⟨q30, hw⟩ := hw
    refine z_iast hF hG 98 (by decide) (fun _ => z_m98) q30 dX12_goesBy_197 (fun Z31 H locs eZ31 hG => ?_)
    replace hw := hw Z31 eZ31
    exact J198  Z31 _ _ _ hG (lv_sub hl [0] rfl) hw
  have J77 : ∀ (Z : zS) (H : Heap) (locs : List Loc) (ls : Array Slot), zG E Z s H locs → lv_has ls 4 [(0, .ref (E.2.1 97))] → wX12_goesBy_77 a1 Z K → W p l e R s m args below meth c H locs 0 0 (zQv E K below args s) (F0 m 77 ls []) := by
    intro Z H locs ls hG hl hw
    unfold wX12_goesBy_77 at hw
    refine lv_aload_n hx hb dX12_goesBy_77 rfl (lv_at hl 0 rfl) ?_
    refine z_get hF hG 97 (by decide) z_md rfl in12 3 (by decide) (List.mem_of_getElem? (i := 4) rfl) rfl rfl dX12_goesBy_78 ?_
    refine lv_iconst (v := 4) hx hb dX12_goesBy_81 (by decide) ?_
    refine lv_aload_n hx hb dX12_goesBy_82 rfl (lv_at hl 0 rfl) ?_
    refine z_get hF hG 97 (by decide) z_md rfl in12 6 (by decide) (List.mem_of_getElem? (i := 2) rfl) rfl rfl dX12_goesBy_83 ?_
    refine lv_imul hx hb dX12_goesBy_86 ?_
    refine lv_dup2_11 hx hb dX12_goesBy_87 rfl rfl ?_
    obtain ⟨q15, hw⟩ := hw
    refine z_iald hF hG 99 (by decide) z_m99 q15 dX12_goesBy_88 ?_
    refine lv_iconst (v := 1) hx hb dX12_goesBy_89 (by decide) ?_
    refine lv_isub hx hb dX12_goesBy_90 ?_
    obtain ⟨q16, hw⟩ := hw
    refine z_iast hF hG 99 (by decide) (fun _ => z_m99) q16 dX12_goesBy_91 (fun Z17 H locs eZ17 hG => ?_)
    replace hw := hw Z17 eZ17
    refine lv_aload_n hx hb dX12_goesBy_92 rfl (lv_at hl 0 rfl) ?_
    refine z_get hF hG 97 (by decide) z_md rfl in12 2 (by decide) (List.mem_of_getElem? (i := 5) rfl) rfl rfl dX12_goesBy_93 ?_
    refine lv_bipush (v := 66) hx hb dX12_goesBy_96 (by decide) ?_
    refine lv_aload_n hx hb dX12_goesBy_98 rfl (lv_at hl 0 rfl) ?_
    refine z_get hF hG 97 (by decide) z_md rfl in12 6 (by decide) (List.mem_of_getElem? (i := 2) rfl) rfl rfl dX12_goesBy_99 ?_
    refine lv_iadd hx hb dX12_goesBy_102 ?_
    refine lv_aload_n hx hb dX12_goesBy_103 rfl (lv_at hl 0 rfl) ?_
    refine z_get hF hG 97 (by decide) z_md rfl in12 4 (by decide) (List.mem_of_getElem? (i := 3) rfl) rfl rfl dX12_goesBy_104 ?_
    refine lv_iconst (v := 4) hx hb dX12_goesBy_107 (by decide) ?_
    refine lv_aload_n hx hb dX12_goesBy_108 rfl (lv_at hl 0 rfl) ?_
    refine z_get hF hG 97 (by decide) z_md rfl in12 6 (by decide) (List.mem_of_getElem? (i := 2) rfl) rfl rfl dX12_goesBy_109 ?_
    refine lv_imul hx hb dX12_goesBy_112 ?_
    obtain ⟨q18, hw⟩ := hw
    refine z_iald hF hG 100 (by decide) z_m100 q18 dX12_goesBy_113 ?_
    refine lv_iconst (v := 3) hx hb dX12_goesBy_114 (by decide) ?_
    refine lv_icmp_ge (tgt := 122) hx hb dX12_goesBy_115 (by decide) (fun c19 => ?_) (fun c19 => ?_)
    · replace hw := hw.1 c19
      refine lv_iconst (v := 0) hx hb dX12_goesBy_122 (by decide) ?_
      exact J123 0 ((66 + (Z17 97 6))) Z17 _ _ _ hG (lv_sub hl [0] rfl) hw
    replace hw := hw.2 c19
    refine lv_iconst (v := 1) hx hb dX12_goesBy_118 (by decide) ?_
    refine lv_goto (tgt := 123) hx hb dX12_goesBy_119 (by decide) ?_
    exact J123 1 ((66 + (Z17 97 6))) Z17 _ _ _ hG (lv_sub hl [0] rfl) hw
  have J65 : ∀ (s0 : Int32) (Z : zS) (H : Heap) (locs : List Loc) (ls : Array Slot), zG E Z s H locs → lv_has ls 4 [(0, .ref (E.2.1 97))] → wX12_goesBy_65 a1 s0 Z K → W p l e R s m args below meth c H locs 0 0 (zQv E K below args s) (F0 m 65 ls [.int s0]) := by
    intro s0 Z H locs ls hG hl hw
    unfold wX12_goesBy_65 at hw
    refine lv_istore_n (lv' := [(3, .int s0), (0, .ref (E.2.1 97))]) hx hb dX12_goesBy_65 rfl hl (by decide) rfl (fun ls hl => ?_)
    refine lv_iload_n hx hb dX12_goesBy_66 rfl (lv_at hl 0 rfl) ?_
    refine lv_bipush (v := (-4)) hx hb dX12_goesBy_67 (by decide) ?_
    refine lv_icmp_eq (tgt := 77) hx hb dX12_goesBy_69 (by decide) (fun c13 => ?_) (fun c13 => ?_)
    · replace hw := hw.1 c13
      exact J77  Z _ _ _ hG (lv_sub hl [1] rfl) hw
    replace hw := hw.2 c13
    refine lv_aload_n hx hb dX12_goesBy_72 rfl (lv_at hl 1 rfl) ?_
    refine lv_iload_n hx hb dX12_goesBy_73 rfl (lv_at hl 0 rfl) ?_
    refine z_put hF hG 97 (by decide) z_md rfl in12 tyX12_ok nmX12 6 (by decide) (List.mem_of_getElem? (i := 2) rfl) rfl rfl (tyX12_ok 6 (by decide)) rfl rfl (Nat.le_of_ble_eq_true rfl) s0 z_md dX12_goesBy_74 (fun Z14 H locs eZ14 hG => ?_)
    replace hw := hw Z14 eZ14
    exact J77  Z14 _ _ _ hG (lv_sub hl [1] rfl) hw
  have J18 : ∀ (s0 : Int32) (Z : zS) (H : Heap) (locs : List Loc) (ls : Array Slot), zG E Z s H locs → lv_has ls 4 [(0, .ref (E.2.1 97))] → wX12_goesBy_18 a1 s0 Z K → W p l e R s m args below meth c H locs 0 0 (zQv E K below args s) (F0 m 18 ls [.int s0, .ref (E.2.1 97)]) := by
    intro s0 Z H locs ls hG hl hw
    unfold wX12_goesBy_18 at hw
    refine z_put hF hG 97 (by decide) z_md rfl in12 tyX12_ok nmX12 5 (by decide) (List.mem_of_getElem? (i := 1) rfl) rfl rfl (tyX12_ok 5 (by decide)) rfl rfl (Nat.le_of_ble_eq_true rfl) s0 z_md dX12_goesBy_18 (fun Z5 H locs eZ5 hG => ?_)
    replace hw := hw Z5 eZ5
    refine lv_aload_n hx hb dX12_goesBy_21 rfl (lv_at hl 0 rfl) ?_
    refine lv_aload_n hx hb dX12_goesBy_22 rfl (lv_at hl 0 rfl) ?_
    refine z_get hF hG 97 (by decide) z_md rfl in12 5 (by decide) (List.mem_of_getElem? (i := 1) rfl) rfl rfl dX12_goesBy_23 ?_
    refine z_put hF hG 97 (by decide) z_md rfl in12 tyX12_ok nmX12 6 (by decide) (List.mem_of_getElem? (i := 2) rfl) rfl rfl (tyX12_ok 6 (by decide)) rfl rfl (Nat.le_of_ble_eq_true rfl) ((Z5 97 5)) z_md dX12_goesBy_26 (fun Z6 H locs eZ6 hG => ?_)
    replace hw := hw Z6 eZ6
    refine lv_aload_n hx hb dX12_goesBy_29 rfl (lv_at hl 0 rfl) ?_
    refine z_get hF hG 97 (by decide) z_md rfl in12 5 (by decide) (List.mem_of_getElem? (i := 1) rfl) rfl rfl dX12_goesBy_30 ?_
    refine lv_bipush (v := (-4)) hx hb dX12_goesBy_33 (by decide) ?_
    refine lv_icmp_eq (tgt := 259) hx hb dX12_goesBy_35 (by decide) (fun c7 => ?_) (fun c7 => ?_)
    · replace hw := hw.1 c7
      exact J259  Z6 _ _ _ hG (lv_sub hl [0] rfl) hw
    replace hw := hw.2 c7
    refine lv_aload_n hx hb dX12_goesBy_38 rfl (lv_at hl 0 rfl) ?_
    refine z_get hF hG 97 (by decide) z_md rfl in12 4 (by decide) (List.mem_of_getElem? (i := 3) rfl) rfl rfl dX12_goesBy_39 ?_
    refine lv_iconst (v := 4) hx hb dX12_goesBy_42 (by decide) ?_
    refine lv_aload_n hx hb dX12_goesBy_43 rfl (lv_at hl 0 rfl) ?_
    refine z_get hF hG 97 (by decide) z_md rfl in12 5 (by decide) (List.mem_of_getElem? (i := 1) rfl) rfl rfl dX12_goesBy_44 ?_
    refine lv_imul hx hb dX12_goesBy_47 ?_
    obtain ⟨q8, hw⟩ := hw
    refine z_iald hF hG 100 (by decide) z_m100 q8 dX12_goesBy_48 ?_
    refine lv_topi (fun y9 ey9 => ?_)
    replace hw := hw y9 ey9
    refine lv_istore_n (lv' := [(2, .int y9), (0, .ref (E.2.1 97))]) hx hb dX12_goesBy_49 rfl hl (by decide) rfl (fun ls hl => ?_)
    refine lv_iload_n hx hb dX12_goesBy_50 rfl (lv_at hl 0 rfl) ?_
    refine lv_iconst (v := 3) hx hb dX12_goesBy_51 (by decide) ?_
    refine lv_icmp_ge (tgt := 63) hx hb dX12_goesBy_52 (by decide) (fun c10 => ?_) (fun c10 => ?_)
    · replace hw := hw.1 c10
      refine lv_bipush (v := (-4)) hx hb dX12_goesBy_63 (by decide) ?_
      exact J65 ((-4)) Z6 _ _ _ hG (lv_sub hl [1] rfl) hw
    replace hw := hw.2 c10
    refine lv_aload_n hx hb dX12_goesBy_55 rfl (lv_at hl 1 rfl) ?_
    refine lv_iload_n hx hb dX12_goesBy_56 rfl (lv_at hl 0 rfl) ?_
    refine z_ci (va_runV (rest := []) hF.1 (kX12_holder l E Z6 y9  hw _) (cwV 1 hts gX12_goesBy_X12_holder rfl rfl rfl ⟨rfl, hS_yX12_holder⟩ ⟨Nat.le_trans (Nat.le_of_ble_eq_true rfl) hfr, Nat.le_trans (Nat.le_of_ble_eq_true rfl) hlo⟩) (z_preV hF hG 97 (by decide) z_md rfl) rfl rfl hl.1 rfl (lv_room (Nat.le_of_ble_eq_true rfl)) dX12_goesBy_57 ⟨Nat.zero_le _, Nat.zero_le _⟩) hG (fun r12 Z11 H locs hw hG => ?_)
    refine lv_goto (tgt := 65) hx hb dX12_goesBy_60 (by decide) ?_
    exact J65 r12 Z11 _ _ _ hG (lv_sub hl [1] rfl) hw
  unfold wX12_goesBy at hw
  refine lv_aload_n hx hb dX12_goesBy_0 rfl (lv_at hl 0 rfl) ?_
  refine z_cv (va_runV (rest := []) hF.1 (kX12_begins l E Z   hw _) (cwV 0 hts gX12_goesBy_X12_begins rfl rfl rfl ⟨rfl, hS_yX12_begins⟩ ⟨Nat.le_trans (Nat.le_of_ble_eq_true rfl) hfr, Nat.le_trans (Nat.le_of_ble_eq_true rfl) hlo⟩) (z_preV hF hG 97 (by decide) z_md rfl) rfl rfl hl.1 rfl (lv_room (Nat.le_of_ble_eq_true rfl)) dX12_goesBy_1 ⟨Nat.zero_le _, Nat.zero_le _⟩) hG (fun Z1 H locs hw hG => ?_)
  refine lv_aload_n hx hb dX12_goesBy_4 rfl (lv_at hl 0 rfl) ?_
  refine lv_iload_n hx hb dX12_goesBy_5 rfl (lv_at hl 1 rfl) ?_
  refine lv_if_eq (tgt := 14) hx hb dX12_goesBy_6 (by decide) (fun c2 => ?_) (fun c2 => ?_)
  · replace hw := hw.1 c2
    refine lv_aload_n hx hb dX12_goesBy_14 rfl (lv_at hl 0 rfl) ?_
    refine z_ci (va_runV (rest := [.ref (E.2.1 97)]) hF.1 (kX12_earliest l E Z1   hw _) (cwV 0 hts gX12_goesBy_X12_earliest rfl rfl rfl ⟨rfl, hS_yX12_earliest⟩ ⟨Nat.le_trans (Nat.le_of_ble_eq_true rfl) hfr, Nat.le_trans (Nat.le_of_ble_eq_true rfl) hlo⟩) (z_preV hF hG 97 (by decide) z_md rfl) rfl rfl hl.1 rfl (lv_room (Nat.le_of_ble_eq_true rfl)) dX12_goesBy_15 ⟨Nat.zero_le _, Nat.zero_le _⟩) hG (fun r4 Z3 H locs hw hG => ?_)
    exact J18 r4 Z3 _ _ _ hG (lv_sub hl [0] rfl) hw
  replace hw := hw.2 c2
  refine lv_bipush (v := (-4)) hx hb dX12_goesBy_9 (by decide) ?_
  refine lv_goto (tgt := 18) hx hb dX12_goesBy_11 (by decide) ?_
  exact J18 ((-4)) Z1 _ _ _ hG (lv_sub hl [0] rfl) hw
theorem hS_yX12_goesBy : yX12_goesBy.cls ≠ "java/lang/invoke/MethodHandle" ∧ yX12_goesBy.cls ≠ "java/lang/invoke/VarHandle" ∧ (parseMethodDescriptor yX12_goesBy.desc).map (fun d => d.parameters.length) = some 1 := by decide +kernel
set_option maxHeartbeats 4000000 in
set_option maxRecDepth 100000 in
theorem kX12_goes (l : Launch) (E : zE) (Z : zS) {K : zS → Prop} (hw : wX12_goes Z K) : zCv l yX12_goes wsX12_goes ({ frames := 5, cells := 0, slots := 0, locals := 108 } : Room) E Z [.ref (E.2.1 97)] K := by
  refine z_bodyv (cc := cX12_goes) (nL := 1) (by decide) rfl (Nat.le_of_ble_eq_true rfl) ?_
  intro p e R s m args below meth c ls hfr hlo hF hr hlk hG hl
  have hx := hF.1.1
  have hb := hF.1.2.1
  have hown := hF.1.2.2.2.1
  have hts := hF.1.2.2.2.2
  have hl : lv_has ls 1 [(0, .ref (E.2.1 97))] := hl
  unfold wX12_goes at hw
  refine lv_aload_n hx hb dX12_goes_0 rfl (lv_at hl 0 rfl) ?_
  refine lv_iconst (v := 0) hx hb dX12_goes_1 (by decide) ?_
  refine z_cv (va_runV (rest := []) hF.1 (kX12_goesBy l E Z 0  hw _) (cwV 1 hts gX12_goes_X12_goesBy rfl rfl rfl ⟨rfl, hS_yX12_goesBy⟩ ⟨Nat.le_trans (Nat.le_of_ble_eq_true rfl) hfr, Nat.le_trans (Nat.le_of_ble_eq_true rfl) hlo⟩) (z_preV hF hG 97 (by decide) z_md rfl) rfl rfl hl.1 rfl (lv_room (Nat.le_of_ble_eq_true rfl)) dX12_goes_2 ⟨Nat.zero_le _, Nat.zero_le _⟩) hG (fun Z1 H locs hw hG => ?_)
  exact z_vret hF hG hr hlk hw dX12_goes_5
set_option maxHeartbeats 4000000 in
set_option maxRecDepth 100000 in
theorem kX12_allLate (l : Launch) (E : zE) (Z : zS) {K : Int32 → zS → Prop} (hw : wX12_allLate Z K) : zCi l yX12_allLate wsX12_allLate ({ frames := 0, cells := 0, slots := 0, locals := 0 } : Room) E Z [.ref (E.2.1 97)] K := by
  refine z_bodyi (cc := cX12_allLate) (nL := 3) (ret := .int) (by decide) rfl (Nat.le_of_ble_eq_true rfl) ?_
  intro p e R s m args below meth c ls hfr hlo hF hr hlk hG hl
  have hx := hF.1.1
  have hb := hF.1.2.1
  have hown := hF.1.2.2.2.1
  have hts := hF.1.2.2.2.2
  have in12 : ∀ w ∈ u_ws RX12 TX12 22, w ∈ wsX12_allLate := fun _ h => List.mem_cons_of_mem _ (List.mem_append_right _ h)
  have hl : lv_has ls 3 [(0, .ref (E.2.1 97))] := hl
  have S4 : ∀ (L4 : Int32 → Int32 → zS → Prop), (∀ (x1 : Int32) (x2 : Int32) (Z : zS) (H : Heap) (locs : List Loc) (ls : Array Slot), zG E Z s H locs → lv_has ls 3 [(0, .ref (E.2.1 97)), (1, .int x1), (2, .int x2)] → L4 x1 x2 Z → W p l e R s m args below meth c H locs 0 0 (zQi E K below args s) (F0 m 4 ls [])) → ∀ (x1 : Int32) (x2 : Int32) (Z : zS) (H : Heap) (locs : List Loc) (ls : Array Slot), zG E Z s H locs → lv_has ls 3 [(0, .ref (E.2.1 97)), (1, .int x1), (2, .int x2)] → wX12_allLate_4b L4 x1 x2 Z K → W p l e R s m args below meth c H locs 0 0 (zQi E K below args s) (F0 m 4 ls []) := by
    intro L4 ih4
    intro x1 x2 Z H locs ls hG hl hw
    unfold wX12_allLate_4b at hw
    refine lv_iload_n hx hb dX12_allLate_4 rfl (lv_at hl 2 rfl) ?_
    refine lv_aload_n hx hb dX12_allLate_5 rfl (lv_at hl 0 rfl) ?_
    refine z_get hF hG 97 (by decide) z_md rfl in12 1 (by decide) (List.mem_of_getElem? (i := 1) rfl) rfl rfl dX12_allLate_6 ?_
    refine lv_icmp_ge (tgt := 30) hx hb dX12_allLate_9 (by decide) (fun c3 => ?_) (fun c3 => ?_)
    · replace hw := hw.1 c3
      refine lv_iload_n hx hb dX12_allLate_30 rfl (lv_at hl 1 rfl) ?_
      exact z_iret hF hG hr hlk hw dX12_allLate_31
    replace hw := hw.2 c3
    refine lv_iload_n hx hb dX12_allLate_12 rfl (lv_at hl 1 rfl) ?_
    refine lv_aload_n hx hb dX12_allLate_13 rfl (lv_at hl 0 rfl) ?_
    refine z_get hF hG 97 (by decide) z_md rfl in12 2 (by decide) (List.mem_of_getElem? (i := 2) rfl) rfl rfl dX12_allLate_14 ?_
    refine lv_bipush (v := 48) hx hb dX12_allLate_17 (by decide) ?_
    refine lv_iload_n hx hb dX12_allLate_19 rfl (lv_at hl 2 rfl) ?_
    refine lv_iadd hx hb dX12_allLate_20 ?_
    obtain ⟨q4, hw⟩ := hw
    refine z_iald hF hG 98 (by decide) z_m98 q4 dX12_allLate_21 ?_
    refine lv_iadd hx hb dX12_allLate_22 ?_
    refine lv_topi (fun y5 ey5 => ?_)
    replace hw := hw y5 ey5
    refine lv_istore_n (lv' := [(1, .int y5), (0, .ref (E.2.1 97)), (2, .int x2)]) hx hb dX12_allLate_23 rfl hl (by decide) rfl (fun ls hl => ?_)
    obtain ⟨y6, ey6⟩ : ∃ y : Int32, y = x2 + 1 := ⟨_, rfl⟩
    replace hw := hw y6 ey6
    refine lv_iinc (v := y6) (lv' := [(2, .int y6), (1, .int y5), (0, .ref (E.2.1 97))]) hx hb dX12_allLate_24 hl (k := 2) rfl (by rw [ey6]; rfl) (by decide) rfl (fun ls hl => ?_)
    refine lv_goto (tgt := 4) hx hb dX12_allLate_27 (by decide) ?_
    exact ih4 y5 y6 Z _ _ _ hG (lv_sub hl [2, 1, 0] rfl) hw
  have J4 : ∀ n : Nat, ∀ (x1 : Int32) (x2 : Int32) (Z : zS) (H : Heap) (locs : List Loc) (ls : Array Slot), zG E Z s H locs → lv_has ls 3 [(0, .ref (E.2.1 97)), (1, .int x1), (2, .int x2)] → wX12_allLate_4 K n x1 x2 Z → W p l e R s m args below meth c H locs 0 0 (zQi E K below args s) (F0 m 4 ls []) := by
    intro n
    induction n with
    | zero => intro x1 x2 Z H locs ls hG hl hw; exact hw.elim
    | succ n ih => intro x1 x2 Z H locs ls hG hl hw; exact S4 _ ih x1 x2 Z H locs ls hG hl hw
  unfold wX12_allLate at hw
  refine lv_iconst (v := 0) hx hb dX12_allLate_0 (by decide) ?_
  refine lv_topi (fun y1 ey1 => ?_)
  replace hw := hw y1 ey1
  refine lv_istore_n (lv' := [(1, .int y1), (0, .ref (E.2.1 97))]) hx hb dX12_allLate_1 rfl hl (by decide) rfl (fun ls hl => ?_)
  refine lv_iconst (v := 0) hx hb dX12_allLate_2 (by decide) ?_
  refine lv_topi (fun y2 ey2 => ?_)
  replace hw := hw y2 ey2
  refine lv_istore_n (lv' := [(2, .int y2), (1, .int y1), (0, .ref (E.2.1 97))]) hx hb dX12_allLate_3 rfl hl (by decide) rfl (fun ls hl => ?_)
  obtain ⟨n4, hw⟩ := hw
  exact J4 n4 y1 y2 Z _ _ _ hG (lv_sub hl [2, 1, 0] rfl) hw
set_option maxHeartbeats 4000000 in
set_option maxRecDepth 100000 in
theorem kX12_allJobs (l : Launch) (E : zE) (Z : zS) {K : Int32 → zS → Prop} (hw : wX12_allJobs Z K) : zCi l yX12_allJobs wsX12_allJobs ({ frames := 0, cells := 0, slots := 0, locals := 0 } : Room) E Z [.ref (E.2.1 97)] K := by
  refine z_bodyi (cc := cX12_allJobs) (nL := 3) (ret := .int) (by decide) rfl (Nat.le_of_ble_eq_true rfl) ?_
  intro p e R s m args below meth c ls hfr hlo hF hr hlk hG hl
  have hx := hF.1.1
  have hb := hF.1.2.1
  have hown := hF.1.2.2.2.1
  have hts := hF.1.2.2.2.2
  have in12 : ∀ w ∈ u_ws RX12 TX12 22, w ∈ wsX12_allJobs := fun _ h => List.mem_cons_of_mem _ (List.mem_append_right _ h)
  have hl : lv_has ls 3 [(0, .ref (E.2.1 97))] := hl
  have S4 : ∀ (L4 : Int32 → Int32 → zS → Prop), (∀ (x1 : Int32) (x2 : Int32) (Z : zS) (H : Heap) (locs : List Loc) (ls : Array Slot), zG E Z s H locs → lv_has ls 3 [(0, .ref (E.2.1 97)), (1, .int x1), (2, .int x2)] → L4 x1 x2 Z → W p l e R s m args below meth c H locs 0 0 (zQi E K below args s) (F0 m 4 ls [])) → ∀ (x1 : Int32) (x2 : Int32) (Z : zS) (H : Heap) (locs : List Loc) (ls : Array Slot), zG E Z s H locs → lv_has ls 3 [(0, .ref (E.2.1 97)), (1, .int x1), (2, .int x2)] → wX12_allJobs_4b L4 x1 x2 Z K → W p l e R s m args below meth c H locs 0 0 (zQi E K below args s) (F0 m 4 ls []) := by
    intro L4 ih4
    intro x1 x2 Z H locs ls hG hl hw
    unfold wX12_allJobs_4b at hw
    refine lv_iload_n hx hb dX12_allJobs_4 rfl (lv_at hl 2 rfl) ?_
    refine lv_aload_n hx hb dX12_allJobs_5 rfl (lv_at hl 0 rfl) ?_
    refine z_get hF hG 97 (by decide) z_md rfl in12 1 (by decide) (List.mem_of_getElem? (i := 1) rfl) rfl rfl dX12_allJobs_6 ?_
    refine lv_icmp_ge (tgt := 30) hx hb dX12_allJobs_9 (by decide) (fun c3 => ?_) (fun c3 => ?_)
    · replace hw := hw.1 c3
      refine lv_iload_n hx hb dX12_allJobs_30 rfl (lv_at hl 1 rfl) ?_
      exact z_iret hF hG hr hlk hw dX12_allJobs_31
    replace hw := hw.2 c3
    refine lv_iload_n hx hb dX12_allJobs_12 rfl (lv_at hl 1 rfl) ?_
    refine lv_aload_n hx hb dX12_allJobs_13 rfl (lv_at hl 0 rfl) ?_
    refine z_get hF hG 97 (by decide) z_md rfl in12 2 (by decide) (List.mem_of_getElem? (i := 2) rfl) rfl rfl dX12_allJobs_14 ?_
    refine lv_bipush (v := 42) hx hb dX12_allJobs_17 (by decide) ?_
    refine lv_iload_n hx hb dX12_allJobs_19 rfl (lv_at hl 2 rfl) ?_
    refine lv_iadd hx hb dX12_allJobs_20 ?_
    obtain ⟨q4, hw⟩ := hw
    refine z_iald hF hG 98 (by decide) z_m98 q4 dX12_allJobs_21 ?_
    refine lv_iadd hx hb dX12_allJobs_22 ?_
    refine lv_topi (fun y5 ey5 => ?_)
    replace hw := hw y5 ey5
    refine lv_istore_n (lv' := [(1, .int y5), (0, .ref (E.2.1 97)), (2, .int x2)]) hx hb dX12_allJobs_23 rfl hl (by decide) rfl (fun ls hl => ?_)
    obtain ⟨y6, ey6⟩ : ∃ y : Int32, y = x2 + 1 := ⟨_, rfl⟩
    replace hw := hw y6 ey6
    refine lv_iinc (v := y6) (lv' := [(2, .int y6), (1, .int y5), (0, .ref (E.2.1 97))]) hx hb dX12_allJobs_24 hl (k := 2) rfl (by rw [ey6]; rfl) (by decide) rfl (fun ls hl => ?_)
    refine lv_goto (tgt := 4) hx hb dX12_allJobs_27 (by decide) ?_
    exact ih4 y5 y6 Z _ _ _ hG (lv_sub hl [2, 1, 0] rfl) hw
  have J4 : ∀ n : Nat, ∀ (x1 : Int32) (x2 : Int32) (Z : zS) (H : Heap) (locs : List Loc) (ls : Array Slot), zG E Z s H locs → lv_has ls 3 [(0, .ref (E.2.1 97)), (1, .int x1), (2, .int x2)] → wX12_allJobs_4 K n x1 x2 Z → W p l e R s m args below meth c H locs 0 0 (zQi E K below args s) (F0 m 4 ls []) := by
    intro n
    induction n with
    | zero => intro x1 x2 Z H locs ls hG hl hw; exact hw.elim
    | succ n ih => intro x1 x2 Z H locs ls hG hl hw; exact S4 _ ih x1 x2 Z H locs ls hG hl hw
  unfold wX12_allJobs at hw
  refine lv_iconst (v := 0) hx hb dX12_allJobs_0 (by decide) ?_
  refine lv_topi (fun y1 ey1 => ?_)
  replace hw := hw y1 ey1
  refine lv_istore_n (lv' := [(1, .int y1), (0, .ref (E.2.1 97))]) hx hb dX12_allJobs_1 rfl hl (by decide) rfl (fun ls hl => ?_)
  refine lv_iconst (v := 0) hx hb dX12_allJobs_2 (by decide) ?_
  refine lv_topi (fun y2 ey2 => ?_)
  replace hw := hw y2 ey2
  refine lv_istore_n (lv' := [(2, .int y2), (1, .int y1), (0, .ref (E.2.1 97))]) hx hb dX12_allJobs_3 rfl hl (by decide) rfl (fun ls hl => ?_)
  obtain ⟨n4, hw⟩ := hw
  exact J4 n4 y1 y2 Z _ _ _ hG (lv_sub hl [2, 1, 0] rfl) hw
set_option maxHeartbeats 4000000 in
set_option maxRecDepth 100000 in
theorem kX12_newServer (l : Launch) (E : zE) (Z : zS) (a1 : Int32) (a2 : Int32) (a3 : Int32) (a4 : Int32) {K : Int32 → zS → Prop} (hw : wX12_newServer a1 a2 a3 a4 Z K) : zCi l yX12_newServer wsX12_newServer ({ frames := 0, cells := 0, slots := 0, locals := 0 } : Room) E Z [.ref (E.2.1 97), .int a1, .int a2, .int a3, .int a4] K := by
  refine z_bodyi (cc := cX12_newServer) (nL := 7) (ret := .int) (by decide) rfl (Nat.le_of_ble_eq_true rfl) ?_
  intro p e R s m args below meth c ls hfr hlo hF hr hlk hG hl
  have hx := hF.1.1
  have hb := hF.1.2.1
  have hown := hF.1.2.2.2.1
  have hts := hF.1.2.2.2.2
  have in12 : ∀ w ∈ u_ws RX12 TX12 22, w ∈ wsX12_newServer := fun _ h => List.mem_cons_of_mem _ (List.mem_append_right _ h)
  have hl : lv_has ls 7 [(0, .ref (E.2.1 97)), (1, .int a1), (2, .int a2), (3, .int a3), (4, .int a4)] := hl
  have S16 : ∀ (L16 : Int32 → Int32 → zS → Prop), (∀ (x5 : Int32) (x6 : Int32) (Z : zS) (H : Heap) (locs : List Loc) (ls : Array Slot), zG E Z s H locs → lv_has ls 7 [(0, .ref (E.2.1 97)), (1, .int a1), (2, .int a2), (3, .int a3), (4, .int a4), (5, .int x5), (6, .int x6)] → L16 x5 x6 Z → W p l e R s m args below meth c H locs 0 0 (zQi E K below args s) (F0 m 16 ls [])) → ∀ (x5 : Int32) (x6 : Int32) (Z : zS) (H : Heap) (locs : List Loc) (ls : Array Slot), zG E Z s H locs → lv_has ls 7 [(0, .ref (E.2.1 97)), (1, .int a1), (2, .int a2), (3, .int a3), (4, .int a4), (5, .int x5), (6, .int x6)] → wX12_newServer_16b L16 a1 a2 a3 a4 x5 x6 Z K → W p l e R s m args below meth c H locs 0 0 (zQi E K below args s) (F0 m 16 ls []) := by
    intro L16 ih16
    intro x5 x6 Z H locs ls hG hl hw
    unfold wX12_newServer_16b at hw
    refine lv_iload hx hb dX12_newServer_16 (lv_at hl 6 rfl) ?_
    refine lv_bipush (v := 72) hx hb dX12_newServer_18 (by decide) ?_
    refine lv_icmp_ge (tgt := 40) hx hb dX12_newServer_20 (by decide) (fun c4 => ?_) (fun c4 => ?_)
    · replace hw := hw.1 c4
      refine lv_aload_n hx hb dX12_newServer_40 rfl (lv_at hl 0 rfl) ?_
      refine z_get hF hG 97 (by decide) z_md rfl in12 2 (by decide) (List.mem_of_getElem? (i := 2) rfl) rfl rfl dX12_newServer_41 ?_
      refine lv_iconst (v := 0) hx hb dX12_newServer_44 (by decide) ?_
      refine lv_iload hx hb dX12_newServer_45 (lv_at hl 5 rfl) ?_
      refine lv_iadd hx hb dX12_newServer_47 ?_
      refine lv_iload_n hx hb dX12_newServer_48 rfl (lv_at hl 1 rfl) ?_
      obtain ⟨q5, hw⟩ := hw
      refine z_iast hF hG 98 (by decide) (fun _ => z_m98) q5 dX12_newServer_49 (fun Z6 H locs eZ6 hG => ?_)
      replace hw := hw Z6 eZ6
      refine lv_aload_n hx hb dX12_newServer_50 rfl (lv_at hl 0 rfl) ?_
      refine z_get hF hG 97 (by decide) z_md rfl in12 2 (by decide) (List.mem_of_getElem? (i := 2) rfl) rfl rfl dX12_newServer_51 ?_
      refine lv_bipush (v := 6) hx hb dX12_newServer_54 (by decide) ?_
      refine lv_iload hx hb dX12_newServer_56 (lv_at hl 5 rfl) ?_
      refine lv_iadd hx hb dX12_newServer_58 ?_
      refine lv_iload_n hx hb dX12_newServer_59 rfl (lv_at hl 2 rfl) ?_
      obtain ⟨q7, hw⟩ := hw
      refine z_iast hF hG 98 (by decide) (fun _ => z_m98) q7 dX12_newServer_60 (fun Z8 H locs eZ8 hG => ?_)
      replace hw := hw Z8 eZ8
      refine lv_aload_n hx hb dX12_newServer_61 rfl (lv_at hl 0 rfl) ?_
      refine z_get hF hG 97 (by decide) z_md rfl in12 2 (by decide) (List.mem_of_getElem? (i := 2) rfl) rfl rfl dX12_newServer_62 ?_
      refine lv_bipush (v := 12) hx hb dX12_newServer_65 (by decide) ?_
      refine lv_iload hx hb dX12_newServer_67 (lv_at hl 5 rfl) ?_
      refine lv_iadd hx hb dX12_newServer_69 ?_
      refine lv_iload_n hx hb dX12_newServer_70 rfl (lv_at hl 3 rfl) ?_
      obtain ⟨q9, hw⟩ := hw
      refine z_iast hF hG 98 (by decide) (fun _ => z_m98) q9 dX12_newServer_71 (fun Z10 H locs eZ10 hG => ?_)
      replace hw := hw Z10 eZ10
      refine lv_aload_n hx hb dX12_newServer_72 rfl (lv_at hl 0 rfl) ?_
      refine z_get hF hG 97 (by decide) z_md rfl in12 2 (by decide) (List.mem_of_getElem? (i := 2) rfl) rfl rfl dX12_newServer_73 ?_
      refine lv_bipush (v := 18) hx hb dX12_newServer_76 (by decide) ?_
      refine lv_iload hx hb dX12_newServer_78 (lv_at hl 5 rfl) ?_
      refine lv_iadd hx hb dX12_newServer_80 ?_
      refine lv_iload hx hb dX12_newServer_81 (lv_at hl 4 rfl) ?_
      obtain ⟨q11, hw⟩ := hw
      refine z_iast hF hG 98 (by decide) (fun _ => z_m98) q11 dX12_newServer_83 (fun Z12 H locs eZ12 hG => ?_)
      replace hw := hw Z12 eZ12
      refine lv_iload hx hb dX12_newServer_84 (lv_at hl 5 rfl) ?_
      exact z_iret hF hG hr hlk hw dX12_newServer_86
    replace hw := hw.2 c4
    refine lv_aload_n hx hb dX12_newServer_23 rfl (lv_at hl 0 rfl) ?_
    refine z_get hF hG 97 (by decide) z_md rfl in12 2 (by decide) (List.mem_of_getElem? (i := 2) rfl) rfl rfl dX12_newServer_24 ?_
    refine lv_iload hx hb dX12_newServer_27 (lv_at hl 6 rfl) ?_
    refine lv_iload hx hb dX12_newServer_29 (lv_at hl 5 rfl) ?_
    refine lv_iadd hx hb dX12_newServer_31 ?_
    refine lv_iconst (v := 0) hx hb dX12_newServer_32 (by decide) ?_
    obtain ⟨q13, hw⟩ := hw
    refine z_iast hF hG 98 (by decide) (fun _ => z_m98) q13 dX12_newServer_33 (fun Z14 H locs eZ14 hG => ?_)
    replace hw := hw Z14 eZ14
    obtain ⟨y15, ey15⟩ : ∃ y : Int32, y = x6 + 6 := ⟨_, rfl⟩
    replace hw := hw y15 ey15
    refine lv_iinc (v := y15) (lv' := [(6, .int y15), (0, .ref (E.2.1 97)), (1, .int a1), (2, .int a2), (3, .int a3), (4, .int a4), (5, .int x5)]) hx hb dX12_newServer_34 hl (k := 6) rfl (by rw [ey15]; rfl) (by decide) rfl (fun ls hl => ?_)
    refine lv_goto (tgt := 16) hx hb dX12_newServer_37 (by decide) ?_
    exact ih16 x5 y15 Z14 _ _ _ hG (lv_sub hl [1, 2, 3, 4, 5, 6, 0] rfl) hw
  have J16 : ∀ n : Nat, ∀ (x5 : Int32) (x6 : Int32) (Z : zS) (H : Heap) (locs : List Loc) (ls : Array Slot), zG E Z s H locs → lv_has ls 7 [(0, .ref (E.2.1 97)), (1, .int a1), (2, .int a2), (3, .int a3), (4, .int a4), (5, .int x5), (6, .int x6)] → wX12_newServer_16 a1 a2 a3 a4 K n x5 x6 Z → W p l e R s m args below meth c H locs 0 0 (zQi E K below args s) (F0 m 16 ls []) := by
    intro n
    induction n with
    | zero => intro x5 x6 Z H locs ls hG hl hw; exact hw.elim
    | succ n ih => intro x5 x6 Z H locs ls hG hl hw; exact S16 _ ih x5 x6 Z H locs ls hG hl hw
  unfold wX12_newServer at hw
  refine lv_aload_n hx hb dX12_newServer_0 rfl (lv_at hl 0 rfl) ?_
  refine lv_dup hx hb dX12_newServer_1 rfl ?_
  refine z_get hF hG 97 (by decide) z_md rfl in12 1 (by decide) (List.mem_of_getElem? (i := 1) rfl) rfl rfl dX12_newServer_2 ?_
  refine lv_dup_x1 hx hb dX12_newServer_5 rfl rfl ?_
  refine lv_iconst (v := 1) hx hb dX12_newServer_6 (by decide) ?_
  refine lv_iadd hx hb dX12_newServer_7 ?_
  refine z_put hF hG 97 (by decide) z_md rfl in12 tyX12_ok nmX12 1 (by decide) (List.mem_of_getElem? (i := 1) rfl) rfl rfl (tyX12_ok 1 (by decide)) rfl rfl (Nat.le_of_ble_eq_true rfl) (((Z 97 1) + 1)) z_md dX12_newServer_8 (fun Z1 H locs eZ1 hG => ?_)
  replace hw := hw Z1 eZ1
  refine lv_topi (fun y2 ey2 => ?_)
  replace hw := hw y2 ey2
  refine lv_istore (lv' := [(5, .int y2), (0, .ref (E.2.1 97)), (1, .int a1), (2, .int a2), (3, .int a3), (4, .int a4)]) hx hb dX12_newServer_11 hl (by decide) rfl (fun ls hl => ?_)
  refine lv_iconst (v := 0) hx hb dX12_newServer_13 (by decide) ?_
  refine lv_topi (fun y3 ey3 => ?_)
  replace hw := hw y3 ey3
  refine lv_istore (lv' := [(6, .int y3), (5, .int y2), (0, .ref (E.2.1 97)), (1, .int a1), (2, .int a2), (3, .int a3), (4, .int a4)]) hx hb dX12_newServer_14 hl (by decide) rfl (fun ls hl => ?_)
  obtain ⟨n16, hw⟩ := hw
  exact J16 n16 y2 y3 Z1 _ _ _ hG (lv_sub hl [2, 3, 4, 5, 6, 1, 0] rfl) hw
set_option maxHeartbeats 4000000 in
set_option maxRecDepth 100000 in
theorem kX12_isSize (l : Launch) (E : zE) (Z : zS) (a1 : Int32) (a2 : Int32) {K : Int32 → zS → Prop} (hw : wX12_isSize a1 a2 Z K) : zCi l yX12_isSize wsX12_isSize ({ frames := 1, cells := 0, slots := 0, locals := 22 } : Room) E Z [.int a1, .int a2] K := by
  refine z_bodyi (cc := cX12_isSize) (nL := 2) (ret := .boolean) (by decide) rfl (Nat.le_of_ble_eq_true rfl) ?_
  intro p e R s m args below meth c ls hfr hlo hF hr hlk hG hl
  have hx := hF.1.1
  have hb := hF.1.2.1
  have hown := hF.1.2.2.2.1
  have hts := hF.1.2.2.2.2
  have hl : lv_has ls 2 [(0, .int a1), (1, .int a2)] := hl
  unfold wX12_isSize at hw
  refine lv_iload_n hx hb dX12_isSize_0 rfl (lv_at hl 0 rfl) ?_
  refine lv_iconst (v := 1) hx hb dX12_isSize_1 (by decide) ?_
  refine lv_bipush (v := 30) hx hb dX12_isSize_2 (by decide) ?_
  refine z_ci (va_runS (rest := []) hF.1 (kX12_within l E Z a1 1 30  hw _) (va_cwS 3 hts gX12_isSize_X12_within rfl rfl rfl hS_yX12_within ⟨Nat.le_trans (Nat.le_of_ble_eq_true rfl) hfr, Nat.le_trans (Nat.le_of_ble_eq_true rfl) hlo⟩) (z_preS hF hG) rfl rfl hl.1 rfl (lv_room (Nat.le_of_ble_eq_true rfl)) dX12_isSize_4 ⟨Nat.zero_le _, Nat.zero_le _⟩) hG (fun r2 Z1 H locs hw hG => ?_)
  refine lv_if_eq (tgt := 31) hx hb dX12_isSize_7 (by decide) (fun c3 => ?_) (fun c3 => ?_)
  · replace hw := hw.1 c3
    refine lv_iconst (v := 0) hx hb dX12_isSize_31 (by decide) ?_
    exact z_zret hF hG hr hlk (by decide) hw dX12_isSize_32
  replace hw := hw.2 c3
  refine lv_iload_n hx hb dX12_isSize_10 rfl (lv_at hl 1 rfl) ?_
  refine lv_iload_n hx hb dX12_isSize_11 rfl (lv_at hl 0 rfl) ?_
  refine lv_bipush (v := 60) hx hb dX12_isSize_12 (by decide) ?_
  refine z_ci (va_runS (rest := []) hF.1 (kX12_within l E Z1 a2 a1 60  hw _) (va_cwS 3 hts gX12_isSize_X12_within rfl rfl rfl hS_yX12_within ⟨Nat.le_trans (Nat.le_of_ble_eq_true rfl) hfr, Nat.le_trans (Nat.le_of_ble_eq_true rfl) hlo⟩) (z_preS hF hG) rfl rfl hl.1 rfl (lv_room (Nat.le_of_ble_eq_true rfl)) dX12_isSize_14 ⟨Nat.zero_le _, Nat.zero_le _⟩) hG (fun r5 Z4 H locs hw hG => ?_)
  refine lv_if_eq (tgt := 31) hx hb dX12_isSize_17 (by decide) (fun c6 => ?_) (fun c6 => ?_)
  · replace hw := hw.1 c6
    refine lv_iconst (v := 0) hx hb dX12_isSize_31 (by decide) ?_
    exact z_zret hF hG hr hlk (by decide) hw dX12_isSize_32
  replace hw := hw.2 c6
  refine lv_bipush (v := 60) hx hb dX12_isSize_20 (by decide) ?_
  refine lv_iload_n hx hb dX12_isSize_22 rfl (lv_at hl 1 rfl) ?_
  refine lv_irem hx hb dX12_isSize_23 hw.1 ?_
  replace hw := hw.2
  refine lv_if_ne (tgt := 31) hx hb dX12_isSize_24 (by decide) (fun c7 => ?_) (fun c7 => ?_)
  · replace hw := hw.1 c7
    refine lv_iconst (v := 0) hx hb dX12_isSize_31 (by decide) ?_
    exact z_zret hF hG hr hlk (by decide) hw dX12_isSize_32
  replace hw := hw.2 (fun h => h c7)
  refine lv_iconst (v := 1) hx hb dX12_isSize_27 (by decide) ?_
  refine lv_goto (tgt := 32) hx hb dX12_isSize_28 (by decide) ?_
  exact z_zret hF hG hr hlk (by decide) hw dX12_isSize_32
set_option maxHeartbeats 4000000 in
set_option maxRecDepth 100000 in
theorem kX12_is (l : Launch) (E : zE) (Z : zS) (a1 : Int32) {K : Int32 → zS → Prop} (hw : wX12_is a1 Z K) : zCi l yX12_is wsX12_is ({ frames := 0, cells := 0, slots := 0, locals := 0 } : Room) E Z [.ref (E.2.1 97), .int a1] K := by
  refine z_bodyi (cc := cX12_is) (nL := 2) (ret := .boolean) (by decide) rfl (Nat.le_of_ble_eq_true rfl) ?_
  intro p e R s m args below meth c ls hfr hlo hF hr hlk hG hl
  have hx := hF.1.1
  have hb := hF.1.2.1
  have hown := hF.1.2.2.2.1
  have hts := hF.1.2.2.2.2
  have in12 : ∀ w ∈ u_ws RX12 TX12 22, w ∈ wsX12_is := fun _ h => List.mem_cons_of_mem _ (List.mem_append_right _ h)
  have hl : lv_has ls 2 [(0, .ref (E.2.1 97)), (1, .int a1)] := hl
  unfold wX12_is at hw
  refine lv_aload_n hx hb dX12_is_0 rfl (lv_at hl 0 rfl) ?_
  refine z_get hF hG 97 (by decide) z_md rfl in12 8 (by decide) (List.mem_of_getElem? (i := 1) rfl) rfl rfl dX12_is_1 ?_
  refine lv_aload_n hx hb dX12_is_4 rfl (lv_at hl 0 rfl) ?_
  refine z_get hF hG 97 (by decide) z_md rfl in12 16 (by decide) (List.mem_of_getElem? (i := 2) rfl) rfl rfl dX12_is_5 ?_
  refine lv_aload_n hx hb dX12_is_8 rfl (lv_at hl 0 rfl) ?_
  refine z_get hF hG 97 (by decide) z_md rfl in12 7 (by decide) (List.mem_of_getElem? (i := 3) rfl) rfl rfl dX12_is_9 ?_
  obtain ⟨q1, hw⟩ := hw
  refine z_iald hF hG 106 (by decide) z_m106 q1 dX12_is_12 ?_
  refine lv_icmp_eq (tgt := 37) hx hb dX12_is_13 (by decide) (fun c2 => ?_) (fun c2 => ?_)
  · replace hw := hw.1 c2
    refine lv_iconst (v := 0) hx hb dX12_is_37 (by decide) ?_
    exact z_zret hF hG hr hlk (by decide) hw dX12_is_38
  replace hw := hw.2 c2
  refine lv_aload_n hx hb dX12_is_16 rfl (lv_at hl 0 rfl) ?_
  refine z_get hF hG 97 (by decide) z_md rfl in12 17 (by decide) (List.mem_of_getElem? (i := 4) rfl) rfl rfl dX12_is_17 ?_
  refine lv_bipush (v := 100) hx hb dX12_is_20 (by decide) ?_
  refine lv_aload_n hx hb dX12_is_22 rfl (lv_at hl 0 rfl) ?_
  refine z_get hF hG 97 (by decide) z_md rfl in12 7 (by decide) (List.mem_of_getElem? (i := 3) rfl) rfl rfl dX12_is_23 ?_
  refine lv_imul hx hb dX12_is_26 ?_
  refine lv_aload_n hx hb dX12_is_27 rfl (lv_at hl 0 rfl) ?_
  refine z_get hF hG 97 (by decide) z_md rfl in12 8 (by decide) (List.mem_of_getElem? (i := 1) rfl) rfl rfl dX12_is_28 ?_
  refine lv_iadd hx hb dX12_is_31 ?_
  obtain ⟨q3, hw⟩ := hw
  refine z_iald hF hG 107 (by decide) z_m107 q3 dX12_is_32 ?_
  refine lv_iload_n hx hb dX12_is_33 rfl (lv_at hl 1 rfl) ?_
  refine lv_icmp_eq (tgt := 39) hx hb dX12_is_34 (by decide) (fun c4 => ?_) (fun c4 => ?_)
  · replace hw := hw.1 c4
    refine lv_aload_n hx hb dX12_is_39 rfl (lv_at hl 0 rfl) ?_
    refine lv_dup hx hb dX12_is_40 rfl ?_
    refine z_get hF hG 97 (by decide) z_md rfl in12 8 (by decide) (List.mem_of_getElem? (i := 1) rfl) rfl rfl dX12_is_41 ?_
    refine lv_iconst (v := 1) hx hb dX12_is_44 (by decide) ?_
    refine lv_iadd hx hb dX12_is_45 ?_
    refine z_put hF hG 97 (by decide) z_md rfl in12 tyX12_ok nmX12 8 (by decide) (List.mem_of_getElem? (i := 1) rfl) rfl rfl (tyX12_ok 8 (by decide)) rfl rfl (Nat.le_of_ble_eq_true rfl) (((Z 97 8) + 1)) z_md dX12_is_46 (fun Z5 H locs eZ5 hG => ?_)
    replace hw := hw Z5 eZ5
    refine lv_iconst (v := 1) hx hb dX12_is_49 (by decide) ?_
    exact z_zret hF hG hr hlk (by decide) hw dX12_is_50
  replace hw := hw.2 c4
  refine lv_iconst (v := 0) hx hb dX12_is_37 (by decide) ?_
  exact z_zret hF hG hr hlk (by decide) hw dX12_is_38
set_option maxHeartbeats 4000000 in
set_option maxRecDepth 100000 in
theorem kX12_digits (l : Launch) (E : zE) (Z : zS) (a1 : Int32) {K : Int32 → zS → Prop} (hw : wX12_digits a1 Z K) : zCi l yX12_digits wsX12_digits ({ frames := 1, cells := 0, slots := 0, locals := 22 } : Room) E Z [.ref (E.2.1 97), .int a1] K := by
  refine z_bodyi (cc := cX12_digits) (nL := 3) (ret := .boolean) (by decide) rfl (Nat.le_of_ble_eq_true rfl) ?_
  intro p e R s m args below meth c ls hfr hlo hF hr hlk hG hl
  have hx := hF.1.1
  have hb := hF.1.2.1
  have hown := hF.1.2.2.2.1
  have hts := hF.1.2.2.2.2
  have in12 : ∀ w ∈ u_ws RX12 TX12 22, w ∈ wsX12_digits := fun _ h => List.mem_cons_of_mem _ (List.mem_append_right _ h)
  have hl : lv_has ls 3 [(0, .ref (E.2.1 97)), (1, .int a1)] := hl
  have S2 : ∀ (L2 : Int32 → zS → Prop), (∀ (x2 : Int32) (Z : zS) (H : Heap) (locs : List Loc) (ls : Array Slot), zG E Z s H locs → lv_has ls 3 [(0, .ref (E.2.1 97)), (1, .int a1), (2, .int x2)] → L2 x2 Z → W p l e R s m args below meth c H locs 0 0 (zQi E K below args s) (F0 m 2 ls [])) → ∀ (x2 : Int32) (Z : zS) (H : Heap) (locs : List Loc) (ls : Array Slot), zG E Z s H locs → lv_has ls 3 [(0, .ref (E.2.1 97)), (1, .int a1), (2, .int x2)] → wX12_digits_2b L2 a1 x2 Z K → W p l e R s m args below meth c H locs 0 0 (zQi E K below args s) (F0 m 2 ls []) := by
    intro L2 ih2
    intro x2 Z H locs ls hG hl hw
    unfold wX12_digits_2b at hw
    refine lv_iload_n hx hb dX12_digits_2 rfl (lv_at hl 2 rfl) ?_
    refine lv_iload_n hx hb dX12_digits_3 rfl (lv_at hl 1 rfl) ?_
    refine lv_icmp_ge (tgt := 84) hx hb dX12_digits_4 (by decide) (fun c2 => ?_) (fun c2 => ?_)
    · replace hw := hw.1 c2
      refine lv_iconst (v := 1) hx hb dX12_digits_84 (by decide) ?_
      exact z_zret hF hG hr hlk (by decide) hw dX12_digits_85
    replace hw := hw.2 c2
    refine lv_aload_n hx hb dX12_digits_7 rfl (lv_at hl 0 rfl) ?_
    refine z_get hF hG 97 (by decide) z_md rfl in12 8 (by decide) (List.mem_of_getElem? (i := 1) rfl) rfl rfl dX12_digits_8 ?_
    refine lv_aload_n hx hb dX12_digits_11 rfl (lv_at hl 0 rfl) ?_
    refine z_get hF hG 97 (by decide) z_md rfl in12 16 (by decide) (List.mem_of_getElem? (i := 2) rfl) rfl rfl dX12_digits_12 ?_
    refine lv_aload_n hx hb dX12_digits_15 rfl (lv_at hl 0 rfl) ?_
    refine z_get hF hG 97 (by decide) z_md rfl in12 7 (by decide) (List.mem_of_getElem? (i := 3) rfl) rfl rfl dX12_digits_16 ?_
    obtain ⟨q3, hw⟩ := hw
    refine z_iald hF hG 106 (by decide) z_m106 q3 dX12_digits_19 ?_
    refine lv_icmp_ne (tgt := 25) hx hb dX12_digits_20 (by decide) (fun c4 => ?_) (fun c4 => ?_)
    · replace hw := hw.1 c4
      refine lv_aload_n hx hb dX12_digits_25 rfl (lv_at hl 0 rfl) ?_
      refine z_get hF hG 97 (by decide) z_md rfl in12 9 (by decide) (List.mem_of_getElem? (i := 4) rfl) rfl rfl dX12_digits_26 ?_
      refine lv_iload_n hx hb dX12_digits_29 rfl (lv_at hl 2 rfl) ?_
      refine lv_aload_n hx hb dX12_digits_30 rfl (lv_at hl 0 rfl) ?_
      refine z_get hF hG 97 (by decide) z_md rfl in12 17 (by decide) (List.mem_of_getElem? (i := 5) rfl) rfl rfl dX12_digits_31 ?_
      refine lv_bipush (v := 100) hx hb dX12_digits_34 (by decide) ?_
      refine lv_aload_n hx hb dX12_digits_36 rfl (lv_at hl 0 rfl) ?_
      refine z_get hF hG 97 (by decide) z_md rfl in12 7 (by decide) (List.mem_of_getElem? (i := 3) rfl) rfl rfl dX12_digits_37 ?_
      refine lv_imul hx hb dX12_digits_40 ?_
      refine lv_aload_n hx hb dX12_digits_41 rfl (lv_at hl 0 rfl) ?_
      refine z_get hF hG 97 (by decide) z_md rfl in12 8 (by decide) (List.mem_of_getElem? (i := 1) rfl) rfl rfl dX12_digits_42 ?_
      refine lv_iadd hx hb dX12_digits_45 ?_
      obtain ⟨q5, hw⟩ := hw
      refine z_iald hF hG 107 (by decide) z_m107 q5 dX12_digits_46 ?_
      refine lv_bipush (v := 48) hx hb dX12_digits_47 (by decide) ?_
      refine lv_isub hx hb dX12_digits_49 ?_
      obtain ⟨q6, hw⟩ := hw
      refine z_iast hF hG 101 (by decide) (fun _ => z_m101) q6 dX12_digits_50 (fun Z7 H locs eZ7 hG => ?_)
      replace hw := hw Z7 eZ7
      refine lv_aload_n hx hb dX12_digits_51 rfl (lv_at hl 0 rfl) ?_
      refine z_get hF hG 97 (by decide) z_md rfl in12 9 (by decide) (List.mem_of_getElem? (i := 4) rfl) rfl rfl dX12_digits_52 ?_
      refine lv_iload_n hx hb dX12_digits_55 rfl (lv_at hl 2 rfl) ?_
      obtain ⟨q8, hw⟩ := hw
      refine z_iald hF hG 101 (by decide) z_m101 q8 dX12_digits_56 ?_
      refine lv_iconst (v := 0) hx hb dX12_digits_57 (by decide) ?_
      refine lv_bipush (v := 9) hx hb dX12_digits_58 (by decide) ?_
      refine z_ci (va_runS (rest := []) hF.1 (kX12_within l E Z7 ((Z7 101 (x2 : Int32).toNatClampNeg)) 0 9  hw _) (va_cwS 3 hts gX12_digits_X12_within rfl rfl rfl hS_yX12_within ⟨Nat.le_trans (Nat.le_of_ble_eq_true rfl) hfr, Nat.le_trans (Nat.le_of_ble_eq_true rfl) hlo⟩) (z_preS hF hG) rfl rfl hl.1 rfl (lv_room (Nat.le_of_ble_eq_true rfl)) dX12_digits_60 ⟨Nat.zero_le _, Nat.zero_le _⟩) hG (fun r10 Z9 H locs hw hG => ?_)
      refine lv_if_ne (tgt := 68) hx hb dX12_digits_63 (by decide) (fun c11 => ?_) (fun c11 => ?_)
      · replace hw := hw.1 c11
        refine lv_aload_n hx hb dX12_digits_68 rfl (lv_at hl 0 rfl) ?_
        refine lv_dup hx hb dX12_digits_69 rfl ?_
        refine z_get hF hG 97 (by decide) z_md rfl in12 8 (by decide) (List.mem_of_getElem? (i := 1) rfl) rfl rfl dX12_digits_70 ?_
        refine lv_iconst (v := 1) hx hb dX12_digits_73 (by decide) ?_
        refine lv_iadd hx hb dX12_digits_74 ?_
        refine z_put hF hG 97 (by decide) z_md rfl in12 tyX12_ok nmX12 8 (by decide) (List.mem_of_getElem? (i := 1) rfl) rfl rfl (tyX12_ok 8 (by decide)) rfl rfl (Nat.le_of_ble_eq_true rfl) (((Z9 97 8) + 1)) z_md dX12_digits_75 (fun Z12 H locs eZ12 hG => ?_)
        replace hw := hw Z12 eZ12
        obtain ⟨y13, ey13⟩ : ∃ y : Int32, y = x2 + 1 := ⟨_, rfl⟩
        replace hw := hw y13 ey13
        refine lv_iinc (v := y13) (lv' := [(2, .int y13), (0, .ref (E.2.1 97)), (1, .int a1)]) hx hb dX12_digits_78 hl (k := 2) rfl (by rw [ey13]; rfl) (by decide) rfl (fun ls hl => ?_)
        refine lv_goto (tgt := 2) hx hb dX12_digits_81 (by decide) ?_
        exact ih2 y13 Z12 _ _ _ hG (lv_sub hl [1, 2, 0] rfl) hw
      replace hw := hw.2 (fun h => h c11)
      refine lv_iconst (v := 0) hx hb dX12_digits_66 (by decide) ?_
      exact z_zret hF hG hr hlk (by decide) hw dX12_digits_67
    replace hw := hw.2 (fun h => h c4)
    refine lv_iconst (v := 0) hx hb dX12_digits_23 (by decide) ?_
    exact z_zret hF hG hr hlk (by decide) hw dX12_digits_24
  have J2 : ∀ n : Nat, ∀ (x2 : Int32) (Z : zS) (H : Heap) (locs : List Loc) (ls : Array Slot), zG E Z s H locs → lv_has ls 3 [(0, .ref (E.2.1 97)), (1, .int a1), (2, .int x2)] → wX12_digits_2 a1 K n x2 Z → W p l e R s m args below meth c H locs 0 0 (zQi E K below args s) (F0 m 2 ls []) := by
    intro n
    induction n with
    | zero => intro x2 Z H locs ls hG hl hw; exact hw.elim
    | succ n ih => intro x2 Z H locs ls hG hl hw; exact S2 _ ih x2 Z H locs ls hG hl hw
  unfold wX12_digits at hw
  refine lv_iconst (v := 0) hx hb dX12_digits_0 (by decide) ?_
  refine lv_topi (fun y1 ey1 => ?_)
  replace hw := hw y1 ey1
  refine lv_istore_n (lv' := [(2, .int y1), (0, .ref (E.2.1 97)), (1, .int a1)]) hx hb dX12_digits_1 rfl hl (by decide) rfl (fun ls hl => ?_)
  obtain ⟨n2, hw⟩ := hw
  exact J2 n2 y1 Z _ _ _ hG (lv_sub hl [1, 2, 0] rfl) hw
theorem hS_yX12_isSize : yX12_isSize.cls ≠ "java/lang/invoke/MethodHandle" ∧ yX12_isSize.cls ≠ "java/lang/invoke/VarHandle" ∧ (parseMethodDescriptor yX12_isSize.desc).map (fun d => d.parameters.length) = some 2 := by decide +kernel
theorem hS_yX12_newServer : yX12_newServer.cls ≠ "java/lang/invoke/MethodHandle" ∧ yX12_newServer.cls ≠ "java/lang/invoke/VarHandle" ∧ (parseMethodDescriptor yX12_newServer.desc).map (fun d => d.parameters.length) = some 4 := by decide +kernel
set_option maxHeartbeats 4000000 in
set_option maxRecDepth 100000 in
theorem kX12_serverIs (l : Launch) (E : zE) (Z : zS) {K : Int32 → zS → Prop} (hw : wX12_serverIs Z K) : zCi l yX12_serverIs wsX12_serverIs ({ frames := 2, cells := 0, slots := 0, locals := 43 } : Room) E Z [.ref (E.2.1 97)] K := by
  refine z_bodyi (cc := cX12_serverIs) (nL := 3) (ret := .boolean) (by decide) rfl (Nat.le_of_ble_eq_true rfl) ?_
  intro p e R s m args below meth c ls hfr hlo hF hr hlk hG hl
  have hx := hF.1.1
  have hb := hF.1.2.1
  have hown := hF.1.2.2.2.1
  have hts := hF.1.2.2.2.2
  have in12 : ∀ w ∈ u_ws RX12 TX12 22, w ∈ wsX12_serverIs := fun _ h => List.mem_cons_of_mem _ (List.mem_append_right _ h)
  have hl : lv_has ls 3 [(0, .ref (E.2.1 97))] := hl
  unfold wX12_serverIs at hw
  refine lv_bipush (v := 10) hx hb dX12_serverIs_0 (by decide) ?_
  refine lv_aload_n hx hb dX12_serverIs_2 rfl (lv_at hl 0 rfl) ?_
  refine z_get hF hG 97 (by decide) z_md rfl in12 9 (by decide) (List.mem_of_getElem? (i := 1) rfl) rfl rfl dX12_serverIs_3 ?_
  refine lv_iconst (v := 2) hx hb dX12_serverIs_6 (by decide) ?_
  obtain ⟨q1, hw⟩ := hw
  refine z_iald hF hG 101 (by decide) z_m101 q1 dX12_serverIs_7 ?_
  refine lv_imul hx hb dX12_serverIs_8 ?_
  refine lv_aload_n hx hb dX12_serverIs_9 rfl (lv_at hl 0 rfl) ?_
  refine z_get hF hG 97 (by decide) z_md rfl in12 9 (by decide) (List.mem_of_getElem? (i := 1) rfl) rfl rfl dX12_serverIs_10 ?_
  refine lv_iconst (v := 3) hx hb dX12_serverIs_13 (by decide) ?_
  obtain ⟨q2, hw⟩ := hw
  refine z_iald hF hG 101 (by decide) z_m101 q2 dX12_serverIs_14 ?_
  refine lv_iadd hx hb dX12_serverIs_15 ?_
  refine lv_topi (fun y3 ey3 => ?_)
  replace hw := hw y3 ey3
  refine lv_istore_n (lv' := [(1, .int y3), (0, .ref (E.2.1 97))]) hx hb dX12_serverIs_16 rfl hl (by decide) rfl (fun ls hl => ?_)
  refine lv_bipush (v := 10) hx hb dX12_serverIs_17 (by decide) ?_
  refine lv_aload_n hx hb dX12_serverIs_19 rfl (lv_at hl 1 rfl) ?_
  refine z_get hF hG 97 (by decide) z_md rfl in12 9 (by decide) (List.mem_of_getElem? (i := 1) rfl) rfl rfl dX12_serverIs_20 ?_
  refine lv_iconst (v := 4) hx hb dX12_serverIs_23 (by decide) ?_
  obtain ⟨q4, hw⟩ := hw
  refine z_iald hF hG 101 (by decide) z_m101 q4 dX12_serverIs_24 ?_
  refine lv_imul hx hb dX12_serverIs_25 ?_
  refine lv_aload_n hx hb dX12_serverIs_26 rfl (lv_at hl 1 rfl) ?_
  refine z_get hF hG 97 (by decide) z_md rfl in12 9 (by decide) (List.mem_of_getElem? (i := 1) rfl) rfl rfl dX12_serverIs_27 ?_
  refine lv_iconst (v := 5) hx hb dX12_serverIs_30 (by decide) ?_
  obtain ⟨q5, hw⟩ := hw
  refine z_iald hF hG 101 (by decide) z_m101 q5 dX12_serverIs_31 ?_
  refine lv_iadd hx hb dX12_serverIs_32 ?_
  refine lv_topi (fun y6 ey6 => ?_)
  replace hw := hw y6 ey6
  refine lv_istore_n (lv' := [(2, .int y6), (1, .int y3), (0, .ref (E.2.1 97))]) hx hb dX12_serverIs_33 rfl hl (by decide) rfl (fun ls hl => ?_)
  refine lv_aload_n hx hb dX12_serverIs_34 rfl (lv_at hl 2 rfl) ?_
  refine z_get hF hG 97 (by decide) z_md rfl in12 9 (by decide) (List.mem_of_getElem? (i := 1) rfl) rfl rfl dX12_serverIs_35 ?_
  refine lv_iconst (v := 0) hx hb dX12_serverIs_38 (by decide) ?_
  obtain ⟨q7, hw⟩ := hw
  refine z_iald hF hG 101 (by decide) z_m101 q7 dX12_serverIs_39 ?_
  refine lv_iconst (v := 5) hx hb dX12_serverIs_40 (by decide) ?_
  refine lv_icmp_gt (tgt := 61) hx hb dX12_serverIs_41 (by decide) (fun c8 => ?_) (fun c8 => ?_)
  · replace hw := hw.1 c8
    refine lv_iconst (v := 0) hx hb dX12_serverIs_61 (by decide) ?_
    exact z_zret hF hG hr hlk (by decide) hw dX12_serverIs_62
  replace hw := hw.2 c8
  refine lv_iload_n hx hb dX12_serverIs_44 rfl (lv_at hl 1 rfl) ?_
  refine lv_iload_n hx hb dX12_serverIs_45 rfl (lv_at hl 0 rfl) ?_
  refine z_ci (va_runS (rest := []) hF.1 (kX12_isSize l E Z y3 y6  hw _) (va_cwS 2 hts gX12_serverIs_X12_isSize rfl rfl rfl hS_yX12_isSize ⟨Nat.le_trans (Nat.le_of_ble_eq_true rfl) hfr, Nat.le_trans (Nat.le_of_ble_eq_true rfl) hlo⟩) (z_preS hF hG) rfl rfl hl.1 rfl (lv_room (Nat.le_of_ble_eq_true rfl)) dX12_serverIs_46 ⟨Nat.zero_le _, Nat.zero_le _⟩) hG (fun r10 Z9 H locs hw hG => ?_)
  refine lv_if_eq (tgt := 61) hx hb dX12_serverIs_49 (by decide) (fun c11 => ?_) (fun c11 => ?_)
  · replace hw := hw.1 c11
    refine lv_iconst (v := 0) hx hb dX12_serverIs_61 (by decide) ?_
    exact z_zret hF hG hr hlk (by decide) hw dX12_serverIs_62
  replace hw := hw.2 c11
  refine lv_aload_n hx hb dX12_serverIs_52 rfl (lv_at hl 2 rfl) ?_
  refine z_get hF hG 97 (by decide) z_md rfl in12 1 (by decide) (List.mem_of_getElem? (i := 2) rfl) rfl rfl dX12_serverIs_53 ?_
  refine lv_bipush (v := 6) hx hb dX12_serverIs_56 (by decide) ?_
  refine lv_icmp_ne (tgt := 63) hx hb dX12_serverIs_58 (by decide) (fun c12 => ?_) (fun c12 => ?_)
  · replace hw := hw.1 c12
    refine lv_aload_n hx hb dX12_serverIs_63 rfl (lv_at hl 2 rfl) ?_
    refine lv_aload_n hx hb dX12_serverIs_64 rfl (lv_at hl 2 rfl) ?_
    refine z_get hF hG 97 (by decide) z_md rfl in12 9 (by decide) (List.mem_of_getElem? (i := 1) rfl) rfl rfl dX12_serverIs_65 ?_
    refine lv_iconst (v := 0) hx hb dX12_serverIs_68 (by decide) ?_
    obtain ⟨q13, hw⟩ := hw
    refine z_iald hF hG 101 (by decide) z_m101 q13 dX12_serverIs_69 ?_
    refine lv_aload_n hx hb dX12_serverIs_70 rfl (lv_at hl 2 rfl) ?_
    refine z_get hF hG 97 (by decide) z_md rfl in12 9 (by decide) (List.mem_of_getElem? (i := 1) rfl) rfl rfl dX12_serverIs_71 ?_
    refine lv_iconst (v := 1) hx hb dX12_serverIs_74 (by decide) ?_
    obtain ⟨q14, hw⟩ := hw
    refine z_iald hF hG 101 (by decide) z_m101 q14 dX12_serverIs_75 ?_
    refine lv_iload_n hx hb dX12_serverIs_76 rfl (lv_at hl 1 rfl) ?_
    refine lv_iload_n hx hb dX12_serverIs_77 rfl (lv_at hl 0 rfl) ?_
    refine z_ci (va_runV (rest := []) hF.1 (kX12_newServer l E Z9 ((Z9 101 (0 : Int32).toNatClampNeg)) ((Z9 101 (1 : Int32).toNatClampNeg)) y3 y6  hw _) (cwV 4 hts gX12_serverIs_X12_newServer rfl rfl rfl ⟨rfl, hS_yX12_newServer⟩ ⟨Nat.le_trans (Nat.le_of_ble_eq_true rfl) hfr, Nat.le_trans (Nat.le_of_ble_eq_true rfl) hlo⟩) (z_preV hF hG 97 (by decide) z_md rfl) rfl rfl hl.1 rfl (lv_room (Nat.le_of_ble_eq_true rfl)) dX12_serverIs_78 ⟨Nat.zero_le _, Nat.zero_le _⟩) hG (fun r16 Z15 H locs hw hG => ?_)
    refine lv_pop hx hb dX12_serverIs_81 rfl ?_
    refine lv_iconst (v := 1) hx hb dX12_serverIs_82 (by decide) ?_
    exact z_zret hF hG hr hlk (by decide) hw dX12_serverIs_83
  replace hw := hw.2 (fun h => h c12)
  refine lv_iconst (v := 0) hx hb dX12_serverIs_61 (by decide) ?_
  exact z_zret hF hG hr hlk (by decide) hw dX12_serverIs_62
theorem hS_yX12_isServer : yX12_isServer.cls ≠ "java/lang/invoke/MethodHandle" ∧ yX12_isServer.cls ≠ "java/lang/invoke/VarHandle" ∧ (parseMethodDescriptor yX12_isServer.desc).map (fun d => d.parameters.length) = some 1 := by decide +kernel
theorem hS_yX12_jobComes : yX12_jobComes.cls ≠ "java/lang/invoke/MethodHandle" ∧ yX12_jobComes.cls ≠ "java/lang/invoke/VarHandle" ∧ (parseMethodDescriptor yX12_jobComes.desc).map (fun d => d.parameters.length) = some 3 := by decide +kernel
set_option maxHeartbeats 4000000 in
set_option maxRecDepth 100000 in
theorem kX12_jobIs (l : Launch) (E : zE) (Z : zS) {K : Int32 → zS → Prop} (hw : wX12_jobIs Z K) : zCi l yX12_jobIs wsX12_jobIs ({ frames := 2, cells := 0, slots := 0, locals := 46 } : Room) E Z [.ref (E.2.1 97)] K := by
  refine z_bodyi (cc := cX12_jobIs) (nL := 2) (ret := .boolean) (by decide) rfl (Nat.le_of_ble_eq_true rfl) ?_
  intro p e R s m args below meth c ls hfr hlo hF hr hlk hG hl
  have hx := hF.1.1
  have hb := hF.1.2.1
  have hown := hF.1.2.2.2.1
  have hts := hF.1.2.2.2.2
  have in12 : ∀ w ∈ u_ws RX12 TX12 22, w ∈ wsX12_jobIs := fun _ h => List.mem_cons_of_mem _ (List.mem_append_right _ h)
  have hl : lv_has ls 2 [(0, .ref (E.2.1 97))] := hl
  unfold wX12_jobIs at hw
  refine lv_aload_n hx hb dX12_jobIs_0 rfl (lv_at hl 0 rfl) ?_
  refine z_get hF hG 97 (by decide) z_md rfl in12 9 (by decide) (List.mem_of_getElem? (i := 1) rfl) rfl rfl dX12_jobIs_1 ?_
  refine lv_iconst (v := 0) hx hb dX12_jobIs_4 (by decide) ?_
  obtain ⟨q1, hw⟩ := hw
  refine z_iald hF hG 101 (by decide) z_m101 q1 dX12_jobIs_5 ?_
  refine lv_topi (fun y2 ey2 => ?_)
  replace hw := hw y2 ey2
  refine lv_istore_n (lv' := [(1, .int y2), (0, .ref (E.2.1 97))]) hx hb dX12_jobIs_6 rfl hl (by decide) rfl (fun ls hl => ?_)
  refine lv_aload_n hx hb dX12_jobIs_7 rfl (lv_at hl 1 rfl) ?_
  refine lv_iload_n hx hb dX12_jobIs_8 rfl (lv_at hl 0 rfl) ?_
  refine z_ci (va_runV (rest := []) hF.1 (kX12_isServer l E Z y2  hw _) (cwV 1 hts gX12_jobIs_X12_isServer rfl rfl rfl ⟨rfl, hS_yX12_isServer⟩ ⟨Nat.le_trans (Nat.le_of_ble_eq_true rfl) hfr, Nat.le_trans (Nat.le_of_ble_eq_true rfl) hlo⟩) (z_preV hF hG 97 (by decide) z_md rfl) rfl rfl hl.1 rfl (lv_room (Nat.le_of_ble_eq_true rfl)) dX12_jobIs_9 ⟨Nat.zero_le _, Nat.zero_le _⟩) hG (fun r4 Z3 H locs hw hG => ?_)
  refine lv_if_eq (tgt := 47) hx hb dX12_jobIs_12 (by decide) (fun c5 => ?_) (fun c5 => ?_)
  · replace hw := hw.1 c5
    refine lv_iconst (v := 0) hx hb dX12_jobIs_47 (by decide) ?_
    exact z_zret hF hG hr hlk (by decide) hw dX12_jobIs_48
  replace hw := hw.2 c5
  refine lv_aload_n hx hb dX12_jobIs_15 rfl (lv_at hl 1 rfl) ?_
  refine z_get hF hG 97 (by decide) z_md rfl in12 9 (by decide) (List.mem_of_getElem? (i := 1) rfl) rfl rfl dX12_jobIs_16 ?_
  refine lv_iconst (v := 1) hx hb dX12_jobIs_19 (by decide) ?_
  obtain ⟨q6, hw⟩ := hw
  refine z_iald hF hG 101 (by decide) z_m101 q6 dX12_jobIs_20 ?_
  refine lv_if_eq (tgt := 47) hx hb dX12_jobIs_21 (by decide) (fun c7 => ?_) (fun c7 => ?_)
  · replace hw := hw.1 c7
    refine lv_iconst (v := 0) hx hb dX12_jobIs_47 (by decide) ?_
    exact z_zret hF hG hr hlk (by decide) hw dX12_jobIs_48
  replace hw := hw.2 c7
  refine lv_aload_n hx hb dX12_jobIs_24 rfl (lv_at hl 1 rfl) ?_
  refine z_get hF hG 97 (by decide) z_md rfl in12 9 (by decide) (List.mem_of_getElem? (i := 1) rfl) rfl rfl dX12_jobIs_25 ?_
  refine lv_iconst (v := 2) hx hb dX12_jobIs_28 (by decide) ?_
  obtain ⟨q8, hw⟩ := hw
  refine z_iald hF hG 101 (by decide) z_m101 q8 dX12_jobIs_29 ?_
  refine lv_iconst (v := 3) hx hb dX12_jobIs_30 (by decide) ?_
  refine lv_icmp_gt (tgt := 47) hx hb dX12_jobIs_31 (by decide) (fun c9 => ?_) (fun c9 => ?_)
  · replace hw := hw.1 c9
    refine lv_iconst (v := 0) hx hb dX12_jobIs_47 (by decide) ?_
    exact z_zret hF hG hr hlk (by decide) hw dX12_jobIs_48
  replace hw := hw.2 c9
  refine lv_aload_n hx hb dX12_jobIs_34 rfl (lv_at hl 1 rfl) ?_
  refine z_get hF hG 97 (by decide) z_md rfl in12 2 (by decide) (List.mem_of_getElem? (i := 2) rfl) rfl rfl dX12_jobIs_35 ?_
  refine lv_bipush (v := 42) hx hb dX12_jobIs_38 (by decide) ?_
  refine lv_iload_n hx hb dX12_jobIs_40 rfl (lv_at hl 0 rfl) ?_
  refine lv_iadd hx hb dX12_jobIs_41 ?_
  obtain ⟨q10, hw⟩ := hw
  refine z_iald hF hG 98 (by decide) z_m98 q10 dX12_jobIs_42 ?_
  refine lv_iconst (v := 4) hx hb dX12_jobIs_43 (by decide) ?_
  refine lv_icmp_ne (tgt := 49) hx hb dX12_jobIs_44 (by decide) (fun c11 => ?_) (fun c11 => ?_)
  · replace hw := hw.1 c11
    refine lv_aload_n hx hb dX12_jobIs_49 rfl (lv_at hl 1 rfl) ?_
    refine lv_iload_n hx hb dX12_jobIs_50 rfl (lv_at hl 0 rfl) ?_
    refine lv_aload_n hx hb dX12_jobIs_51 rfl (lv_at hl 1 rfl) ?_
    refine z_get hF hG 97 (by decide) z_md rfl in12 9 (by decide) (List.mem_of_getElem? (i := 1) rfl) rfl rfl dX12_jobIs_52 ?_
    refine lv_iconst (v := 1) hx hb dX12_jobIs_55 (by decide) ?_
    obtain ⟨q12, hw⟩ := hw
    refine z_iald hF hG 101 (by decide) z_m101 q12 dX12_jobIs_56 ?_
    refine lv_aload_n hx hb dX12_jobIs_57 rfl (lv_at hl 1 rfl) ?_
    refine z_get hF hG 97 (by decide) z_md rfl in12 9 (by decide) (List.mem_of_getElem? (i := 1) rfl) rfl rfl dX12_jobIs_58 ?_
    refine lv_iconst (v := 2) hx hb dX12_jobIs_61 (by decide) ?_
    obtain ⟨q13, hw⟩ := hw
    refine z_iald hF hG 101 (by decide) z_m101 q13 dX12_jobIs_62 ?_
    refine z_cv (va_runV (rest := []) hF.1 (kX12_jobComes l E Z3 y2 ((Z3 101 (1 : Int32).toNatClampNeg)) ((Z3 101 (2 : Int32).toNatClampNeg))  hw _) (cwV 3 hts gX12_jobIs_X12_jobComes rfl rfl rfl ⟨rfl, hS_yX12_jobComes⟩ ⟨Nat.le_trans (Nat.le_of_ble_eq_true rfl) hfr, Nat.le_trans (Nat.le_of_ble_eq_true rfl) hlo⟩) (z_preV hF hG 97 (by decide) z_md rfl) rfl rfl hl.1 rfl (lv_room (Nat.le_of_ble_eq_true rfl)) dX12_jobIs_63 ⟨Nat.zero_le _, Nat.zero_le _⟩) hG (fun Z14 H locs hw hG => ?_)
    refine lv_iconst (v := 1) hx hb dX12_jobIs_66 (by decide) ?_
    exact z_zret hF hG hr hlk (by decide) hw dX12_jobIs_67
  replace hw := hw.2 (fun h => h c11)
  refine lv_iconst (v := 0) hx hb dX12_jobIs_47 (by decide) ?_
  exact z_zret hF hG hr hlk (by decide) hw dX12_jobIs_48
theorem hS_yX12_goes : yX12_goes.cls ≠ "java/lang/invoke/MethodHandle" ∧ yX12_goes.cls ≠ "java/lang/invoke/VarHandle" ∧ (parseMethodDescriptor yX12_goes.desc).map (fun d => d.parameters.length) = some 0 := by decide +kernel
set_option maxHeartbeats 4000000 in
set_option maxRecDepth 100000 in
theorem kX12_ticksAre (l : Launch) (E : zE) (Z : zS) {K : Int32 → zS → Prop} (hw : wX12_ticksAre Z K) : zCi l yX12_ticksAre wsX12_ticksAre ({ frames := 6, cells := 0, slots := 0, locals := 128 } : Room) E Z [.ref (E.2.1 97)] K := by
  refine z_bodyi (cc := cX12_ticksAre) (nL := 3) (ret := .boolean) (by decide) rfl (Nat.le_of_ble_eq_true rfl) ?_
  intro p e R s m args below meth c ls hfr hlo hF hr hlk hG hl
  have hx := hF.1.1
  have hb := hF.1.2.1
  have hown := hF.1.2.2.2.1
  have hts := hF.1.2.2.2.2
  have in12 : ∀ w ∈ u_ws RX12 TX12 22, w ∈ wsX12_ticksAre := fun _ h => List.mem_cons_of_mem _ (List.mem_append_right _ h)
  have hl : lv_has ls 3 [(0, .ref (E.2.1 97))] := hl
  have S43 : ∀ (L43 : Int32 → Int32 → zS → Prop), (∀ (x1 : Int32) (x2 : Int32) (Z : zS) (H : Heap) (locs : List Loc) (ls : Array Slot), zG E Z s H locs → lv_has ls 3 [(0, .ref (E.2.1 97)), (1, .int x1), (2, .int x2)] → L43 x1 x2 Z → W p l e R s m args below meth c H locs 0 0 (zQi E K below args s) (F0 m 43 ls [])) → ∀ (x1 : Int32) (x2 : Int32) (Z : zS) (H : Heap) (locs : List Loc) (ls : Array Slot), zG E Z s H locs → lv_has ls 3 [(0, .ref (E.2.1 97)), (1, .int x1), (2, .int x2)] → wX12_ticksAre_43b L43 x1 x2 Z K → W p l e R s m args below meth c H locs 0 0 (zQi E K below args s) (F0 m 43 ls []) := by
    intro L43 ih43
    intro x1 x2 Z H locs ls hG hl hw
    unfold wX12_ticksAre_43b at hw
    refine lv_iload_n hx hb dX12_ticksAre_43 rfl (lv_at hl 2 rfl) ?_
    refine lv_iload_n hx hb dX12_ticksAre_44 rfl (lv_at hl 1 rfl) ?_
    refine lv_icmp_ge (tgt := 58) hx hb dX12_ticksAre_45 (by decide) (fun c9 => ?_) (fun c9 => ?_)
    · replace hw := hw.1 c9
      refine lv_iconst (v := 1) hx hb dX12_ticksAre_58 (by decide) ?_
      exact z_zret hF hG hr hlk (by decide) hw dX12_ticksAre_59
    replace hw := hw.2 c9
    refine lv_aload_n hx hb dX12_ticksAre_48 rfl (lv_at hl 0 rfl) ?_
    refine z_cv (va_runV (rest := []) hF.1 (kX12_goes l E Z   hw _) (cwV 0 hts gX12_ticksAre_X12_goes rfl rfl rfl ⟨rfl, hS_yX12_goes⟩ ⟨Nat.le_trans (Nat.le_of_ble_eq_true rfl) hfr, Nat.le_trans (Nat.le_of_ble_eq_true rfl) hlo⟩) (z_preV hF hG 97 (by decide) z_md rfl) rfl rfl hl.1 rfl (lv_room (Nat.le_of_ble_eq_true rfl)) dX12_ticksAre_49 ⟨Nat.zero_le _, Nat.zero_le _⟩) hG (fun Z10 H locs hw hG => ?_)
    obtain ⟨y11, ey11⟩ : ∃ y : Int32, y = x2 + 1 := ⟨_, rfl⟩
    replace hw := hw y11 ey11
    refine lv_iinc (v := y11) (lv' := [(2, .int y11), (0, .ref (E.2.1 97)), (1, .int x1)]) hx hb dX12_ticksAre_52 hl (k := 2) rfl (by rw [ey11]; rfl) (by decide) rfl (fun ls hl => ?_)
    refine lv_goto (tgt := 43) hx hb dX12_ticksAre_55 (by decide) ?_
    exact ih43 x1 y11 Z10 _ _ _ hG (lv_sub hl [1, 2, 0] rfl) hw
  have J43 : ∀ n : Nat, ∀ (x1 : Int32) (x2 : Int32) (Z : zS) (H : Heap) (locs : List Loc) (ls : Array Slot), zG E Z s H locs → lv_has ls 3 [(0, .ref (E.2.1 97)), (1, .int x1), (2, .int x2)] → wX12_ticksAre_43 K n x1 x2 Z → W p l e R s m args below meth c H locs 0 0 (zQi E K below args s) (F0 m 43 ls []) := by
    intro n
    induction n with
    | zero => intro x1 x2 Z H locs ls hG hl hw; exact hw.elim
    | succ n ih => intro x1 x2 Z H locs ls hG hl hw; exact S43 _ ih x1 x2 Z H locs ls hG hl hw
  unfold wX12_ticksAre at hw
  refine lv_bipush (v := 10) hx hb dX12_ticksAre_0 (by decide) ?_
  refine lv_aload_n hx hb dX12_ticksAre_2 rfl (lv_at hl 0 rfl) ?_
  refine z_get hF hG 97 (by decide) z_md rfl in12 9 (by decide) (List.mem_of_getElem? (i := 1) rfl) rfl rfl dX12_ticksAre_3 ?_
  refine lv_iconst (v := 0) hx hb dX12_ticksAre_6 (by decide) ?_
  obtain ⟨q1, hw⟩ := hw
  refine z_iald hF hG 101 (by decide) z_m101 q1 dX12_ticksAre_7 ?_
  refine lv_imul hx hb dX12_ticksAre_8 ?_
  refine lv_aload_n hx hb dX12_ticksAre_9 rfl (lv_at hl 0 rfl) ?_
  refine z_get hF hG 97 (by decide) z_md rfl in12 9 (by decide) (List.mem_of_getElem? (i := 1) rfl) rfl rfl dX12_ticksAre_10 ?_
  refine lv_iconst (v := 1) hx hb dX12_ticksAre_13 (by decide) ?_
  obtain ⟨q2, hw⟩ := hw
  refine z_iald hF hG 101 (by decide) z_m101 q2 dX12_ticksAre_14 ?_
  refine lv_iadd hx hb dX12_ticksAre_15 ?_
  refine lv_topi (fun y3 ey3 => ?_)
  replace hw := hw y3 ey3
  refine lv_istore_n (lv' := [(1, .int y3), (0, .ref (E.2.1 97))]) hx hb dX12_ticksAre_16 rfl hl (by decide) rfl (fun ls hl => ?_)
  refine lv_iload_n hx hb dX12_ticksAre_17 rfl (lv_at hl 0 rfl) ?_
  refine lv_iconst (v := 1) hx hb dX12_ticksAre_18 (by decide) ?_
  refine lv_bipush (v := 60) hx hb dX12_ticksAre_19 (by decide) ?_
  refine z_ci (va_runS (rest := []) hF.1 (kX12_within l E Z y3 1 60  hw _) (va_cwS 3 hts gX12_ticksAre_X12_within rfl rfl rfl hS_yX12_within ⟨Nat.le_trans (Nat.le_of_ble_eq_true rfl) hfr, Nat.le_trans (Nat.le_of_ble_eq_true rfl) hlo⟩) (z_preS hF hG) rfl rfl hl.1 rfl (lv_room (Nat.le_of_ble_eq_true rfl)) dX12_ticksAre_21 ⟨Nat.zero_le _, Nat.zero_le _⟩) hG (fun r5 Z4 H locs hw hG => ?_)
  refine lv_if_eq (tgt := 39) hx hb dX12_ticksAre_24 (by decide) (fun c6 => ?_) (fun c6 => ?_)
  · replace hw := hw.1 c6
    refine lv_iconst (v := 0) hx hb dX12_ticksAre_39 (by decide) ?_
    exact z_zret hF hG hr hlk (by decide) hw dX12_ticksAre_40
  replace hw := hw.2 c6
  refine lv_aload_n hx hb dX12_ticksAre_27 rfl (lv_at hl 1 rfl) ?_
  refine z_get hF hG 97 (by decide) z_md rfl in12 0 (by decide) (List.mem_of_getElem? (i := 2) rfl) rfl rfl dX12_ticksAre_28 ?_
  refine lv_iload_n hx hb dX12_ticksAre_31 rfl (lv_at hl 0 rfl) ?_
  refine lv_iadd hx hb dX12_ticksAre_32 ?_
  refine lv_sipush (v := 9999) hx hb dX12_ticksAre_33 (by decide) ?_
  refine lv_icmp_le (tgt := 41) hx hb dX12_ticksAre_36 (by decide) (fun c7 => ?_) (fun c7 => ?_)
  · replace hw := hw.1 c7
    refine lv_iconst (v := 0) hx hb dX12_ticksAre_41 (by decide) ?_
    refine lv_topi (fun y8 ey8 => ?_)
    replace hw := hw y8 ey8
    refine lv_istore_n (lv' := [(2, .int y8), (1, .int y3), (0, .ref (E.2.1 97))]) hx hb dX12_ticksAre_42 rfl hl (by decide) rfl (fun ls hl => ?_)
    obtain ⟨n43, hw⟩ := hw
    exact J43 n43 y3 y8 Z4 _ _ _ hG (lv_sub hl [2, 1, 0] rfl) hw
  replace hw := hw.2 c7
  refine lv_iconst (v := 0) hx hb dX12_ticksAre_39 (by decide) ?_
  exact z_zret hF hG hr hlk (by decide) hw dX12_ticksAre_40
theorem hS_yX12_is : yX12_is.cls ≠ "java/lang/invoke/MethodHandle" ∧ yX12_is.cls ≠ "java/lang/invoke/VarHandle" ∧ (parseMethodDescriptor yX12_is.desc).map (fun d => d.parameters.length) = some 1 := by decide +kernel
theorem hS_yX12_digits : yX12_digits.cls ≠ "java/lang/invoke/MethodHandle" ∧ yX12_digits.cls ≠ "java/lang/invoke/VarHandle" ∧ (parseMethodDescriptor yX12_digits.desc).map (fun d => d.parameters.length) = some 1 := by decide +kernel
theorem hS_yX12_ticksAre : yX12_ticksAre.cls ≠ "java/lang/invoke/MethodHandle" ∧ yX12_ticksAre.cls ≠ "java/lang/invoke/VarHandle" ∧ (parseMethodDescriptor yX12_ticksAre.desc).map (fun d => d.parameters.length) = some 0 := by decide +kernel
theorem hS_yX12_jobIs : yX12_jobIs.cls ≠ "java/lang/invoke/MethodHandle" ∧ yX12_jobIs.cls ≠ "java/lang/invoke/VarHandle" ∧ (parseMethodDescriptor yX12_jobIs.desc).map (fun d => d.parameters.length) = some 0 := by decide +kernel
theorem hS_yX12_serverIs : yX12_serverIs.cls ≠ "java/lang/invoke/MethodHandle" ∧ yX12_serverIs.cls ≠ "java/lang/invoke/VarHandle" ∧ (parseMethodDescriptor yX12_serverIs.desc).map (fun d => d.parameters.length) = some 0 := by decide +kernel
set_option maxHeartbeats 4000000 in
set_option maxRecDepth 100000 in
theorem kX12_statement (l : Launch) (E : zE) (Z : zS) {K : Int32 → zS → Prop} (hw : wX12_statement Z K) : zCi l yX12_statement wsX12_statement ({ frames := 7, cells := 0, slots := 0, locals := 150 } : Room) E Z [.ref (E.2.1 97)] K := by
  refine z_bodyi (cc := cX12_statement) (nL := 3) (ret := .int) (by decide) rfl (Nat.le_of_ble_eq_true rfl) ?_
  intro p e R s m args below meth c ls hfr hlo hF hr hlk hG hl
  have hx := hF.1.1
  have hb := hF.1.2.1
  have hown := hF.1.2.2.2.1
  have hts := hF.1.2.2.2.2
  have hl : lv_has ls 3 [(0, .ref (E.2.1 97))] := hl
  have J118 : ∀ (s0 : Int32) (Z : zS) (H : Heap) (locs : List Loc) (ls : Array Slot), zG E Z s H locs → lv_has ls 3 [] → wX12_statement_118 s0 Z K → W p l e R s m args below meth c H locs 0 0 (zQi E K below args s) (F0 m 118 ls [.int s0]) := by
    intro s0 Z H locs ls hG hl hw
    unfold wX12_statement_118 at hw
    refine lv_istore_n (lv' := [(2, .int s0)]) hx hb dX12_statement_118 rfl hl (by decide) rfl (fun ls hl => ?_)
    refine lv_iload_n hx hb dX12_statement_119 rfl (lv_at hl 0 rfl) ?_
    refine lv_if_eq (tgt := 127) hx hb dX12_statement_120 (by decide) (fun c27 => ?_) (fun c27 => ?_)
    · replace hw := hw.1 c27
      refine lv_iconst (v := 0) hx hb dX12_statement_127 (by decide) ?_
      exact z_iret hF hG hr hlk hw dX12_statement_128
    replace hw := hw.2 c27
    refine lv_iconst (v := 1) hx hb dX12_statement_123 (by decide) ?_
    refine lv_goto (tgt := 128) hx hb dX12_statement_124 (by decide) ?_
    exact z_iret hF hG hr hlk hw dX12_statement_128
  have J71 : ∀ (x1 : Int32) (s0 : Int32) (Z : zS) (H : Heap) (locs : List Loc) (ls : Array Slot), zG E Z s H locs → lv_has ls 3 [(0, .ref (E.2.1 97)), (1, .int x1)] → wX12_statement_71 x1 s0 Z K → W p l e R s m args below meth c H locs 0 0 (zQi E K below args s) (F0 m 71 ls [.int s0, .ref (E.2.1 97)]) := by
    intro x1 s0 Z H locs ls hG hl hw
    unfold wX12_statement_71 at hw
    refine z_ci (va_runV (rest := []) hF.1 (kX12_digits l E Z s0  hw _) (cwV 1 hts gX12_statement_X12_digits rfl rfl rfl ⟨rfl, hS_yX12_digits⟩ ⟨Nat.le_trans (Nat.le_of_ble_eq_true rfl) hfr, Nat.le_trans (Nat.le_of_ble_eq_true rfl) hlo⟩) (z_preV hF hG 97 (by decide) z_md rfl) rfl rfl hl.1 rfl (lv_room (Nat.le_of_ble_eq_true rfl)) dX12_statement_71 ⟨Nat.zero_le _, Nat.zero_le _⟩) hG (fun r14 Z13 H locs hw hG => ?_)
    refine lv_if_eq (tgt := 86) hx hb dX12_statement_74 (by decide) (fun c15 => ?_) (fun c15 => ?_)
    · replace hw := hw.1 c15
      refine lv_iconst (v := (-1)) hx hb dX12_statement_86 (by decide) ?_
      exact z_iret hF hG hr hlk hw dX12_statement_87
    replace hw := hw.2 c15
    refine lv_aload_n hx hb dX12_statement_77 rfl (lv_at hl 0 rfl) ?_
    refine lv_bipush (v := 59) hx hb dX12_statement_78 (by decide) ?_
    refine z_ci (va_runV (rest := []) hF.1 (kX12_is l E Z13 59  hw _) (cwV 1 hts gX12_statement_X12_is rfl rfl rfl ⟨rfl, hS_yX12_is⟩ ⟨Nat.le_trans (Nat.le_of_ble_eq_true rfl) hfr, Nat.le_trans (Nat.le_of_ble_eq_true rfl) hlo⟩) (z_preV hF hG 97 (by decide) z_md rfl) rfl rfl hl.1 rfl (lv_room (Nat.le_of_ble_eq_true rfl)) dX12_statement_80 ⟨Nat.zero_le _, Nat.zero_le _⟩) hG (fun r17 Z16 H locs hw hG => ?_)
    refine lv_if_ne (tgt := 88) hx hb dX12_statement_83 (by decide) (fun c18 => ?_) (fun c18 => ?_)
    · replace hw := hw.1 c18
      refine lv_iload_n hx hb dX12_statement_88 rfl (lv_at hl 1 rfl) ?_
      refine lv_bipush (v := 115) hx hb dX12_statement_89 (by decide) ?_
      refine lv_icmp_ne (tgt := 101) hx hb dX12_statement_91 (by decide) (fun c19 => ?_) (fun c19 => ?_)
      · replace hw := hw.1 c19
        refine lv_iload_n hx hb dX12_statement_101 rfl (lv_at hl 1 rfl) ?_
        refine lv_bipush (v := 106) hx hb dX12_statement_102 (by decide) ?_
        refine lv_icmp_ne (tgt := 114) hx hb dX12_statement_104 (by decide) (fun c20 => ?_) (fun c20 => ?_)
        · replace hw := hw.1 c20
          refine lv_aload_n hx hb dX12_statement_114 rfl (lv_at hl 0 rfl) ?_
          refine z_ci (va_runV (rest := []) hF.1 (kX12_ticksAre l E Z16   hw _) (cwV 0 hts gX12_statement_X12_ticksAre rfl rfl rfl ⟨rfl, hS_yX12_ticksAre⟩ ⟨Nat.le_trans (Nat.le_of_ble_eq_true rfl) hfr, Nat.le_trans (Nat.le_of_ble_eq_true rfl) hlo⟩) (z_preV hF hG 97 (by decide) z_md rfl) rfl rfl hl.1 rfl (lv_room (Nat.le_of_ble_eq_true rfl)) dX12_statement_115 ⟨Nat.zero_le _, Nat.zero_le _⟩) hG (fun r22 Z21 H locs hw hG => ?_)
          exact J118 r22 Z21 _ _ _ hG (lv_sub hl [] rfl) hw
        replace hw := hw.2 (fun h => h c20)
        refine lv_aload_n hx hb dX12_statement_107 rfl (lv_at hl 0 rfl) ?_
        refine z_ci (va_runV (rest := []) hF.1 (kX12_jobIs l E Z16   hw _) (cwV 0 hts gX12_statement_X12_jobIs rfl rfl rfl ⟨rfl, hS_yX12_jobIs⟩ ⟨Nat.le_trans (Nat.le_of_ble_eq_true rfl) hfr, Nat.le_trans (Nat.le_of_ble_eq_true rfl) hlo⟩) (z_preV hF hG 97 (by decide) z_md rfl) rfl rfl hl.1 rfl (lv_room (Nat.le_of_ble_eq_true rfl)) dX12_statement_108 ⟨Nat.zero_le _, Nat.zero_le _⟩) hG (fun r24 Z23 H locs hw hG => ?_)
        refine lv_goto (tgt := 118) hx hb dX12_statement_111 (by decide) ?_
        exact J118 r24 Z23 _ _ _ hG (lv_sub hl [] rfl) hw
      replace hw := hw.2 (fun h => h c19)
      refine lv_aload_n hx hb dX12_statement_94 rfl (lv_at hl 0 rfl) ?_
      refine z_ci (va_runV (rest := []) hF.1 (kX12_serverIs l E Z16   hw _) (cwV 0 hts gX12_statement_X12_serverIs rfl rfl rfl ⟨rfl, hS_yX12_serverIs⟩ ⟨Nat.le_trans (Nat.le_of_ble_eq_true rfl) hfr, Nat.le_trans (Nat.le_of_ble_eq_true rfl) hlo⟩) (z_preV hF hG 97 (by decide) z_md rfl) rfl rfl hl.1 rfl (lv_room (Nat.le_of_ble_eq_true rfl)) dX12_statement_95 ⟨Nat.zero_le _, Nat.zero_le _⟩) hG (fun r26 Z25 H locs hw hG => ?_)
      refine lv_goto (tgt := 118) hx hb dX12_statement_98 (by decide) ?_
      exact J118 r26 Z25 _ _ _ hG (lv_sub hl [] rfl) hw
    replace hw := hw.2 (fun h => h c18)
    refine lv_iconst (v := (-1)) hx hb dX12_statement_86 (by decide) ?_
    exact z_iret hF hG hr hlk hw dX12_statement_87
  have J43 : ∀ (s0 : Int32) (Z : zS) (H : Heap) (locs : List Loc) (ls : Array Slot), zG E Z s H locs → lv_has ls 3 [(0, .ref (E.2.1 97))] → wX12_statement_43 s0 Z K → W p l e R s m args below meth c H locs 0 0 (zQi E K below args s) (F0 m 43 ls [.int s0]) := by
    intro s0 Z H locs ls hG hl hw
    unfold wX12_statement_43 at hw
    refine lv_istore_n (lv' := [(1, .int s0), (0, .ref (E.2.1 97))]) hx hb dX12_statement_43 rfl hl (by decide) rfl (fun ls hl => ?_)
    refine lv_iload_n hx hb dX12_statement_44 rfl (lv_at hl 0 rfl) ?_
    refine lv_if_eq (tgt := 86) hx hb dX12_statement_45 (by decide) (fun c10 => ?_) (fun c10 => ?_)
    · replace hw := hw.1 c10
      refine lv_iconst (v := (-1)) hx hb dX12_statement_86 (by decide) ?_
      exact z_iret hF hG hr hlk hw dX12_statement_87
    replace hw := hw.2 c10
    refine lv_aload_n hx hb dX12_statement_48 rfl (lv_at hl 1 rfl) ?_
    refine lv_iload_n hx hb dX12_statement_49 rfl (lv_at hl 0 rfl) ?_
    refine lv_bipush (v := 115) hx hb dX12_statement_50 (by decide) ?_
    refine lv_icmp_ne (tgt := 60) hx hb dX12_statement_52 (by decide) (fun c11 => ?_) (fun c11 => ?_)
    · replace hw := hw.1 c11
      refine lv_iload_n hx hb dX12_statement_60 rfl (lv_at hl 0 rfl) ?_
      refine lv_bipush (v := 106) hx hb dX12_statement_61 (by decide) ?_
      refine lv_icmp_ne (tgt := 70) hx hb dX12_statement_63 (by decide) (fun c12 => ?_) (fun c12 => ?_)
      · replace hw := hw.1 c12
        refine lv_iconst (v := 2) hx hb dX12_statement_70 (by decide) ?_
        exact J71 s0 2 Z _ _ _ hG (lv_sub hl [1, 0] rfl) hw
      replace hw := hw.2 (fun h => h c12)
      refine lv_iconst (v := 3) hx hb dX12_statement_66 (by decide) ?_
      refine lv_goto (tgt := 71) hx hb dX12_statement_67 (by decide) ?_
      exact J71 s0 3 Z _ _ _ hG (lv_sub hl [1, 0] rfl) hw
    replace hw := hw.2 (fun h => h c11)
    refine lv_bipush (v := 6) hx hb dX12_statement_55 (by decide) ?_
    refine lv_goto (tgt := 71) hx hb dX12_statement_57 (by decide) ?_
    exact J71 s0 6 Z _ _ _ hG (lv_sub hl [1, 0] rfl) hw
  unfold wX12_statement at hw
  refine lv_aload_n hx hb dX12_statement_0 rfl (lv_at hl 0 rfl) ?_
  refine lv_bipush (v := 115) hx hb dX12_statement_1 (by decide) ?_
  refine z_ci (va_runV (rest := []) hF.1 (kX12_is l E Z 115  hw _) (cwV 1 hts gX12_statement_X12_is rfl rfl rfl ⟨rfl, hS_yX12_is⟩ ⟨Nat.le_trans (Nat.le_of_ble_eq_true rfl) hfr, Nat.le_trans (Nat.le_of_ble_eq_true rfl) hlo⟩) (z_preV hF hG 97 (by decide) z_md rfl) rfl rfl hl.1 rfl (lv_room (Nat.le_of_ble_eq_true rfl)) dX12_statement_3 ⟨Nat.zero_le _, Nat.zero_le _⟩) hG (fun r2 Z1 H locs hw hG => ?_)
  refine lv_if_eq (tgt := 14) hx hb dX12_statement_6 (by decide) (fun c3 => ?_) (fun c3 => ?_)
  · replace hw := hw.1 c3
    refine lv_aload_n hx hb dX12_statement_14 rfl (lv_at hl 0 rfl) ?_
    refine lv_bipush (v := 106) hx hb dX12_statement_15 (by decide) ?_
    refine z_ci (va_runV (rest := []) hF.1 (kX12_is l E Z1 106  hw _) (cwV 1 hts gX12_statement_X12_is rfl rfl rfl ⟨rfl, hS_yX12_is⟩ ⟨Nat.le_trans (Nat.le_of_ble_eq_true rfl) hfr, Nat.le_trans (Nat.le_of_ble_eq_true rfl) hlo⟩) (z_preV hF hG 97 (by decide) z_md rfl) rfl rfl hl.1 rfl (lv_room (Nat.le_of_ble_eq_true rfl)) dX12_statement_17 ⟨Nat.zero_le _, Nat.zero_le _⟩) hG (fun r5 Z4 H locs hw hG => ?_)
    refine lv_if_eq (tgt := 28) hx hb dX12_statement_20 (by decide) (fun c6 => ?_) (fun c6 => ?_)
    · replace hw := hw.1 c6
      refine lv_aload_n hx hb dX12_statement_28 rfl (lv_at hl 0 rfl) ?_
      refine lv_bipush (v := 116) hx hb dX12_statement_29 (by decide) ?_
      refine z_ci (va_runV (rest := []) hF.1 (kX12_is l E Z4 116  hw _) (cwV 1 hts gX12_statement_X12_is rfl rfl rfl ⟨rfl, hS_yX12_is⟩ ⟨Nat.le_trans (Nat.le_of_ble_eq_true rfl) hfr, Nat.le_trans (Nat.le_of_ble_eq_true rfl) hlo⟩) (z_preV hF hG 97 (by decide) z_md rfl) rfl rfl hl.1 rfl (lv_room (Nat.le_of_ble_eq_true rfl)) dX12_statement_31 ⟨Nat.zero_le _, Nat.zero_le _⟩) hG (fun r8 Z7 H locs hw hG => ?_)
      refine lv_if_eq (tgt := 42) hx hb dX12_statement_34 (by decide) (fun c9 => ?_) (fun c9 => ?_)
      · replace hw := hw.1 c9
        refine lv_iconst (v := 0) hx hb dX12_statement_42 (by decide) ?_
        exact J43 0 Z7 _ _ _ hG (lv_sub hl [0] rfl) hw
      replace hw := hw.2 c9
      refine lv_bipush (v := 116) hx hb dX12_statement_37 (by decide) ?_
      refine lv_goto (tgt := 43) hx hb dX12_statement_39 (by decide) ?_
      exact J43 116 Z7 _ _ _ hG (lv_sub hl [0] rfl) hw
    replace hw := hw.2 c6
    refine lv_bipush (v := 106) hx hb dX12_statement_23 (by decide) ?_
    refine lv_goto (tgt := 43) hx hb dX12_statement_25 (by decide) ?_
    exact J43 106 Z4 _ _ _ hG (lv_sub hl [0] rfl) hw
  replace hw := hw.2 c3
  refine lv_bipush (v := 115) hx hb dX12_statement_9 (by decide) ?_
  refine lv_goto (tgt := 43) hx hb dX12_statement_11 (by decide) ?_
  exact J43 115 Z1 _ _ _ hG (lv_sub hl [0] rfl) hw
set_option maxHeartbeats 4000000 in
set_option maxRecDepth 100000 in
theorem kX12_again (l : Launch) (E : zE) (Z : zS) (u1 : Nat) (nu1 : Nat) (hu1 : u1 < 112) (eu1 : ∀ f : Nat → Int32, zent E u1 f = .inl (E.2.2.1 0, nu1, .inl f)) {K : zS → Prop} (hw : wX12_again u1 nu1 Z K) : zCv l yX12_again wsX12_again ({ frames := 0, cells := 0, slots := 0, locals := 0 } : Room) E Z [.ref (E.2.1 97), .ref (E.2.1 u1)] K := by
  refine z_bodyv (cc := cX12_again) (nL := 3) (by decide) rfl (Nat.le_of_ble_eq_true rfl) ?_
  intro p e R s m args below meth c ls hfr hlo hF hr hlk hG hl
  have hx := hF.1.1
  have hb := hF.1.2.1
  have hown := hF.1.2.2.2.1
  have hts := hF.1.2.2.2.2
  have in12 : ∀ w ∈ u_ws RX12 TX12 22, w ∈ wsX12_again := fun _ h => List.mem_cons_of_mem _ (List.mem_append_right _ h)
  have hl : lv_has ls 3 [(0, .ref (E.2.1 97)), (1, .ref (E.2.1 u1))] := hl
  have S25 : ∀ (L25 : Int32 → zS → Prop), (∀ (x2 : Int32) (Z : zS) (H : Heap) (locs : List Loc) (ls : Array Slot), zG E Z s H locs → lv_has ls 3 [(0, .ref (E.2.1 97)), (1, .ref (E.2.1 u1)), (2, .int x2)] → L25 x2 Z → W p l e R s m args below meth c H locs 0 0 (zQv E K below args s) (F0 m 25 ls [])) → ∀ (x2 : Int32) (Z : zS) (H : Heap) (locs : List Loc) (ls : Array Slot), zG E Z s H locs → lv_has ls 3 [(0, .ref (E.2.1 97)), (1, .ref (E.2.1 u1)), (2, .int x2)] → wX12_again_25b L25 u1 nu1 x2 Z K → W p l e R s m args below meth c H locs 0 0 (zQv E K below args s) (F0 m 25 ls []) := by
    intro L25 ih25
    intro x2 Z H locs ls hG hl hw
    unfold wX12_again_25b at hw
    refine lv_iload_n hx hb dX12_again_25 rfl (lv_at hl 2 rfl) ?_
    refine lv_bipush (v := 24) hx hb dX12_again_26 (by decide) ?_
    refine lv_icmp_ge (tgt := 61) hx hb dX12_again_28 (by decide) (fun c8 => ?_) (fun c8 => ?_)
    · replace hw := hw.1 c8
      refine lv_aload_n hx hb dX12_again_61 rfl (lv_at hl 0 rfl) ?_
      refine lv_aload_n hx hb dX12_again_62 rfl (lv_at hl 1 rfl) ?_
      refine lv_bipush (v := 120) hx hb dX12_again_63 (by decide) ?_
      obtain ⟨q9, hw⟩ := hw
      refine z_iald hF hG u1 hu1 (eu1 _) q9 dX12_again_65 ?_
      refine z_put hF hG 97 (by decide) z_md rfl in12 tyX12_ok nmX12 0 (by decide) (List.mem_of_getElem? (i := 4) rfl) rfl rfl (tyX12_ok 0 (by decide)) rfl rfl (Nat.le_of_ble_eq_true rfl) ((Z u1 (120 : Int32).toNatClampNeg)) z_md dX12_again_66 (fun Z10 H locs eZ10 hG => ?_)
      replace hw := hw Z10 eZ10
      refine lv_aload_n hx hb dX12_again_69 rfl (lv_at hl 0 rfl) ?_
      refine lv_aload_n hx hb dX12_again_70 rfl (lv_at hl 1 rfl) ?_
      refine lv_bipush (v := 121) hx hb dX12_again_71 (by decide) ?_
      obtain ⟨q11, hw⟩ := hw
      refine z_iald hF hG u1 hu1 (eu1 _) q11 dX12_again_73 ?_
      refine z_put hF hG 97 (by decide) z_md rfl in12 tyX12_ok nmX12 1 (by decide) (List.mem_of_getElem? (i := 5) rfl) rfl rfl (tyX12_ok 1 (by decide)) rfl rfl (Nat.le_of_ble_eq_true rfl) ((Z10 u1 (121 : Int32).toNatClampNeg)) z_md dX12_again_74 (fun Z12 H locs eZ12 hG => ?_)
      replace hw := hw Z12 eZ12
      exact z_vret hF hG hr hlk hw dX12_again_77
    replace hw := hw.2 c8
    refine lv_aload_n hx hb dX12_again_31 rfl (lv_at hl 0 rfl) ?_
    refine z_get hF hG 97 (by decide) z_md rfl in12 3 (by decide) (List.mem_of_getElem? (i := 2) rfl) rfl rfl dX12_again_32 ?_
    refine lv_iload_n hx hb dX12_again_35 rfl (lv_at hl 2 rfl) ?_
    refine lv_aload_n hx hb dX12_again_36 rfl (lv_at hl 1 rfl) ?_
    refine lv_bipush (v := 72) hx hb dX12_again_37 (by decide) ?_
    refine lv_iload_n hx hb dX12_again_39 rfl (lv_at hl 2 rfl) ?_
    refine lv_iadd hx hb dX12_again_40 ?_
    obtain ⟨q13, hw⟩ := hw
    refine z_iald hF hG u1 hu1 (eu1 _) q13 dX12_again_41 ?_
    obtain ⟨q14, hw⟩ := hw
    refine z_iast hF hG 99 (by decide) (fun _ => z_m99) q14 dX12_again_42 (fun Z15 H locs eZ15 hG => ?_)
    replace hw := hw Z15 eZ15
    refine lv_aload_n hx hb dX12_again_43 rfl (lv_at hl 0 rfl) ?_
    refine z_get hF hG 97 (by decide) z_md rfl in12 4 (by decide) (List.mem_of_getElem? (i := 3) rfl) rfl rfl dX12_again_44 ?_
    refine lv_iload_n hx hb dX12_again_47 rfl (lv_at hl 2 rfl) ?_
    refine lv_aload_n hx hb dX12_again_48 rfl (lv_at hl 1 rfl) ?_
    refine lv_bipush (v := 96) hx hb dX12_again_49 (by decide) ?_
    refine lv_iload_n hx hb dX12_again_51 rfl (lv_at hl 2 rfl) ?_
    refine lv_iadd hx hb dX12_again_52 ?_
    obtain ⟨q16, hw⟩ := hw
    refine z_iald hF hG u1 hu1 (eu1 _) q16 dX12_again_53 ?_
    obtain ⟨q17, hw⟩ := hw
    refine z_iast hF hG 100 (by decide) (fun _ => z_m100) q17 dX12_again_54 (fun Z18 H locs eZ18 hG => ?_)
    replace hw := hw Z18 eZ18
    obtain ⟨y19, ey19⟩ : ∃ y : Int32, y = x2 + 1 := ⟨_, rfl⟩
    replace hw := hw y19 ey19
    refine lv_iinc (v := y19) (lv' := [(2, .int y19), (0, .ref (E.2.1 97)), (1, .ref (E.2.1 u1))]) hx hb dX12_again_55 hl (k := 2) rfl (by rw [ey19]; rfl) (by decide) rfl (fun ls hl => ?_)
    refine lv_goto (tgt := 25) hx hb dX12_again_58 (by decide) ?_
    exact ih25 y19 Z18 _ _ _ hG (lv_sub hl [1, 2, 0] rfl) hw
  have J25 : ∀ n : Nat, ∀ (x2 : Int32) (Z : zS) (H : Heap) (locs : List Loc) (ls : Array Slot), zG E Z s H locs → lv_has ls 3 [(0, .ref (E.2.1 97)), (1, .ref (E.2.1 u1)), (2, .int x2)] → wX12_again_25 u1 nu1 K n x2 Z → W p l e R s m args below meth c H locs 0 0 (zQv E K below args s) (F0 m 25 ls []) := by
    intro n
    induction n with
    | zero => intro x2 Z H locs ls hG hl hw; exact hw.elim
    | succ n ih => intro x2 Z H locs ls hG hl hw; exact S25 _ ih x2 Z H locs ls hG hl hw
  have S2 : ∀ (L2 : Int32 → zS → Prop), (∀ (x2 : Int32) (Z : zS) (H : Heap) (locs : List Loc) (ls : Array Slot), zG E Z s H locs → lv_has ls 3 [(0, .ref (E.2.1 97)), (1, .ref (E.2.1 u1)), (2, .int x2)] → L2 x2 Z → W p l e R s m args below meth c H locs 0 0 (zQv E K below args s) (F0 m 2 ls [])) → ∀ (x2 : Int32) (Z : zS) (H : Heap) (locs : List Loc) (ls : Array Slot), zG E Z s H locs → lv_has ls 3 [(0, .ref (E.2.1 97)), (1, .ref (E.2.1 u1)), (2, .int x2)] → wX12_again_2b L2 u1 nu1 x2 Z K → W p l e R s m args below meth c H locs 0 0 (zQv E K below args s) (F0 m 2 ls []) := by
    intro L2 ih2
    intro x2 Z H locs ls hG hl hw
    unfold wX12_again_2b at hw
    refine lv_iload_n hx hb dX12_again_2 rfl (lv_at hl 2 rfl) ?_
    refine lv_bipush (v := 72) hx hb dX12_again_3 (by decide) ?_
    refine lv_icmp_ge (tgt := 23) hx hb dX12_again_5 (by decide) (fun c2 => ?_) (fun c2 => ?_)
    · replace hw := hw.1 c2
      refine lv_iconst (v := 0) hx hb dX12_again_23 (by decide) ?_
      refine lv_topi (fun y3 ey3 => ?_)
      replace hw := hw y3 ey3
      refine lv_istore_n (lv' := [(2, .int y3), (0, .ref (E.2.1 97)), (1, .ref (E.2.1 u1))]) hx hb dX12_again_24 rfl hl (by decide) rfl (fun ls hl => ?_)
      obtain ⟨n25, hw⟩ := hw
      exact J25 n25 y3 Z _ _ _ hG (lv_sub hl [1, 2, 0] rfl) hw
    replace hw := hw.2 c2
    refine lv_aload_n hx hb dX12_again_8 rfl (lv_at hl 0 rfl) ?_
    refine z_get hF hG 97 (by decide) z_md rfl in12 2 (by decide) (List.mem_of_getElem? (i := 1) rfl) rfl rfl dX12_again_9 ?_
    refine lv_iload_n hx hb dX12_again_12 rfl (lv_at hl 2 rfl) ?_
    refine lv_aload_n hx hb dX12_again_13 rfl (lv_at hl 1 rfl) ?_
    refine lv_iload_n hx hb dX12_again_14 rfl (lv_at hl 2 rfl) ?_
    obtain ⟨q4, hw⟩ := hw
    refine z_iald hF hG u1 hu1 (eu1 _) q4 dX12_again_15 ?_
    obtain ⟨q5, hw⟩ := hw
    refine z_iast hF hG 98 (by decide) (fun _ => z_m98) q5 dX12_again_16 (fun Z6 H locs eZ6 hG => ?_)
    replace hw := hw Z6 eZ6
    obtain ⟨y7, ey7⟩ : ∃ y : Int32, y = x2 + 1 := ⟨_, rfl⟩
    replace hw := hw y7 ey7
    refine lv_iinc (v := y7) (lv' := [(2, .int y7), (0, .ref (E.2.1 97)), (1, .ref (E.2.1 u1))]) hx hb dX12_again_17 hl (k := 2) rfl (by rw [ey7]; rfl) (by decide) rfl (fun ls hl => ?_)
    refine lv_goto (tgt := 2) hx hb dX12_again_20 (by decide) ?_
    exact ih2 y7 Z6 _ _ _ hG (lv_sub hl [1, 2, 0] rfl) hw
  have J2 : ∀ n : Nat, ∀ (x2 : Int32) (Z : zS) (H : Heap) (locs : List Loc) (ls : Array Slot), zG E Z s H locs → lv_has ls 3 [(0, .ref (E.2.1 97)), (1, .ref (E.2.1 u1)), (2, .int x2)] → wX12_again_2 u1 nu1 K n x2 Z → W p l e R s m args below meth c H locs 0 0 (zQv E K below args s) (F0 m 2 ls []) := by
    intro n
    induction n with
    | zero => intro x2 Z H locs ls hG hl hw; exact hw.elim
    | succ n ih => intro x2 Z H locs ls hG hl hw; exact S2 _ ih x2 Z H locs ls hG hl hw
  unfold wX12_again at hw
  refine lv_iconst (v := 0) hx hb dX12_again_0 (by decide) ?_
  refine lv_topi (fun y1 ey1 => ?_)
  replace hw := hw y1 ey1
  refine lv_istore_n (lv' := [(2, .int y1), (0, .ref (E.2.1 97)), (1, .ref (E.2.1 u1))]) hx hb dX12_again_1 rfl hl (by decide) rfl (fun ls hl => ?_)
  obtain ⟨n2, hw⟩ := hw
  exact J2 n2 y1 Z _ _ _ hG (lv_sub hl [1, 2, 0] rfl) hw
set_option maxHeartbeats 4000000 in
set_option maxRecDepth 100000 in
theorem kX12_keep (l : Launch) (E : zE) (Z : zS) (u1 : Nat) (nu1 : Nat) (hu1 : u1 < 112) (eu1 : ∀ f : Nat → Int32, zent E u1 f = .inl (E.2.2.1 0, nu1, .inl f)) {K : zS → Prop} (hw : wX12_keep u1 nu1 Z K) : zCv l yX12_keep wsX12_keep ({ frames := 0, cells := 0, slots := 0, locals := 0 } : Room) E Z [.ref (E.2.1 97), .ref (E.2.1 u1)] K := by
  refine z_bodyv (cc := cX12_keep) (nL := 3) (by decide) rfl (Nat.le_of_ble_eq_true rfl) ?_
  intro p e R s m args below meth c ls hfr hlo hF hr hlk hG hl
  have hx := hF.1.1
  have hb := hF.1.2.1
  have hown := hF.1.2.2.2.1
  have hts := hF.1.2.2.2.2
  have in12 : ∀ w ∈ u_ws RX12 TX12 22, w ∈ wsX12_keep := fun _ h => List.mem_cons_of_mem _ (List.mem_append_right _ h)
  have hl : lv_has ls 3 [(0, .ref (E.2.1 97)), (1, .ref (E.2.1 u1))] := hl
  have S25 : ∀ (L25 : Int32 → zS → Prop), (∀ (x2 : Int32) (Z : zS) (H : Heap) (locs : List Loc) (ls : Array Slot), zG E Z s H locs → lv_has ls 3 [(0, .ref (E.2.1 97)), (1, .ref (E.2.1 u1)), (2, .int x2)] → L25 x2 Z → W p l e R s m args below meth c H locs 0 0 (zQv E K below args s) (F0 m 25 ls [])) → ∀ (x2 : Int32) (Z : zS) (H : Heap) (locs : List Loc) (ls : Array Slot), zG E Z s H locs → lv_has ls 3 [(0, .ref (E.2.1 97)), (1, .ref (E.2.1 u1)), (2, .int x2)] → wX12_keep_25b L25 u1 nu1 x2 Z K → W p l e R s m args below meth c H locs 0 0 (zQv E K below args s) (F0 m 25 ls []) := by
    intro L25 ih25
    intro x2 Z H locs ls hG hl hw
    unfold wX12_keep_25b at hw
    refine lv_iload_n hx hb dX12_keep_25 rfl (lv_at hl 2 rfl) ?_
    refine lv_bipush (v := 24) hx hb dX12_keep_26 (by decide) ?_
    refine lv_icmp_ge (tgt := 61) hx hb dX12_keep_28 (by decide) (fun c8 => ?_) (fun c8 => ?_)
    · replace hw := hw.1 c8
      refine lv_aload_n hx hb dX12_keep_61 rfl (lv_at hl 1 rfl) ?_
      refine lv_bipush (v := 120) hx hb dX12_keep_62 (by decide) ?_
      refine lv_aload_n hx hb dX12_keep_64 rfl (lv_at hl 0 rfl) ?_
      refine z_get hF hG 97 (by decide) z_md rfl in12 0 (by decide) (List.mem_of_getElem? (i := 4) rfl) rfl rfl dX12_keep_65 ?_
      obtain ⟨q9, hw⟩ := hw
      refine z_iast hF hG u1 hu1 (fun _ => (eu1 _)) q9 dX12_keep_68 (fun Z10 H locs eZ10 hG => ?_)
      replace hw := hw Z10 eZ10
      refine lv_aload_n hx hb dX12_keep_69 rfl (lv_at hl 1 rfl) ?_
      refine lv_bipush (v := 121) hx hb dX12_keep_70 (by decide) ?_
      refine lv_aload_n hx hb dX12_keep_72 rfl (lv_at hl 0 rfl) ?_
      refine z_get hF hG 97 (by decide) z_md rfl in12 1 (by decide) (List.mem_of_getElem? (i := 5) rfl) rfl rfl dX12_keep_73 ?_
      obtain ⟨q11, hw⟩ := hw
      refine z_iast hF hG u1 hu1 (fun _ => (eu1 _)) q11 dX12_keep_76 (fun Z12 H locs eZ12 hG => ?_)
      replace hw := hw Z12 eZ12
      exact z_vret hF hG hr hlk hw dX12_keep_77
    replace hw := hw.2 c8
    refine lv_aload_n hx hb dX12_keep_31 rfl (lv_at hl 1 rfl) ?_
    refine lv_bipush (v := 72) hx hb dX12_keep_32 (by decide) ?_
    refine lv_iload_n hx hb dX12_keep_34 rfl (lv_at hl 2 rfl) ?_
    refine lv_iadd hx hb dX12_keep_35 ?_
    refine lv_aload_n hx hb dX12_keep_36 rfl (lv_at hl 0 rfl) ?_
    refine z_get hF hG 97 (by decide) z_md rfl in12 3 (by decide) (List.mem_of_getElem? (i := 2) rfl) rfl rfl dX12_keep_37 ?_
    refine lv_iload_n hx hb dX12_keep_40 rfl (lv_at hl 2 rfl) ?_
    obtain ⟨q13, hw⟩ := hw
    refine z_iald hF hG 99 (by decide) z_m99 q13 dX12_keep_41 ?_
    obtain ⟨q14, hw⟩ := hw
    refine z_iast hF hG u1 hu1 (fun _ => (eu1 _)) q14 dX12_keep_42 (fun Z15 H locs eZ15 hG => ?_)
    replace hw := hw Z15 eZ15
    refine lv_aload_n hx hb dX12_keep_43 rfl (lv_at hl 1 rfl) ?_
    refine lv_bipush (v := 96) hx hb dX12_keep_44 (by decide) ?_
    refine lv_iload_n hx hb dX12_keep_46 rfl (lv_at hl 2 rfl) ?_
    refine lv_iadd hx hb dX12_keep_47 ?_
    refine lv_aload_n hx hb dX12_keep_48 rfl (lv_at hl 0 rfl) ?_
    refine z_get hF hG 97 (by decide) z_md rfl in12 4 (by decide) (List.mem_of_getElem? (i := 3) rfl) rfl rfl dX12_keep_49 ?_
    refine lv_iload_n hx hb dX12_keep_52 rfl (lv_at hl 2 rfl) ?_
    obtain ⟨q16, hw⟩ := hw
    refine z_iald hF hG 100 (by decide) z_m100 q16 dX12_keep_53 ?_
    obtain ⟨q17, hw⟩ := hw
    refine z_iast hF hG u1 hu1 (fun _ => (eu1 _)) q17 dX12_keep_54 (fun Z18 H locs eZ18 hG => ?_)
    replace hw := hw Z18 eZ18
    obtain ⟨y19, ey19⟩ : ∃ y : Int32, y = x2 + 1 := ⟨_, rfl⟩
    replace hw := hw y19 ey19
    refine lv_iinc (v := y19) (lv' := [(2, .int y19), (0, .ref (E.2.1 97)), (1, .ref (E.2.1 u1))]) hx hb dX12_keep_55 hl (k := 2) rfl (by rw [ey19]; rfl) (by decide) rfl (fun ls hl => ?_)
    refine lv_goto (tgt := 25) hx hb dX12_keep_58 (by decide) ?_
    exact ih25 y19 Z18 _ _ _ hG (lv_sub hl [1, 2, 0] rfl) hw
  have J25 : ∀ n : Nat, ∀ (x2 : Int32) (Z : zS) (H : Heap) (locs : List Loc) (ls : Array Slot), zG E Z s H locs → lv_has ls 3 [(0, .ref (E.2.1 97)), (1, .ref (E.2.1 u1)), (2, .int x2)] → wX12_keep_25 u1 nu1 K n x2 Z → W p l e R s m args below meth c H locs 0 0 (zQv E K below args s) (F0 m 25 ls []) := by
    intro n
    induction n with
    | zero => intro x2 Z H locs ls hG hl hw; exact hw.elim
    | succ n ih => intro x2 Z H locs ls hG hl hw; exact S25 _ ih x2 Z H locs ls hG hl hw
  have S2 : ∀ (L2 : Int32 → zS → Prop), (∀ (x2 : Int32) (Z : zS) (H : Heap) (locs : List Loc) (ls : Array Slot), zG E Z s H locs → lv_has ls 3 [(0, .ref (E.2.1 97)), (1, .ref (E.2.1 u1)), (2, .int x2)] → L2 x2 Z → W p l e R s m args below meth c H locs 0 0 (zQv E K below args s) (F0 m 2 ls [])) → ∀ (x2 : Int32) (Z : zS) (H : Heap) (locs : List Loc) (ls : Array Slot), zG E Z s H locs → lv_has ls 3 [(0, .ref (E.2.1 97)), (1, .ref (E.2.1 u1)), (2, .int x2)] → wX12_keep_2b L2 u1 nu1 x2 Z K → W p l e R s m args below meth c H locs 0 0 (zQv E K below args s) (F0 m 2 ls []) := by
    intro L2 ih2
    intro x2 Z H locs ls hG hl hw
    unfold wX12_keep_2b at hw
    refine lv_iload_n hx hb dX12_keep_2 rfl (lv_at hl 2 rfl) ?_
    refine lv_bipush (v := 72) hx hb dX12_keep_3 (by decide) ?_
    refine lv_icmp_ge (tgt := 23) hx hb dX12_keep_5 (by decide) (fun c2 => ?_) (fun c2 => ?_)
    · replace hw := hw.1 c2
      refine lv_iconst (v := 0) hx hb dX12_keep_23 (by decide) ?_
      refine lv_topi (fun y3 ey3 => ?_)
      replace hw := hw y3 ey3
      refine lv_istore_n (lv' := [(2, .int y3), (0, .ref (E.2.1 97)), (1, .ref (E.2.1 u1))]) hx hb dX12_keep_24 rfl hl (by decide) rfl (fun ls hl => ?_)
      obtain ⟨n25, hw⟩ := hw
      exact J25 n25 y3 Z _ _ _ hG (lv_sub hl [1, 2, 0] rfl) hw
    replace hw := hw.2 c2
    refine lv_aload_n hx hb dX12_keep_8 rfl (lv_at hl 1 rfl) ?_
    refine lv_iload_n hx hb dX12_keep_9 rfl (lv_at hl 2 rfl) ?_
    refine lv_aload_n hx hb dX12_keep_10 rfl (lv_at hl 0 rfl) ?_
    refine z_get hF hG 97 (by decide) z_md rfl in12 2 (by decide) (List.mem_of_getElem? (i := 1) rfl) rfl rfl dX12_keep_11 ?_
    refine lv_iload_n hx hb dX12_keep_14 rfl (lv_at hl 2 rfl) ?_
    obtain ⟨q4, hw⟩ := hw
    refine z_iald hF hG 98 (by decide) z_m98 q4 dX12_keep_15 ?_
    obtain ⟨q5, hw⟩ := hw
    refine z_iast hF hG u1 hu1 (fun _ => (eu1 _)) q5 dX12_keep_16 (fun Z6 H locs eZ6 hG => ?_)
    replace hw := hw Z6 eZ6
    obtain ⟨y7, ey7⟩ : ∃ y : Int32, y = x2 + 1 := ⟨_, rfl⟩
    replace hw := hw y7 ey7
    refine lv_iinc (v := y7) (lv' := [(2, .int y7), (0, .ref (E.2.1 97)), (1, .ref (E.2.1 u1))]) hx hb dX12_keep_17 hl (k := 2) rfl (by rw [ey7]; rfl) (by decide) rfl (fun ls hl => ?_)
    refine lv_goto (tgt := 2) hx hb dX12_keep_20 (by decide) ?_
    exact ih2 y7 Z6 _ _ _ hG (lv_sub hl [1, 2, 0] rfl) hw
  have J2 : ∀ n : Nat, ∀ (x2 : Int32) (Z : zS) (H : Heap) (locs : List Loc) (ls : Array Slot), zG E Z s H locs → lv_has ls 3 [(0, .ref (E.2.1 97)), (1, .ref (E.2.1 u1)), (2, .int x2)] → wX12_keep_2 u1 nu1 K n x2 Z → W p l e R s m args below meth c H locs 0 0 (zQv E K below args s) (F0 m 2 ls []) := by
    intro n
    induction n with
    | zero => intro x2 Z H locs ls hG hl hw; exact hw.elim
    | succ n ih => intro x2 Z H locs ls hG hl hw; exact S2 _ ih x2 Z H locs ls hG hl hw
  unfold wX12_keep at hw
  refine lv_iconst (v := 0) hx hb dX12_keep_0 (by decide) ?_
  refine lv_topi (fun y1 ey1 => ?_)
  replace hw := hw y1 ey1
  refine lv_istore_n (lv' := [(2, .int y1), (0, .ref (E.2.1 97)), (1, .ref (E.2.1 u1))]) hx hb dX12_keep_1 rfl hl (by decide) rfl (fun ls hl => ?_)
  obtain ⟨n2, hw⟩ := hw
  exact J2 n2 y1 Z _ _ _ hG (lv_sub hl [1, 2, 0] rfl) hw
