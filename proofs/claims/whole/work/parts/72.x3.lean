/-! element and toss of the class, L_element of the law -/
section ZXC
variable {p : Program} {l : Launch} {e : Env} {R : Room} {s : State} {m : MethodId} {args : Array Value} {below : List Frame} {meth : Method} {c : Code} {H : Heap} {locs : List Loc} {cells slots : Nat} {Q : State → Prop}
variable {cc : ByteArray} {pc nL mc ms : Nat} {ls : Array Slot} {rest : List Value} {E : zE} {Z : zS} {Ts : List Cond} {own : String}
theorem zx_cv {K : zS → Prop} {KX : String → zS → Prop} {st0 : List Value} {a : Array Value} (hr : vx_Run p l e R s m args below meth c H locs cells slots mc ms (F0 m pc ls st0) rest (va_Qv K (zB E) (zA E H.size) a) (zXC E KX H.size) (zA E H.size)) (hG : zG E Z s H locs)
    (kx : ∀ (nm : String) (ce : Cell) (q9 : Addr) (Z' : zS) (H' : Heap) (locs' : List Loc), KX nm Z' → zG E Z' s H' locs' → H'[q9]? = some ce → ce.vm = .none → s.vm.findClass nm = some ce.cls → vx_W p l e R s m args below meth c H' locs' (cells + mc) (slots + ms) Q (F0 m pc ls rest) q9)
    (kk : ∀ (Z' : zS) (H' : Heap) (locs' : List Loc), K Z' → zG E Z' s H' locs' → W p l e R s m args below meth c H' locs' (cells + mc) (slots + ms) Q (F0 m (pc + 3) ls rest)) : W p l e R s m args below meth c H locs cells slots Q (F0 m pc ls st0) :=
  vx_callv hr hG.2 (fun q _ h => zA_free hG q h) (zA_free hG) (fun q _ h => zA_free hG q h)
    (fun E9 ce q9 u t H1 locs1 ht _ _ hB _ _ hS h1 h2 h3 => kx E9 ce q9 u H1 locs1 hB.1 ⟨by rw [← ht]; exact hB.2, hS⟩ h1 h2 h3)
    (fun u t H1 locs1 ht _ hk hB _ _ hS => kk u H1 locs1 hk ⟨by rw [← ht]; exact hB, hS⟩)
theorem zx_cl {K : Int64 → zS → Prop} {KX : String → zS → Prop} {st0 : List Value} {a : Array Value} (hr : vx_Run p l e R s m args below meth c H locs cells slots mc ms (F0 m pc ls st0) rest (va_Ql K (zB E) (zA E H.size) a) (zXC E KX H.size) (zA E H.size)) (hG : zG E Z s H locs)
    (kx : ∀ (nm : String) (ce : Cell) (q9 : Addr) (Z' : zS) (H' : Heap) (locs' : List Loc), KX nm Z' → zG E Z' s H' locs' → H'[q9]? = some ce → ce.vm = .none → s.vm.findClass nm = some ce.cls → vx_W p l e R s m args below meth c H' locs' (cells + mc) (slots + ms) Q (F0 m pc ls rest) q9)
    (kk : ∀ (r : Int64) (Z' : zS) (H' : Heap) (locs' : List Loc), K r Z' → zG E Z' s H' locs' → W p l e R s m args below meth c H' locs' (cells + mc) (slots + ms) Q (F0 m (pc + 3) ls (.long r :: rest))) : W p l e R s m args below meth c H locs cells slots Q (F0 m pc ls st0) :=
  vx_calll hr hG.2 (fun q _ h => zA_free hG q h) (zA_free hG) (fun q _ h => zA_free hG q h)
    (fun E9 ce q9 u t H1 locs1 ht _ _ hB _ _ hS h1 h2 h3 => kx E9 ce q9 u H1 locs1 hB.1 ⟨by rw [← ht]; exact hB.2, hS⟩ h1 h2 h3)
    (fun r u t H1 locs1 ht _ hk hB _ _ hS => kk r u H1 locs1 hk ⟨by rw [← ht]; exact hB, hS⟩)
theorem zx_ci {K : Int32 → zS → Prop} {st0 : List Value} {a : Array Value} (hr : va_Run p l e R s m args below meth c H locs cells slots mc ms (F0 m pc ls st0) rest (va_Qi K (zB E) (zA E H.size) a) (zA E H.size)) (hG : zG E Z s H locs)
    (kk : ∀ (r : Int32) (Z' : zS) (H' : Heap) (locs' : List Loc), K r Z' → zG E Z' s H' locs' → W p l e R s m args below meth c H' locs' (cells + mc) (slots + ms) Q (F0 m (pc + 3) ls (.int r :: rest))) : W p l e R s m args below meth c H locs cells slots Q (F0 m pc ls st0) :=
  va_calli hr hG.2 (fun q _ h => zA_free hG q h) (zA_free hG) (fun r u t H1 locs1 ht _ hk hB _ _ hS => kk r u H1 locs1 hk ⟨by rw [← ht]; exact hB, hS⟩)
theorem zx_iret {K : Int32 → zS → Prop} {r : Int32} (hF : zFx p m c cc nL s args Ts own E) (hG : zG E Z s H locs) (hr : meth.sig.returnType = some .int) (hlk : meth.locks = false) (hc : cells ≤ mc) (hs : slots ≤ ms) (hw : K r Z) (hdg : decode cc pc = .ok (.ireturn, 1)) : W p l e R s m args below meth c H locs cells slots (MQ below (va_Qi K (zB E) (zA E s.heap.size)) args s mc ms (zA E s.heap.size)) (F0 m pc ls [.int r]) :=
  W.widen hc hs (W.iret (v := r) hF.1.1 hF.1.2.1 hr (fun t ht _ => ⟨⟨r, Z, rfl, hw, (show va_P E.1 vwCl (zw E Z) t.heap by rw [ht]; exact hG.1)⟩, hG.2.F ht⟩) hG.2.2.2 hdg hlk)
theorem zx_lret {K : Int64 → zS → Prop} {r : Int64} (hF : zFx p m c cc nL s args Ts own E) (hG : zG E Z s H locs) (hr : meth.sig.returnType = some .long) (hlk : meth.locks = false) (hc : cells ≤ mc) (hs : slots ≤ ms) (hw : K r Z) (hdg : decode cc pc = .ok (.lreturn, 1)) : W p l e R s m args below meth c H locs cells slots (MQ below (va_Ql K (zB E) (zA E s.heap.size)) args s mc ms (zA E s.heap.size)) (F0 m pc ls [.long r]) :=
  W.widen hc hs (W.lret (v := r) hF.1.1 hF.1.2.1 hr (fun t ht _ => ⟨⟨r, Z, rfl, hw, (show va_P E.1 vwCl (zw E Z) t.heap by rw [ht]; exact hG.1)⟩, hG.2.F ht⟩) hG.2.2.2 hdg hlk)
end ZXC
section ZXB
variable {l : Launch} {y : MethodName} {ws ws' : List Cond} {rm : Room} {E : zE} {Z : zS} {av : List Value} {cc : ByteArray} {nL : Nat}
theorem zx_bodyW {ret : Option FieldType} {Qc : Array Value → State → Outcome → State → Prop} {mc ms : Nat} {free : Addr → Prop} {sz : Nat} {hh : List (Nat × Nat × Nat × Nat)} (hy : plainName y.cls = true) (hw : ws = Cond.codeWith y cc nL ret hh :: ws') (hle : (lg_sl av).length ≤ nL)
    (body : ∀ (p : Program) (e : Env) (R : Room) (s : State) (m : MethodId) (args : Array Value) (below : List Frame) (meth : Method) (c : Code) (ls : Array Slot), rm.frames ≤ R.frames → rm.locals ≤ R.locals → rm.cells ≤ R.cells → rm.slots ≤ R.slots → zFx p m c cc nL s args ws y.cls E → zXe (zA E s.heap.size) s s.heap → meth.sig.returnType = ret → meth.locks = false → c.exceptionTable.toList = tableOf hh → s.heap.size = sz → zG E Z s s.heap [] → lv_has ls nL (lv_args 0 av) → W p l e R s m args below meth c s.heap [] 0 0 (MQ below Qc args s mc ms free) (F0 m 0 ls [])) : Met l y ws rm (va_Pc av (zPreX E Z sz)) Qc mc ms free := by
  refine va_MetW (cc := cc) (maxL := nL) (ret := ret) (hh := hh) hy hw ?_
  intro p e s m args below meth c s₁ B hml hv
  obtain ⟨rfl, ⟨hsz, hP, hK, hN, hI⟩, hXe⟩ := hv
  subst hsz
  have hts := atoms_spec (ws := ws) B.pre
  have htab : c.exceptionTable.toList = tableOf hh := vx_table (x := y) B (hts _ (by rw [hw]; exact List.mem_cons_self))
  rw [lg_entry_eq]
  exact body p e _ s m _ below meth c _ (Nat.le_refl _) (Nat.le_refl _) (Nat.le_refl _) (Nat.le_refl _) ⟨⟨B.exec, B.bytes, hml, findClass_of_methodNamed B.named, hts⟩, hK, hN, hI⟩ hXe B.returns B.notSynchronized htab rfl ⟨hP, va_S.rf⟩ (lv_entry av hle)
end ZXB
theorem zbXa : ∀ w ∈ (vx_atS RX11 377 zIAE zXn).filter (fun w => !goodWord w), w ∈ zXW := by decide +kernel
theorem zgXa : ∀ w ∈ Cond.classLink RX11 373 zIAE :: Cond.initialized zIAE :: vx_atS RX11 377 zIAE zXn, vx_ot w = true := by decide +kernel
theorem zbXs : ∀ w ∈ (vx_atS RX11 384 zISE zXn).filter (fun w => !goodWord w), w ∈ zXW := by decide +kernel
theorem zgXs : ∀ w ∈ Cond.classLink RX11 380 zISE :: Cond.initialized zISE :: vx_atS RX11 384 zISE zXn, vx_ot w = true := by decide +kernel
def wElem (a1 a2 : Int32) (Z : zS) (K : Int64 → zS → Prop) (KX : String → zS → Prop) : Prop := wX11_isShelf a1 Z (fun r Z1 => (¬ r = 0 → vp_in a1 8 ∧ (¬ Z1 (60 + a1.toNatClampNeg) 0 = 2 → KX zISE Z1) ∧ (¬ ¬ Z1 (60 + a1.toNatClampNeg) 0 = 2 → wX6_hasPlaces a1.toNatClampNeg a2 1 Z1 (fun r2 Z2 => (¬ r2 = 0 → wX6_at a1.toNatClampNeg a2 Z2 (fun r3 Z3 => K (Int32.toInt64 r3) Z3)) ∧ (¬ ¬ r2 = 0 → KX zISE Z2)))) ∧ (¬ ¬ r = 0 → KX zIAE Z1))
abbrev zeR : Room := { frames := 6, cells := 1, slots := 6, locals := 82 }
set_option maxHeartbeats 4000000 in
theorem kX11_element (l : Launch) (hfl : l.flags = flags0) (E : zE) (Z : zS) (a1 a2 : Int32) {K : Int64 → zS → Prop} {KX : String → zS → Prop} (hw : wElem a1 a2 Z K KX) (sz : Nat) : vx_Met l yX11_element wsX11_element zeR (va_Pc [.ref (E.2.1 96), .int a1, .int a2] (zPreX E Z sz)) (va_Ql K (zB E) (zA E sz)) (zXC E KX sz) 1 6 (zA E sz) := by
  refine zx_body (cc := cX11_element) (nL := 3) (ret := some .long) (by decide) rfl (Nat.le_of_ble_eq_true rfl) ?_
  intro p e R s m args below meth c ls hfr hlo hce hsl hF hX hr hlk htab hsz hG hl
  subst hsz
  have hx := hF.1.1
  have hb := hF.1.2.1
  have hts := hF.1.2.2.2.2
  have in6 : ∀ w ∈ u_ws RX6 TX6 6, w ∈ wsX11_element := fun _ h => List.mem_cons_of_mem _ (List.mem_append_left _ (List.mem_append_left _ (List.mem_append_right _ h)))
  have in11 : ∀ w ∈ u_ws RX11 TX11 11, w ∈ wsX11_element := fun _ h => List.mem_cons_of_mem _ (List.mem_append_left _ (List.mem_append_left _ (List.mem_append_left _ (List.mem_append_right _ h))))
  have hl : lv_has ls 3 [(0, .ref (E.2.1 96)), (1, .int a1), (2, .int a2)] := hl
  obtain ⟨⟨sa, hsa⟩, ⟨sb, hsb⟩⟩ := hX.2.2.2.2
  unfold wElem at hw
  refine lv_iload_n hx hb dX11_element_0 rfl (lv_at hl 1 rfl) ?_
  refine z_ci (va_runS (rest := []) hF.1 (kX11_isShelf l E Z a1 hw _) (va_cwS 1 hts gX11_element_X11_isShelf rfl rfl rfl hS_yX11_isShelf ⟨Nat.le_trans (Nat.le_of_ble_eq_true rfl) hfr, Nat.le_trans (Nat.le_of_ble_eq_true rfl) hlo⟩) (z_preS hF hG) rfl rfl hl.1 rfl (lv_room (Nat.le_of_ble_eq_true rfl)) dX11_element_1 ⟨Nat.zero_le _, Nat.zero_le _⟩) hG (fun r2 Z1 H locs hw hG => ?_)
  refine lv_if_ne (tgt := 18) hx hb dX11_element_4 (by decide) (fun c3 => ?_) (fun c3 => ?_)
  · obtain ⟨q4, hw⟩ := hw.1 c3
    refine lv_aload_n hx hb dX11_element_18 rfl (lv_at hl 0 rfl) ?_
    refine z_get hF hG 96 (by decide) z_gs rfl in11 5 (by decide) (List.mem_of_getElem? (i := 5) rfl) rfl rfl dX11_element_19 ?_
    refine lv_iload_n hx hb dX11_element_22 rfl (lv_at hl 1 rfl) ?_
    refine z_aald hF hG 91 2 (by decide) z_shelves rfl q4 rfl dX11_element_23 ?_
    refine z_get hF hG (60 + (a1 : Int32).toNatClampNeg) (zc_sh (z_ib q4)) (z_sh (z_ib q4)) rfl in6 0 (by decide) (List.mem_of_getElem? (i := 6) rfl) rfl rfl dX11_element_24 ?_
    refine lv_iconst (v := 2) hx hb dX11_element_27 (by decide) ?_
    have thr : ∀ (H : Heap) (locs : List Loc) (Z2 : zS), zG E Z2 s H locs → KX zISE Z2 → W p l e R s m args below meth c H locs 0 0 (vx_MQ below (va_Ql K (zB E) (zA E s.heap.size)) (zXC E KX s.heap.size) args s 1 6 (zA E s.heap.size)) (F0 m 45 ls []) := fun H locs Z2 hG hk =>
      vx_throwSW hx hb (zx_tr hfl) (own := RX11) (cls := zISE) (text := "no ROW, or no such place") (names := zXn) (ik := 380) (is := 382) (ic := 384) (sa := sb) (A := zA E s.heap.size) hF.1.2.2.2.1 (by decide) (by decide)
        (hts _ (List.mem_of_getElem? (i := 3) rfl)) (hts _ (List.mem_of_getElem? (i := 4) rfl)) hsb (zXf zbXs (fun w h => hts w (List.mem_cons_of_mem _ (List.mem_append_right _ h))) hX.2.2.1) zgXs hX.1 hX.2.1 hG.2 (hl.1.trans hF.1.2.2.1.symm)
        dX11_element_45 dX11_element_48 dX11_element_49 dX11_element_52 dX11_element_55 (fun q hq => (htab q hq).elim) (Nat.lt_of_lt_of_le (by decide) hfr) (Nat.le_trans (by decide) hlo) (by rw [Nat.zero_add]; exact hce) (by rw [Nat.zero_add]; exact hsl) hlk
        (fun t _ h1 h2 => zx_C hG hk t h1 h2) hG.2.2.2 (Nat.le_refl _) (Nat.le_refl _)
    refine lv_icmp_ne (tgt := 45) hx hb dX11_element_28 (by decide) (fun c5 => ?_) (fun c5 => ?_)
    · exact thr H locs Z1 hG (hw.1 c5)
    replace hw := hw.2 (fun h => h c5)
    refine lv_aload_n hx hb dX11_element_31 rfl (lv_at hl 0 rfl) ?_
    refine z_get hF hG 96 (by decide) z_gs rfl in11 5 (by decide) (List.mem_of_getElem? (i := 5) rfl) rfl rfl dX11_element_32 ?_
    refine lv_iload_n hx hb dX11_element_35 rfl (lv_at hl 1 rfl) ?_
    refine z_aald hF hG 91 2 (by decide) z_shelves rfl q4 rfl dX11_element_36 ?_
    refine lv_iload_n hx hb dX11_element_37 rfl (lv_at hl 2 rfl) ?_
    refine lv_iconst (v := 1) hx hb dX11_element_38 (by decide) ?_
    refine z_ci (va_runV (rest := []) hF.1 (kX6_hasPlaces l E Z1 ((a1 : Int32).toNatClampNeg) a2 1 (z_ib q4) hw _) (cwV 2 hts gX11_element_X6_hasPlaces rfl rfl rfl ⟨rfl, hS_yX6_hasPlaces⟩ ⟨Nat.le_trans (Nat.le_of_ble_eq_true rfl) hfr, Nat.le_trans (Nat.le_of_ble_eq_true rfl) hlo⟩) (z_preV hF hG (60 + (a1 : Int32).toNatClampNeg) (zc_sh (z_ib q4)) (z_sh (z_ib q4)) rfl) rfl rfl hl.1 rfl (lv_room (Nat.le_of_ble_eq_true rfl)) dX11_element_39 ⟨Nat.zero_le _, Nat.zero_le _⟩) hG (fun r6 Z2 H locs hw hG => ?_)
    refine lv_if_ne (tgt := 56) hx hb dX11_element_42 (by decide) (fun c7 => ?_) (fun c7 => ?_)
    · replace hw := hw.1 c7
      refine lv_aload_n hx hb dX11_element_56 rfl (lv_at hl 0 rfl) ?_
      refine z_get hF hG 96 (by decide) z_gs rfl in11 5 (by decide) (List.mem_of_getElem? (i := 5) rfl) rfl rfl dX11_element_57 ?_
      refine lv_iload_n hx hb dX11_element_60 rfl (lv_at hl 1 rfl) ?_
      refine z_aald hF hG 91 2 (by decide) z_shelves rfl q4 rfl dX11_element_61 ?_
      refine lv_iload_n hx hb dX11_element_62 rfl (lv_at hl 2 rfl) ?_
      refine z_ci (va_runV (rest := []) hF.1 (kX6_at l E Z2 ((a1 : Int32).toNatClampNeg) a2 (z_ib q4) hw _) (cwV 1 hts gX11_element_X6_at rfl rfl rfl ⟨rfl, hS_yX6_at⟩ ⟨Nat.le_trans (Nat.le_of_ble_eq_true rfl) hfr, Nat.le_trans (Nat.le_of_ble_eq_true rfl) hlo⟩) (z_preV hF hG (60 + (a1 : Int32).toNatClampNeg) (zc_sh (z_ib q4)) (z_sh (z_ib q4)) rfl) rfl rfl hl.1 rfl (lv_room (Nat.le_of_ble_eq_true rfl)) dX11_element_63 ⟨Nat.zero_le _, Nat.zero_le _⟩) hG (fun r8 Z3 H locs hw hG => ?_)
      refine lv_i2l hx hb dX11_element_66 rfl ?_
      exact vx_ret (zx_lret hF hG hr hlk (Nat.zero_le _) (Nat.zero_le _) hw dX11_element_67)
    exact thr H locs Z2 hG (hw.2 (fun h => h c7))
  · exact vx_throwSW hx hb (zx_tr hfl) (own := RX11) (cls := zIAE) (text := "no such SHELF") (names := zXn) (ik := 373) (is := 375) (ic := 377) (sa := sa) (A := zA E s.heap.size) hF.1.2.2.2.1 (by decide) (by decide)
      (hts _ (List.mem_of_getElem? (i := 1) rfl)) (hts _ (List.mem_of_getElem? (i := 2) rfl)) hsa (zXf zbXa (fun w h => hts w (List.mem_cons_of_mem _ (List.mem_append_left _ (List.mem_append_right _ h)))) hX.2.2.1) zgXa hX.1 hX.2.1 hG.2 (hl.1.trans hF.1.2.2.1.symm)
      dX11_element_7 dX11_element_10 dX11_element_11 dX11_element_14 dX11_element_17 (fun q hq => (htab q hq).elim) (Nat.lt_of_lt_of_le (by decide) hfr) (Nat.le_trans (by decide) hlo) (by rw [Nat.zero_add]; exact hce) (by rw [Nat.zero_add]; exact hsl) hlk
      (fun t _ h1 h2 => zx_C hG (hw.2 (fun h => h c3)) t h1 h2) hG.2.2.2 (Nat.le_refl _) (Nat.le_refl _)
