/-! the law's own static helper: element, its two exceptions caught -/
abbrev zlR : Room := { frames := 7, cells := 1, slots := 6, locals := 104 }
def zEo (E : zE) (x : Int64) : zE := (E.1, E.2.1, E.2.2.1, x)
theorem zent_o {E : zE} {x : Int64} {i : Nat} {f : Nat → Int32} (h : i < 112) (h1 : i ≠ 111) : zent (zEo E x) i f = zent E i f := by
  unfold zent
  repeat (refine ite_congr rfl (fun _ => rfl) (fun _ => ?_))
  exfalso
  omega
theorem zw_o {E : zE} {Z : zS} {x : Int64} {g : Nat → Int64} {H : Heap} (hg : g 0 = x) (hP : va_P E.1 vwCl ((zw E Z).set 111 (E.2.1 111, .inl (E.2.2.1 5, 1, .inr (.inl g)))) H) : va_P E.1 vwCl (zw (zEo E x) Z) H := by
  intro k q hk
  obtain ⟨hk1, rfl⟩ := zw_in hk
  by_cases h : k = 111
  · subst h
    have h1 := hP 111 (E.2.1 111, .inl (E.2.2.1 5, 1, .inr (.inl g))) (by rw [List.getElem?_set_self (by rw [zw_len]; decide)])
    have h2 : H[E.2.1 111]? = some (vp_cell (E.2.2.1 5) (1, .inr (.inl g))) := h1
    show H[E.2.1 111]? = some (vp_cell (E.2.2.1 5) (1, .inr (.inl (fun _ => x))))
    rw [h2, ← hg]
    rfl
  · have h1 := hP k (E.2.1 k, zent E k (Z k)) (by rw [List.getElem?_set_ne (fun e => h e.symm), zw_at hk1])
    rw [zent_o hk1 h]
    exact h1
theorem hS_yX11_element : yX11_element.cls ≠ "java/lang/invoke/MethodHandle" ∧ yX11_element.cls ≠ "java/lang/invoke/VarHandle" ∧ (parseMethodDescriptor yX11_element.desc).map (fun d => d.parameters.length) = some 2 := by decide +kernel
set_option maxHeartbeats 4000000 in
theorem kL_element (l : Launch) (hfl : l.flags = flags0) (E : zE) (Z : zS) (a1 a2 : Int32) {K : Int32 → Int64 × zS → Prop} (hw : wElem a1 a2 Z (fun r Z1 => K 0 (r, Z1)) (fun nm Z1 => (nm = zIAE ∧ K 1 (E.2.2.2, Z1)) ∨ (nm = zISE ∧ K 2 (E.2.2.2, Z1)))) (sz : Nat) : Met l yL_element wsL_element zlR (va_Pc [.ref (E.2.1 96), .int a1, .int a2, .ref (E.2.1 111)] (zPreX E Z sz)) (va_Qi K (fun u t => zB (zEo E u.1) u.2 t) (zA E sz)) 1 6 (zA E sz) := by
  refine zx_bodyW (cc := cL_element) (nL := 5) (ret := some .int) (hh := [(0, 9, 12, 13), (0, 9, 16, 15)]) (by decide) rfl (Nat.le_of_ble_eq_true rfl) ?_
  intro p e R s m args below meth c ls hfr hlo hce hsl hF hX hr hlk htab hsz hG hl
  subst hsz
  have hx := hF.1.1
  have hb := hF.1.2.1
  have hown := hF.1.2.2.2.1
  have hts := hF.1.2.2.2.2
  have hl : lv_has ls 5 [(0, .ref (E.2.1 96)), (1, .int a1), (2, .int a2), (3, .ref (E.2.1 111))] := hl
  have fin : ∀ (v : Int32) (pc : Nat) (x : Int64) (Z2 : zS) (H : Heap) (locs : List Loc) (ls : Array Slot), va_P E.1 vwCl (zw (zEo E x) Z2) H → va_S (zA E s.heap.size) s.heap H locs → K v (x, Z2) → decode cL_element pc = .ok (.ireturn, 1) → W p l e R s m args below meth c H locs (0 + 1) (0 + 6) (MQ below (va_Qi K (fun u t => zB (zEo E u.1) u.2 t) (zA E s.heap.size)) args s 1 6 (zA E s.heap.size)) (F0 m pc ls [.int v]) := fun v pc x Z2 H locs ls hP hS hk hd =>
    W.iret (v := v) hx hb hr (fun t ht _ => ⟨⟨v, (x, Z2), rfl, hk, (show va_P E.1 vwCl (zw (zEo E x) Z2) t.heap by rw [ht]; exact hP)⟩, hS.F ht⟩) hS.2.2 hd hlk
  have cl0 := hts _ (List.mem_of_getElem? (i := 1) rfl)
  have cl1 := hts _ (List.mem_of_getElem? (i := 2) rfl)
  have hcs := hX.2.2.1.use args
  obtain ⟨n1, n2, n3, n4⟩ := hX.2.2.2.1
  refine lv_aload_n hx hb dL_element_0 rfl (lv_at hl 3 rfl) ?_
  refine lv_iconst (v := 0) hx hb dL_element_1 (by decide) ?_
  refine lv_aload_n hx hb dL_element_2 rfl (lv_at hl 0 rfl) ?_
  refine lv_iload_n hx hb dL_element_3 rfl (lv_at hl 1 rfl) ?_
  refine lv_iload_n hx hb dL_element_4 rfl (lv_at hl 2 rfl) ?_
  refine zx_cl (vx_runV (rest := [.int 0, .ref (E.2.1 111)]) hF.1 (kX11_element l hfl E Z a1 a2 hw _) (cwV 2 hts gL_element_X11_element rfl rfl rfl ⟨rfl, hS_yX11_element⟩ ⟨Nat.le_trans (Nat.le_of_ble_eq_true rfl) hfr, Nat.le_trans (Nat.le_of_ble_eq_true rfl) hlo⟩) (zx_preV hF hX hG 96 (by decide) z_gs rfl) rfl rfl hl.1 rfl (lv_room (Nat.le_of_ble_eq_true rfl)) dL_element_5 ⟨by rw [Nat.zero_add]; exact hce, by rw [Nat.zero_add]; exact hsl⟩) hG (fun nm ce q9 Z2 H locs hk hG h1 h2 h3 => ?_) (fun r Z2 H locs hk hG => ?_)
  · have hP : va_P E.1 vwCl (zw (zEo E E.2.2.2) Z2) H := hG.1
    rcases hk with ⟨rfl, hk⟩ | ⟨rfl, hk⟩
    · refine vx_catch (pc := 5) hown [] ⟨0, 9, 12, 13⟩ [⟨0, 9, 16, 15⟩] htab (fun _ h => absurd h List.not_mem_nil) rfl (by decide) cl0 (hcs _ (List.mem_of_getElem? (i := 6) rfl)) h1 h2 h3 ?_
      refine lv_astore (lv' := [(4, .ref q9), (0, .ref (E.2.1 96)), (1, .int a1), (2, .int a2), (3, .ref (E.2.1 111))]) hx hb dL_element_12 hl (by decide) rfl (fun ls hl => ?_)
      refine lv_iconst (v := 1) hx hb dL_element_14 (by decide) ?_
      exact fin 1 15 _ _ _ _ _ hP hG.2 hk dL_element_15
    · refine vx_catch (pc := 5) hown [⟨0, 9, 12, 13⟩] ⟨0, 9, 16, 15⟩ [] htab (List.forall_mem_cons.mpr ⟨Or.inr ⟨by decide, zIAE, cl0, n4⟩, fun _ h => absurd h List.not_mem_nil⟩) rfl (by decide) cl1 (hcs _ (List.mem_of_getElem? (i := 7) rfl)) h1 h2 h3 ?_
      refine lv_astore (lv' := [(4, .ref q9), (0, .ref (E.2.1 96)), (1, .int a1), (2, .int a2), (3, .ref (E.2.1 111))]) hx hb dL_element_16 hl (by decide) rfl (fun ls hl => ?_)
      refine lv_iconst (v := 2) hx hb dL_element_18 (by decide) ?_
      exact fin 2 19 _ _ _ _ _ hP hG.2 hk dL_element_19
  · refine va_last hx hb hF.2.1 hG.1 (zw_D hF.2.2.2 s.heap.size) hG.2 111 5 (n := 1) (f := fun _ => E.2.2.2) (by rw [zw_at (by decide)]; rfl) rfl (show vp_in 0 1 by unfold vp_in; decide) dL_element_8 (fun H1 locs1 hP _ hS => ?_)
    refine lv_goto (tgt := 20) hx hb dL_element_9 (by decide) ?_
    refine lv_iconst (v := 0) hx hb dL_element_20 (by decide) ?_
    exact fin 0 21 _ _ _ _ _ (zw_o rfl hP) hS hk dL_element_21
