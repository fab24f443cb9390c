/-! the fail methods; calls of a method that throws by a class that only inherits or overrides it -/
def zfK (x a1 : Int32) (Z : zS) : zS → Prop := fun Z1 => Z1 = Z ∧ (a1 = 0 ∨ x = 2)
def zfX (x a1 : Int32) (Z : zS) : String → zS → Prop := fun nm Z1 => Z1 = Z ∧ a1 ≠ 0 ∧ ((x = 0 ∧ nm = zISE) ∨ ((x = 1 ∨ x = 3 ∨ x = 4) ∧ nm = zIAE) ∨ (x = 5 ∧ nm = zUOE))
abbrev zfR : Room := { frames := 6, cells := 1, slots := 6, locals := 81 }
set_option maxHeartbeats 1000000 in
theorem kX0_fail (l : Launch) (hfl : l.flags = flags0) (E : zE) (Z : zS) (b : Nat) (x a1 : Int32) (hx0 : x = 1 ∨ x = 3 ∨ x = 4) : zVX l yX0_fail wsX0_fail zfR E Z [.ref b, .int a1] (zfK x a1 Z) (zfX x a1 Z) 1 6 := by
  intro sz
  refine zx_body (cc := cX0_fail) (nL := 2) (ret := none) (by decide) rfl (Nat.le_of_ble_eq_true rfl) ?_
  intro p e R s m args below meth c ls hfr hlo hce hsl hF hX hr hlk htab hsz hG hl
  subst hsz
  have hx := hF.1.1
  have hb := hF.1.2.1
  have hts := hF.1.2.2.2.2
  have hl : lv_has ls 2 [(0, .ref b), (1, .int a1)] := hl
  refine lv_iload_n hx hb dX0_fail_0 rfl (lv_at hl 1 rfl) ?_
  refine lv_if_eq (tgt := 12) hx hb dX0_fail_1 (by decide) (fun c1 => ?_) (fun c1 => ?_)
  · refine W.widen (k := 1) (n := 6) (by decide) (by decide) (vx_ret ?_)
    exact W.vret hx hb hr (fun t ht _ => ⟨⟨Z, rfl, ⟨rfl, Or.inl c1⟩, (show va_P E.1 vwCl (zw E Z) t.heap by rw [ht]; exact hG.1)⟩, hG.2.F ht⟩) hG.2.2.2 dX0_fail_12 hlk
  · exact vx_throw0 hx hb (zx_tr hfl) (own := RX0) (cls := zIAE) (names := zXn) (ik := 24) (ic := 26) (A := zA E s.heap.size) hF.1.2.2.2.1 (by decide) (by decide)
      (hts _ (List.mem_of_getElem? (i := 1) rfl)) (hts _ (List.mem_of_getElem? (i := 2) rfl)) (zXf zbX0 (fun w h => hts w (List.mem_cons_of_mem _ (List.mem_append_right _ h))) hX.2.2.1) zgX0 hX.1 hX.2.1 hG.2 (hl.1.trans hF.1.2.2.1.symm)
      dX0_fail_4 dX0_fail_7 dX0_fail_8 dX0_fail_11 (fun q hq => (htab q hq).elim) (Nat.lt_of_lt_of_le (by decide) hfr) (Nat.le_trans (by decide) hlo) (by rw [Nat.zero_add]; exact hce) (by rw [Nat.zero_add]; exact hsl) hlk
      (fun t _ h1 h2 => zx_C hG ⟨rfl, c1, Or.inr (Or.inl ⟨hx0, rfl⟩)⟩ t h1 h2) hG.2.2.2 (Nat.le_refl _) (Nat.le_refl _)
set_option maxHeartbeats 1000000 in
theorem kX1_fail (l : Launch) (hfl : l.flags = flags0) (E : zE) (Z : zS) (b : Nat) (x a1 : Int32) (hx0 : x = 0) : zVX l yX1_fail wsX1_fail zfR E Z [.ref b, .int a1] (zfK x a1 Z) (zfX x a1 Z) 1 6 := by
  intro sz
  refine zx_body (cc := cX1_fail) (nL := 2) (ret := none) (by decide) rfl (Nat.le_of_ble_eq_true rfl) ?_
  intro p e R s m args below meth c ls hfr hlo hce hsl hF hX hr hlk htab hsz hG hl
  subst hsz
  have hx := hF.1.1
  have hb := hF.1.2.1
  have hts := hF.1.2.2.2.2
  have hl : lv_has ls 2 [(0, .ref b), (1, .int a1)] := hl
  refine lv_iload_n hx hb dX1_fail_0 rfl (lv_at hl 1 rfl) ?_
  refine lv_if_eq (tgt := 12) hx hb dX1_fail_1 (by decide) (fun c1 => ?_) (fun c1 => ?_)
  · refine W.widen (k := 1) (n := 6) (by decide) (by decide) (vx_ret ?_)
    exact W.vret hx hb hr (fun t ht _ => ⟨⟨Z, rfl, ⟨rfl, Or.inl c1⟩, (show va_P E.1 vwCl (zw E Z) t.heap by rw [ht]; exact hG.1)⟩, hG.2.F ht⟩) hG.2.2.2 dX1_fail_12 hlk
  · exact vx_throw0 hx hb (zx_tr hfl) (own := RX1) (cls := zISE) (names := zXn) (ik := 36) (ic := 38) (A := zA E s.heap.size) hF.1.2.2.2.1 (by decide) (by decide)
      (hts _ (List.mem_of_getElem? (i := 1) rfl)) (hts _ (List.mem_of_getElem? (i := 2) rfl)) (zXf zbX1 (fun w h => hts w (List.mem_cons_of_mem _ (List.mem_append_right _ h))) hX.2.2.1) zgX1 hX.1 hX.2.1 hG.2 (hl.1.trans hF.1.2.2.1.symm)
      dX1_fail_4 dX1_fail_7 dX1_fail_8 dX1_fail_11 (fun q hq => (htab q hq).elim) (Nat.lt_of_lt_of_le (by decide) hfr) (Nat.le_trans (by decide) hlo) (by rw [Nat.zero_add]; exact hce) (by rw [Nat.zero_add]; exact hsl) hlk
      (fun t _ h1 h2 => zx_C hG ⟨rfl, c1, Or.inl ⟨hx0, rfl⟩⟩ t h1 h2) hG.2.2.2 (Nat.le_refl _) (Nat.le_refl _)
set_option maxHeartbeats 1000000 in
theorem kX9_fail (l : Launch) (hfl : l.flags = flags0) (E : zE) (Z : zS) (b : Nat) (x a1 : Int32) (hx0 : x = 5) : zVX l yX9_fail wsX9_fail zfR E Z [.ref b, .int a1] (zfK x a1 Z) (zfX x a1 Z) 1 6 := by
  intro sz
  refine zx_body (cc := cX9_fail) (nL := 2) (ret := none) (by decide) rfl (Nat.le_of_ble_eq_true rfl) ?_
  intro p e R s m args below meth c ls hfr hlo hce hsl hF hX hr hlk htab hsz hG hl
  subst hsz
  have hx := hF.1.1
  have hb := hF.1.2.1
  have hts := hF.1.2.2.2.2
  have hl : lv_has ls 2 [(0, .ref b), (1, .int a1)] := hl
  refine lv_iload_n hx hb dX9_fail_0 rfl (lv_at hl 1 rfl) ?_
  refine lv_if_eq (tgt := 12) hx hb dX9_fail_1 (by decide) (fun c1 => ?_) (fun c1 => ?_)
  · refine W.widen (k := 1) (n := 6) (by decide) (by decide) (vx_ret ?_)
    exact W.vret hx hb hr (fun t ht _ => ⟨⟨Z, rfl, ⟨rfl, Or.inl c1⟩, (show va_P E.1 vwCl (zw E Z) t.heap by rw [ht]; exact hG.1)⟩, hG.2.F ht⟩) hG.2.2.2 dX9_fail_12 hlk
  · exact vx_throw0 hx hb (zx_tr hfl) (own := RX9) (cls := zUOE) (names := zXn) (ik := 27) (ic := 29) (A := zA E s.heap.size) hF.1.2.2.2.1 (by decide) (by decide)
      (hts _ (List.mem_of_getElem? (i := 1) rfl)) (hts _ (List.mem_of_getElem? (i := 2) rfl)) (zXf zbX9 (fun w h => hts w (List.mem_cons_of_mem _ (List.mem_append_right _ h))) hX.2.2.1) zgX9 hX.1 hX.2.1 hG.2 (hl.1.trans hF.1.2.2.1.symm)
      dX9_fail_4 dX9_fail_7 dX9_fail_8 dX9_fail_11 (fun q hq => (htab q hq).elim) (Nat.lt_of_lt_of_le (by decide) hfr) (Nat.le_trans (by decide) hlo) (by rw [Nat.zero_add]; exact hce) (by rw [Nat.zero_add]; exact hsl) hlk
      (fun t _ h1 h2 => zx_C hG ⟨rfl, c1, Or.inr (Or.inr ⟨hx0, rfl⟩)⟩ t h1 h2) hG.2.2.2 (Nat.le_refl _) (Nat.le_refl _)
theorem kX4_fail (l : Launch) (E : zE) (Z : zS) (b : Nat) (x a1 : Int32) (hx0 : x = 2) : zVX l yX4_fail wsX4_fail zfR E Z [.ref b, .int a1] (zfK x a1 Z) (zfX x a1 Z) 1 6 := by
  intro sz
  refine zx_body (cc := cX4_fail) (nL := 2) (ret := none) (by decide) rfl (Nat.le_of_ble_eq_true rfl) ?_
  intro p e R s m args below meth c ls hfr hlo hce hsl hF hX hr hlk htab hsz hG hl
  subst hsz
  refine W.widen (k := 1) (n := 6) (by decide) (by decide) (vx_ret ?_)
  exact W.vret hF.1.1 hF.1.2.1 hr (fun t ht _ => ⟨⟨Z, rfl, ⟨rfl, Or.inr hx0⟩, (show va_P E.1 vwCl (zw E Z) t.heap by rw [ht]; exact hG.1)⟩, hG.2.F ht⟩) hG.2.2.2 dX4_fail_0 hlk
section ZVU
variable {p : Program} {l : Launch} {e : Env} {R : Room} {s : State} {m : MethodId} {args : Array Value} {below : List Frame} {meth : Method} {c : Code} {T : State} {H : Heap} {locs : List Loc} {cells slots : Nat}
theorem zx_callU (X : Stand p l e R s m args below meth c T locs cells slots) (hexec : p.tables.exec = Jvm.exec) {own C owner : String} {index : Nat} {x y : MethodName}
    (hown : s.vm.findClass own = some m.cls) (hlink : (Cond.methodLink own index x).before args s = true) (hsame : (Cond.sameMethod x.cls owner x.name x.desc).before args s = true)
    (hd0 : va_Decl s ⟨owner, x.name, x.desc⟩) (howner : owner ≠ "java/lang/invoke/MethodHandle" ∧ owner ≠ "java/lang/invoke/VarHandle")
    (hsel : (Cond.selects C x y).before args s = true) (hinst : (Cond.instanceMethod y).before args s = true)
    {W9 : Nat} {Pre : Pt → Array Value → Prop} {Post : Pt → Array Value → Option Value → Pt → Prop} {PostX : Pt → Array Value → Addr → Pt → Prop} (hK : vx_Back l R p e below s args y 3 W9 Pre Post PostX)
    {b : Addr} {cellB : Cell} (hcell : T.heap[b]? = some cellB) (hobj : cellB.vm.isStatics = false) (hcls : s.vm.findClass C = some cellB.cls)
    {g : JFrame} (hg : g.method = m) (hsize : g.locals.size = c.maxLocals) {argsL rest : List Value} (hlen : ∀ sig, parseMethodDescriptor x.desc = some sig → argsL.length = sig.parameters.length)
    (hstack : g.stack = argsL.reverse ++ .ref b :: rest) (hW : 2 * g.monitorRoom + (rest.map fun v => v.category).sum ≤ W9) (hdg : decode c.code g.pc = .ok (.invokevirtual index, 3))
    (hpre : ∀ vm₁, s.WarmedH vm₁ → Pre ⟨T.setVm vm₁, locs, cells, slots⟩ (Value.ref b :: argsL).toArray) :
    (∃ (v : Option Value) (vm₁ : Vm) (B : Pt), s.WarmedH vm₁ ∧ Stand p l e R s m args below meth c B.U B.locs B.cells B.slots ∧ Post ⟨T.setVm vm₁, locs, cells, slots⟩ (Value.ref b :: argsL).toArray v B ∧
      ∀ target, Steps p.tables e below (B.U.setTop { g with pc := g.pc + 3, stack := v.toList ++ rest }) target → Steps p.tables e below (T.setTop g) target) ∨
    (∃ (q : Addr) (vm₁ : Vm) (B : Pt), s.WarmedH vm₁ ∧ Stand p l e R s m args below meth c B.U B.locs B.cells B.slots ∧ PostX ⟨T.setVm vm₁, locs, cells, slots⟩ (Value.ref b :: argsL).toArray q B ∧
      Steps p.tables e below (T.setTop g) ((B.U.setTop { g with stack := rest }).pushFrame (.throwing q))) := by
  obtain ⟨r0, r, hn, hrm, hstR, hsigR⟩ := hd0
  obtain ⟨cn, ck, r1, hcn, hck, hni, hf, hn1⟩ := Cond.sameMethod_found hsame
  cases hn.symm.trans hn1
  obtain ⟨mk, methM, hnamed, hmethM, -, habM⟩ := Cond.instanceMethod_spec hinst
  obtain ⟨c2, r2, m2, q1, q2, q3, q4, kP, hkP, hkPi⟩ := Cond.selects_spec hsel
  cases hcls.symm.trans q1
  cases hf.symm.trans q2
  cases hnamed.symm.trans q3
  have hselP : selectMethod e.platform s.vm cellB.cls r0 = .method mk := by rw [Launch.admits_selectMethod X.admits]; exact q4
  obtain ⟨vm₁, X₁, hstep₁⟩ := X.invokevirtualUp hexec hown hlink hsame howner hn hrm hstR (a := b) (cell := cellB) hcell
    (fun z h => by rw [h] at hobj; cases hobj) hselP hmethM habM hkP hkPi (g := g) hg (argsL := argsL) (rest := rest) (hlen _ hsigR) hstack hdg
  rcases hK m meth c ⟨T.setVm vm₁, locs, cells, slots⟩ { g with stack := rest } (.invokevirtual index) mk (Value.ref b :: argsL).toArray X₁ hg hsize hdg hW (X₁.named hnamed) (hpre vm₁ X₁.warmed) with ⟨v, B, X', hpost, hsteps⟩ | ⟨q, B, X', hpost, hsteps⟩
  · exact Or.inl ⟨v, vm₁, B, X₁.warmed, X', hpost, fun target h => hstep₁ _ fun acts => by rw [doInvoke_state]; exact hsteps.trans h⟩
  · exact Or.inr ⟨q, vm₁, B, X₁.warmed, X', hpost, hstep₁ _ fun acts => by rw [doInvoke_state]; exact hsteps⟩
theorem zx_runU {x y : MethodName} {bytes cc : ByteArray} {maxL nL mc ms n index : Nat} {ret : Option FieldType} {ws : List Cond} {rm : Room} {Pc : Array Value → State → Prop} {Qc : Array Value → State → Outcome → State → Prop} {XC : String → State → State → Prop} {free : Addr → Prop} {Ts : List Cond} {own C owner : String} {b : Addr} {As rest : List Value} {g : JFrame}
    (S : CallFix p m c cc nL s args Ts own) (hM : vx_Met l y ws rm Pc Qc XC mc ms free) (cw : va_CU R s args own C owner index x y bytes maxL ret ws rm mc ms n) (hp : PreV s H C b Pc As)
    (hg : g.method = m) (hn : As.length = n) (hsize : g.locals.size = nL) (hstack : g.stack = As.reverse ++ .ref b :: rest) (hW : 2 * g.monitorRoom + (rest.map fun v => v.category).sum ≤ 8) (hdg : decode cc g.pc = .ok (.invokevirtual index, 3)) (hf : cells + mc ≤ R.cells ∧ slots + ms ≤ R.slots) :
    vx_Run p l e R s m args below meth c H locs cells slots mc ms g rest (Qc (Value.ref b :: As).toArray) XC free := by
  obtain ⟨hrc, hrs, hfr, hlo, hws, hcw⟩ := cw.back
  have hini := cw.init
  have hK : vx_Back l R p e below s args y 3 8 (PreOf R mc ms Pc) (PostOf Qc mc ms free) (vx_Post XC mc ms free) := vx_back (bytes := bytes) (maxL := maxL) (ret := ret) hM hp.1 hrc hrs hfr hlo hws hcw (fun a' U hW => word_at hW (Or.inl (by first | rfl | simp [Cond.onTables, Cond.keeps, Cond.steady])) hini)
  obtain ⟨hx, hb, hml, ho, -⟩ := S
  obtain ⟨-, ⟨cellB, hcB, hoB, hclB⟩, hPc⟩ := hp
  intro T hT X
  rcases zx_callU X hx (C := C) (owner := owner) ho cw.link cw.same cw.decl cw.notMH cw.sel cw.inst hK (by rw [hT]; exact hcB) hoB hclB hg (hsize.trans hml.symm) (argsL := As) (rest := rest) (fun sig h => hn.trans (cw.len sig h)) hstack hW (by rw [hb]; exact hdg)
    (fun vm₁ hW₁ => ⟨hf.1, hf.2, hPc (T.setVm vm₁) hT hW₁⟩) with ⟨v, vm₁, ⟨U', l2, c2, s2⟩, hW₁, X', ⟨g', mk, t, L, e1, e2, hq, h1, hL, h2, h3⟩, st⟩ | ⟨q, vm₁, ⟨U', l2, c2, s2⟩, hW₁, X', ⟨g', mk, t, L, E, ce, e1, e2, hq, hce, hcv, hcl, h1, hL, h2, h3⟩, st⟩
  · dsimp only [Pt.U, Pt.locs, Pt.cells, Pt.slots] at X' e1 e2 h1 h2 h3 st
    subst h1; subst h2; subst h3
    exact Or.inl ⟨v, (T.setVm vm₁).calling g' mk (Value.ref b :: As).toArray, t, U', L, hT, X', hL, e1, e2, hq, st⟩
  · dsimp only [Pt.U, Pt.locs, Pt.cells, Pt.slots] at X' e1 e2 h1 h2 h3 st hcl
    subst h1; subst h2; subst h3
    exact Or.inr ⟨q, (T.setVm vm₁).calling g' mk (Value.ref b :: As).toArray, t, U', L, E, ce, hT, X', hL, e1, e2, hq, hce, hcv, vx_cls hW₁ hcl, st⟩
end ZVU
