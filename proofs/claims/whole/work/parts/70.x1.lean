/-! EXCEPTIONS: what a throw asks beside the world; the six fail methods. -/
abbrev zIAE : String := "java/lang/IllegalArgumentException"
abbrev zISE : String := "java/lang/IllegalStateException"
abbrev zUOE : String := "java/lang/UnsupportedOperationException"
abbrev zXn : List String := ["java/lang/RuntimeException", "java/lang/Exception"]
def zXW : List Cond := [.declares (Bundle.init0 "java/lang/RuntimeException"), .declares (Bundle.init0 "java/lang/Exception"), .declares (Bundle.init0 "java/lang/Throwable"), .declares (Bundle.initS "java/lang/RuntimeException"), .declares (Bundle.initS "java/lang/Exception"), .declares (Bundle.initS "java/lang/Throwable"), .castable zIAE zIAE, .castable zISE zISE, .castable zUOE zUOE]
def zXw (U : State) : Prop := ∀ w ∈ zXW, w.before #[] U = true
theorem zXw.warm {s U : State} (hW : s.WarmedH U.vm) (h : zXw s) : zXw U := by
  intro w hw
  have h0 := h w hw
  simp only [zXW, List.mem_cons, List.not_mem_nil, or_false] at hw
  rcases hw with rfl | rfl | rfl | rfl | rfl | rfl | rfl | rfl | rfl
  · exact va_Nw.warmD hW h0
  · exact va_Nw.warmD hW h0
  · exact va_Nw.warmD hW h0
  · exact va_Nw.warmD hW h0
  · exact va_Nw.warmD hW h0
  · exact va_Nw.warmD hW h0
  · exact va_Nw.warmC hW h0
  · exact va_Nw.warmC hW h0
  · exact va_Nw.warmC hW h0
theorem zXw.tabs : ∀ w ∈ zXW, w.onTables = true := by decide +kernel
theorem zXw.same {u U : State} (e : u.vm = U.vm) (h : zXw u) : zXw U := fun w hw => va_tabs (zXw.tabs w hw) e (h w hw)
theorem zXw.use {U : State} (h : zXw U) (A : Array Value) : ∀ w ∈ zXW, w.before A U = true := fun w hw => va_tabs (zXw.tabs w hw) rfl (h w hw)
def zXc (U : State) : Prop := va_Nc zIAE zISE U ∧ va_Nc zUOE zISE U ∧ va_Nc zUOE zIAE U ∧ va_Nc zISE zIAE U
theorem zXc.moved {u U : State} (h : u.vm.Alike U.vm) (q : zXc u) : zXc U := ⟨va_Nc.moved h q.1, va_Nc.moved h q.2.1, va_Nc.moved h q.2.2.1, va_Nc.moved h q.2.2.2⟩
def zXs (U : State) : Prop := (∃ sa : Nat, vk_R RX11 375 "no such SHELF" sa U) ∧ ∃ sa : Nat, vk_R RX11 382 "no ROW, or no such place" sa U
theorem zXs.warm {s U : State} (hW : s.WarmedH U.vm) (h : zXs s) : zXs U := by
  obtain ⟨⟨a, ha⟩, ⟨b, hb⟩⟩ := h
  exact ⟨⟨a, vk_R.warm hW ha⟩, ⟨b, vk_R.warm hW hb⟩⟩
theorem zXs.same {u U : State} (e : u.vm = U.vm) (h : zXs u) : zXs U := by
  obtain ⟨⟨a, ha⟩, ⟨b, hb⟩⟩ := h
  exact ⟨⟨a, vk_R.same e.symm ha⟩, ⟨b, vk_R.same e.symm hb⟩⟩
def zXe (A : Nat → Prop) (U : State) (H : Heap) : Prop := vx_Zq Bundle.tN "UNASSIGNED_STACK" Bundle.steD A U H ∧ vx_Zq Bundle.tN "SUPPRESSED_SENTINEL" Bundle.listD A U H ∧ zXw U ∧ zXc U ∧ zXs U
theorem zXe.step {A B : Nat → Prop} {s U : State} {H H1 : Heap} (hW : s.WarmedH U.vm) (hq : ∀ a : Nat, a < H.size → ¬ A a → H1[a]? = H[a]?) (hAB : ∀ q, B q → A q) (h : zXe A s H) : zXe B U H1 :=
  ⟨((h.1.kept hq).narrow hAB).moved hW.alike, ((h.2.1.kept hq).narrow hAB).moved hW.alike, h.2.2.1.warm hW, h.2.2.2.1.moved hW.alike, h.2.2.2.2.warm hW⟩
def zPreX (E : zE) (Z : zS) (sz : Nat) (U : State) : Prop := zPre E Z sz U ∧ zXe (zA E sz) U U.heap
theorem zPreX.blind {E : zE} {Z : zS} {sz : Nat} (av : List Value) : FrameBlind (va_Pc av (zPreX E Z sz)) := fun a U g mk q => by
  obtain ⟨q0, ⟨q1, qP, qK, qN, qI⟩, x1, x2, x3, x4, x5⟩ := q
  exact ⟨q0, ⟨q1, qP, va_K.moved (u := U) (U := U.calling g mk a) (Vm.Alike.refl U.vm) qK, zNest.same (u := U) rfl qN, qI⟩, x1.moved (u := U) (U := U.calling g mk a) (Vm.Alike.refl U.vm), x2.moved (u := U) (U := U.calling g mk a) (Vm.Alike.refl U.vm), x3.same (u := U) rfl, x4.moved (u := U) (U := U.calling g mk a) (Vm.Alike.refl U.vm), x5.same (u := U) rfl⟩
/-- where it throws -/
abbrev zXC (E : zE) (K : String → zS → Prop) (sz : Nat) : String → State → State → Prop := vx_X (fun _ : zS => True) (fun nm Z1 t => K nm Z1 ∧ zB E Z1 t) (zA E sz)
section ZX
variable {p : Program} {l : Launch} {e : Env} {R : Room} {s : State} {m : MethodId} {args : Array Value} {below : List Frame} {meth : Method} {c : Code} {H : Heap} {locs : List Loc} {cells slots : Nat} {Q : State → Prop}
variable {cc : ByteArray} {pc nL : Nat} {ls : Array Slot} {rest : List Value} {E : zE} {Z : zS} {Ts : List Cond} {own : String}
theorem zx_pre (hF : zFx p m c cc nL s args Ts own E) (hX : zXe (zA E s.heap.size) s s.heap) (hG : zG E Z s H locs) {U : State} (hU : U.heap = H) (hW : s.WarmedH U.vm) : zPreX E Z H.size U :=
  ⟨z_pre hF hG hU hW, by rw [hU]; exact hX.step hW hG.2.2.1 (zA_free hG)⟩
theorem zx_preS (hF : zFx p m c cc nL s args Ts own E) (hX : zXe (zA E s.heap.size) s s.heap) (hG : zG E Z s H locs) {As : List Value} : PreS s H (va_Pc As (zPreX E Z H.size)) As := ⟨zPreX.blind _, fun _ hU hW => ⟨rfl, zx_pre hF hX hG hU hW⟩⟩
theorem zx_preV (hF : zFx p m c cc nL s args Ts own E) (hX : zXe (zA E s.heap.size) s s.heap) (hG : zG E Z s H locs) {As : List Value} (i : Nat) (hi : i < 112) {ci : Nat} {fs : List Value} {q : vw_C} (he : zent E i (Z i) = .inr (ci, fs)) (hc : vwCl[ci]? = some q) : PreV s H q.1 (E.2.1 i) (va_Pc (.ref (E.2.1 i) :: As) (zPreX E Z H.size)) As := ⟨zPreX.blind _, va_recv hF.2.1 hG.1 hc (q0 := i) (by rw [zw_at hi, he]), fun _ hU hW => ⟨rfl, zx_pre hF hX hG hU hW⟩⟩
/-- the world in a heap that has grown -/
theorem zx_grow (hG : zG E Z s H locs) {H1 : Heap} (h1 : H.size ≤ H1.size) (h2 : ∀ q : Nat, q < H.size → H1[q]? = H[q]?) : zG E Z s H1 locs := by
  refine ⟨va_P.kept hG.1 (fun k q hk => h2 _ (vx_lt hG.1 hk)), Nat.le_trans hG.2.1 h1, fun q hq hn => ?_, hG.2.2.2⟩
  rw [h2 q (Nat.lt_of_lt_of_le hq hG.2.1)]
  exact hG.2.2.1 q hq hn
theorem zx_C {K : String → zS → Prop} {nm : String} (hG : zG E Z s H locs) (hk : K nm Z) (t : State) (h1 : H.size ≤ t.heap.size) (h2 : ∀ q : Nat, q < H.size → t.heap[q]? = H[q]?) : zXC E K s.heap.size nm s t := by
  have hg := zx_grow hG h1 h2
  exact ⟨Z, trivial, ⟨hk, hg.1⟩, hg.2.F rfl⟩
end ZX
section ZXM
variable {l : Launch} {y : MethodName} {ws ws' : List Cond} {rm : Room} {E : zE} {Z : zS} {av : List Value} {cc : ByteArray} {nL : Nat}
theorem zx_body {ret : Option FieldType} {Qc : Array Value → State → Outcome → State → Prop} {XC : String → State → State → Prop} {mc ms : Nat} {free : Addr → Prop} {sz : Nat} (hy : plainName y.cls = true) (hw : ws = Cond.code y cc nL ret :: ws') (hle : (lg_sl av).length ≤ nL)
    (body : ∀ (p : Program) (e : Env) (R : Room) (s : State) (m : MethodId) (args : Array Value) (below : List Frame) (meth : Method) (c : Code) (ls : Array Slot), rm.frames ≤ R.frames → rm.locals ≤ R.locals → rm.cells ≤ R.cells → rm.slots ≤ R.slots → zFx p m c cc nL s args ws y.cls E → zXe (zA E s.heap.size) s s.heap → meth.sig.returnType = ret → meth.locks = false → (∀ x ∈ c.exceptionTable.toList, False) → s.heap.size = sz → zG E Z s s.heap [] → lv_has ls nL (lv_args 0 av) → W p l e R s m args below meth c s.heap [] 0 0 (vx_MQ below Qc XC args s mc ms free) (F0 m 0 ls [])) : vx_Met l y ws rm (va_Pc av (zPreX E Z sz)) Qc XC mc ms free := by
  refine vx_ofW (cc := cc) (maxL := nL) (ret := ret) hy hw ?_
  intro p e s m args below meth c s₁ B hml htab hv
  obtain ⟨rfl, ⟨hsz, hP, hK, hN, hI⟩, hXe⟩ := hv
  subst hsz
  rw [lg_entry_eq]
  exact body p e _ s m _ below meth c _ (Nat.le_refl _) (Nat.le_refl _) (Nat.le_refl _) (Nat.le_refl _) ⟨⟨B.exec, B.bytes, hml, findClass_of_methodNamed B.named, atoms_spec (ws := ws) B.pre⟩, hK, hN, hI⟩ hXe B.returns B.notSynchronized htab rfl ⟨hP, va_S.rf⟩ (lv_entry av hle)
end ZXM
theorem zx_tr {l : Launch} (h : l.flags = flags0) : l.stackTraces = false := by
  unfold Launch.stackTraces
  rw [h]
  decide +kernel
abbrev zVX (l : Launch) (y : MethodName) (ws : List Cond) (rm : Room) (E : zE) (Z : zS) (av : List Value) (K : zS → Prop) (KX : String → zS → Prop) (mc ms : Nat) : Prop := ∀ sz : Nat, vx_Met l y ws rm (va_Pc av (zPreX E Z sz)) (va_Qv K (zB E) (zA E sz)) (zXC E KX sz) mc ms (zA E sz)
theorem zXf {L : List Cond} {A : Array Value} {s : State} (h : ∀ w ∈ L.filter (fun w => !goodWord w), w ∈ zXW) (hg : ∀ w ∈ L.filter goodWord, w.before A s = true) (hx : zXw s) : ∀ w ∈ L, w.before A s = true := vx_hat hg h (hx.use A)
theorem zbX0 : ∀ w ∈ (vx_at0 RX0 26 zIAE zXn).filter (fun w => !goodWord w), w ∈ zXW := by decide +kernel
theorem zgX0 : ∀ w ∈ Cond.classLink RX0 24 zIAE :: Cond.initialized zIAE :: vx_at0 RX0 26 zIAE zXn, vx_ot w = true := by decide +kernel
theorem zbX1 : ∀ w ∈ (vx_at0 RX1 38 zISE zXn).filter (fun w => !goodWord w), w ∈ zXW := by decide +kernel
theorem zgX1 : ∀ w ∈ Cond.classLink RX1 36 zISE :: Cond.initialized zISE :: vx_at0 RX1 38 zISE zXn, vx_ot w = true := by decide +kernel
theorem zbX9 : ∀ w ∈ (vx_at0 RX9 29 zUOE zXn).filter (fun w => !goodWord w), w ∈ zXW := by decide +kernel
theorem zgX9 : ∀ w ∈ Cond.classLink RX9 27 zUOE :: Cond.initialized zUOE :: vx_at0 RX9 29 zUOE zXn, vx_ot w = true := by decide +kernel
