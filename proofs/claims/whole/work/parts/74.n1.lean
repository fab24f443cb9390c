/-! MAKING THE WORLD: cells made one behind the other from the address b on; en k is what the k-th is -/
section NW
def nW (b n : Nat) (en : Nat → va_E) : va_W := (List.range n).map (fun k => (b + k, en k))
def nA (b : Nat) : Nat → Prop := fun q => b ≤ q
variable {b n : Nat} {en : Nat → va_E}
theorem nW_at {k : Nat} (h : k < n) : (nW b n en)[k]? = some (b + k, en k) := by simp [nW, h]
theorem nW_len : (nW b n en).length = n := by simp [nW]
theorem nW_in {k : Nat} {q : Nat × va_E} (h : (nW b n en)[k]? = some q) : k < n ∧ q = (b + k, en k) := by
  have hk : k < n := by
    rcases Nat.lt_or_ge k n with g | g
    · exact g
    · rw [List.getElem?_eq_none (by rw [nW_len]; exact g)] at h; cases h
  rw [nW_at hk] at h
  exact ⟨hk, (Option.some.inj h).symm⟩
theorem nW_set {k : Nat} (hk : k < n) (x : va_E) : (nW b n en).set k (b + k, x) = nW b n (va_up en k x) := by
  apply List.ext_getElem?
  intro j
  rw [List.getElem?_set]
  by_cases h : k = j
  · subst h
    rw [if_pos rfl, if_pos (by rw [nW_len]; exact hk), nW_at hk]
    simp [va_up]
  · rw [if_neg h]
    by_cases hj : j < n
    · rw [nW_at hj, nW_at hj, show va_up en k x j = en j from by simp [va_up, Ne.symm h]]
    · rw [List.getElem?_eq_none (by rw [nW_len]; omega), List.getElem?_eq_none (by rw [nW_len]; omega)]
theorem nW_push (x : va_E) : nW b n en ++ [(b + n, x)] = nW b (n + 1) (va_up en n x) := by
  apply List.ext_getElem?
  intro j
  by_cases hj : j < n
  · rw [List.getElem?_append_left (by rw [nW_len]; exact hj), nW_at hj, nW_at (Nat.lt_succ_of_lt hj), show va_up en n x j = en j from by simp [va_up, Nat.ne_of_lt hj]]
  · rw [List.getElem?_append_right (by rw [nW_len]; omega), nW_len]
    by_cases e : j = n
    · subst e
      rw [nW_at (Nat.lt_succ_self _), Nat.sub_self]
      simp [va_up]
    · rw [List.getElem?_eq_none (by simp; omega), List.getElem?_eq_none (by rw [nW_len]; omega)]
theorem nW_D : va_D (nA b) (nW b n en) := by
  refine ⟨fun i j p q hp hq h => ?_, fun k q hq => ?_⟩
  · obtain ⟨hi, rfl⟩ := nW_in hp
    obtain ⟨hj, rfl⟩ := nW_in hq
    exact Nat.add_left_cancel h
  · obtain ⟨hk, rfl⟩ := nW_in hq
    exact Nat.le_add_right _ _
def nG (E : zE) (b n : Nat) (en : Nat → va_E) (s : State) (H : Heap) (locs : List Loc) : Prop := va_P E.1 vwCl (nW b n en) H ∧ va_S (nA b) s.heap H locs ∧ b ≤ s.heap.size
theorem nG.lo {E : zE} {s : State} {H : Heap} {locs : List Loc} (h : nG E b n en s H locs) : b + n ≤ H.size := by
  cases n with
  | zero => exact Nat.le_trans h.2.2 h.2.1.1
  | succ n => exact vx_lt h.1 (k := n) (nW_at (Nat.lt_succ_self n))
theorem nCa_moved {C T : String} {u U : State} (h : u.vm.Alike U.vm) (q : va_Nw (.castable C T) u) : va_Nw (.castable C T) U := va_tabs rfl (rfl : (u.setVm U.vm).vm = U.vm) (by rw [Cond.castable_setVm h]; exact q)
def nAO (U : State) : Prop := va_AO "GreedyServers$Server" U ∧ va_AO "GreedyServers$Shelf" U ∧ va_AO "GreedyServers$Tray" U ∧ va_AO "GreedyServers$Hard" U ∧ va_Nw (.castable RX0 RX1) U ∧ va_Nw (.castable RX4 RX1) U ∧ va_Nw (.castable RX7 RX1) U ∧ va_Nw (.castable RX2 RX1) U ∧ va_Nw (.castable RX9 RX1) U
theorem nAO.moved {u U : State} (h : u.vm.Alike U.vm) (q : nAO u) : nAO U := ⟨va_AO.moved h q.1, va_AO.moved h q.2.1, va_AO.moved h q.2.2.1, va_AO.moved h q.2.2.2.1, nCa_moved h q.2.2.2.2.1, nCa_moved h q.2.2.2.2.2.1, nCa_moved h q.2.2.2.2.2.2.1, nCa_moved h q.2.2.2.2.2.2.2.1, nCa_moved h q.2.2.2.2.2.2.2.2⟩
/-- a constructor's start -/
def nPre (E : zE) (b n : Nat) (en : Nat → va_E) (U : State) : Prop := U.heap.size = b + n ∧ va_P E.1 vwCl (nW b n en) U.heap ∧ va_K E.1 vwCl (zT E) U ∧ nAO U
theorem nPre.blind {E : zE} (av : List Value) : FrameBlind (va_Pc av (nPre E b n en)) := fun a U g mk q => by
  obtain ⟨q0, q1, qP, qK, qN⟩ := q
  exact ⟨q0, q1, qP, va_K.moved (u := U) (U := U.calling g mk a) (Vm.Alike.refl U.vm) qK, nAO.moved (u := U) (U := U.calling g mk a) (Vm.Alike.refl U.vm) qN⟩
abbrev nB (E : zE) (b n : Nat) : (Nat → va_E) → State → Prop := fun en t => va_P E.1 vwCl (nW b n en) t.heap
/-- a constructor: K holds of what the cells are behind it -/
abbrev nM (l : Launch) (y : MethodName) (ws : List Cond) (rm : Room) (E : zE) (b n : Nat) (en : Nat → va_E) (av : List Value) (n1 : Nat) (K : (Nat → va_E) → Prop) (mc ms : Nat) : Prop := Met l y ws rm (va_Pc av (nPre E b n en)) (va_Qv K (nB E b n1) (nA b)) mc ms (nA b)
def nFx (p : Program) (m : MethodId) (c : Code) (cc : ByteArray) (nL : Nat) (s : State) (args : Array Value) (Ts : List Cond) (own : String) (E : zE) : Prop := CallFix p m c cc nL s args Ts own ∧ va_K E.1 vwCl (zT E) s ∧ nAO s
end NW
section NR
variable {p : Program} {l : Launch} {e : Env} {R : Room} {s : State} {m : MethodId} {args : Array Value} {below : List Frame} {meth : Method} {c : Code} {H : Heap} {locs : List Loc} {cells slots : Nat} {Q : State → Prop}
variable {cc : ByteArray} {pc nL : Nat} {ls : Array Slot} {rest : List Value} {E : zE} {Ts : List Cond} {own : String} {b n : Nat} {en : Nat → va_E}
theorem W_size {g : JFrame} (k : H.size ≤ s.heap.size + cells → W p l e R s m args below meth c H locs cells slots Q g) : W p l e R s m args below meth c H locs cells slots Q g := fun T hT X => k (by rw [← hT]; exact X.heapSize) T hT X
theorem n_hA (hG : nG E b n en s H locs) : ∀ q, s.heap.size ≤ q → nA b q := fun _ h => Nat.le_trans hG.2.2 h
/-- the address of what has been made is the next -/
theorem n_addr {q : Nat} {x : va_E} {H1 : Heap} (hP : va_P E.1 vwCl (nW b n en ++ [(q, x)]) H1) (hD : va_D (nA b) (nW b n en ++ [(q, x)])) (hsz : H1.size ≤ b + n + 1) : q = b + n := by
  have h0 : (nW b n en ++ [(q, x)])[n]? = some (q, x) := by rw [List.getElem?_append_right (by rw [nW_len]; exact Nat.le_refl _), nW_len, Nat.sub_self]; rfl
  have h1 : q < H1.size := vx_lt hP h0
  have h2 : b ≤ q := hD.2 n _ h0
  rcases Nat.lt_or_ge q (b + n) with h | h
  · exfalso
    obtain ⟨k, rfl⟩ : ∃ k, q = b + k := ⟨q - b, by omega⟩
    have hk : k < n := by omega
    have h3 := hD.1 k n (b + k, en k) _ (by rw [List.getElem?_append_left (by rw [nW_len]; exact hk), nW_at hk]) h0 rfl
    omega
  · omega
theorem n_new (hF : nFx p m c cc nL s args Ts own E) (hG : nG E b n en s H locs) (hc9 : s.heap.size + cells ≤ b + n) {ci : Nat} {fs : List Value} {C : String} {T : u_T} {N index : Nat} (hin : ∀ w ∈ u_ws C T N, w ∈ Ts) (ty : Nat → FieldType) (hty : ∀ k, k < N → parseFieldDescriptor (T k).2.2.1 = some (ty k)) (hcl : Cond.classLink own index C ∈ Ts) (hinst : Cond.instantiable C N ∈ Ts) (hini : Cond.initialized C ∈ Ts) (hc : vwCl[ci]? = some (C, T, N)) (hfs : ∀ j, j < N → defaultValue (ty j) = vp_V fs j) (hcells : cells + 1 ≤ R.cells) (hslots : slots + N ≤ R.slots) (hdg : decode cc pc = .ok (.new index, 3))
    (kk : ∀ H1 : Heap, nG E b (n + 1) (va_up en n (.inr (ci, fs))) s H1 locs → W p l e R s m args below meth c H1 locs (cells + 1) (slots + N) Q (F0 m (pc + 3) ls (.ref (b + n) :: rest))) : W p l e R s m args below meth c H locs cells slots Q (F0 m pc ls rest) := by
  refine va_new (A := nA b) hF.1.1 hF.1.2.1 hF.1.2.2.2.2 hin ty hty hF.1.2.2.2.1 (hF.1.2.2.2.2 _ hcl) (hF.1.2.2.2.2 _ hinst) (hF.1.2.2.2.2 _ hini) hF.2.1 hG.1 nW_D hG.2.1 (n_hA hG) hc hfs hcells hslots hdg (fun q H1 hP hD hS => W_size (fun hz => ?_))
  have hq := n_addr hP hD (by omega)
  subst hq
  rw [nW_push] at hP
  exact kk H1 ⟨hP, hS, hG.2.2⟩
theorem n_newa (hF : nFx p m c cc nL s args Ts own E) (hG : nG E b n en s H locs) (hc9 : s.heap.size + cells ≤ b + n) (harr : Cond.arrayClass .int ∈ Ts) {x : Int32} {N : Nat} (hn : ¬ x < 0) (hN : x.toNatClampNeg = N) (hbytes : N * 4 ≤ 536870912) (hcells : cells + 1 ≤ R.cells) (hslots : slots + N ≤ R.slots) (hdg : decode cc pc = .ok (.newarray .int, 2))
    (kk : ∀ H1 : Heap, nG E b (n + 1) (va_up en n (.inl (E.2.2.1 0, N, .inl (fun _ => 0)))) s H1 locs → W p l e R s m args below meth c H1 locs (cells + 1) (slots + N) Q (F0 m (pc + 2) ls (.ref (b + n) :: rest))) : W p l e R s m args below meth c H locs cells slots Q (F0 m pc ls (.int x :: rest)) := by
  refine va_newa (A := nA b) (atype := .int) (ty := .int) (a0 := (N, .inl (fun _ => 0))) hF.1.1 hF.1.2.1 (hF.1.2.2.2.2 _ harr) rfl hF.2.1 hG.1 nW_D hG.2.1 (n_hA hG) (fun _ => rfl) hn hN hbytes hcells hslots hdg (fun q cA H1 hK hP hD hS => W_size (fun hz => ?_))
  have hq := n_addr hP hD (by omega)
  subst hq
  have h1 : va_RA s cA .int := (hK.2 6 (cA, .int) rfl).2
  have h2 : va_RA s (E.2.2.1 0) .int := (hF.2.1.2 0 (E.2.2.1 0, .int) rfl).2
  have hcA : cA = E.2.2.1 0 := Option.some.inj ((show s.vm.findClass _ = some cA from h1).symm.trans (show s.vm.findClass _ = some (E.2.2.1 0) from h2))
  subst hcA
  rw [nW_push] at hP
  exact kk H1 ⟨hP, hS, hG.2.2⟩
theorem n_newl (hF : nFx p m c cc nL s args Ts own E) (hG : nG E b n en s H locs) (hc9 : s.heap.size + cells ≤ b + n) (harr : Cond.arrayClass .long ∈ Ts) {x : Int32} {N : Nat} (hn : ¬ x < 0) (hN : x.toNatClampNeg = N) (hbytes : N * 8 ≤ 536870912) (hcells : cells + 1 ≤ R.cells) (hslots : slots + N ≤ R.slots) (hdg : decode cc pc = .ok (.newarray .long, 2))
    (kk : ∀ H1 : Heap, nG E b (n + 1) (va_up en n (.inl (E.2.2.1 5, N, .inr (.inl (fun _ => 0))))) s H1 locs → W p l e R s m args below meth c H1 locs (cells + 1) (slots + N) Q (F0 m (pc + 2) ls (.ref (b + n) :: rest))) : W p l e R s m args below meth c H locs cells slots Q (F0 m pc ls (.int x :: rest)) := by
  refine va_newa (A := nA b) (atype := .long) (ty := .long) (a0 := (N, .inr (.inl (fun _ => 0)))) hF.1.1 hF.1.2.1 (hF.1.2.2.2.2 _ harr) rfl hF.2.1 hG.1 nW_D hG.2.1 (n_hA hG) (fun _ => rfl) hn hN hbytes hcells hslots hdg (fun q cA H1 hK hP hD hS => W_size (fun hz => ?_))
  have hq := n_addr hP hD (by omega)
  subst hq
  have h1 : va_RA s cA .long := (hK.2 6 (cA, .long) rfl).2
  have h2 : va_RA s (E.2.2.1 5) .long := (hF.2.1.2 5 (E.2.2.1 5, .long) rfl).2
  have hcA : cA = E.2.2.1 5 := Option.some.inj ((show s.vm.findClass _ = some cA from h1).symm.trans (show s.vm.findClass _ = some (E.2.2.1 5) from h2))
  subst hcA
  rw [nW_push] at hP
  exact kk H1 ⟨hP, hS, hG.2.2⟩
theorem n_newq (hF : nFx p m c cc nL s args Ts own E) (hG : nG E b n en s H locs) (hc9 : s.heap.size + cells ≤ b + n) {C : String} {index : Nat} (t : Nat) (ht : (zT E)[t]? = some (E.2.2.1 t, .object C)) (hcl : Cond.classLink own index C ∈ Ts) (hover : va_AO C s) {x : Int32} {N : Nat} (hn : ¬ x < 0) (hN : x.toNatClampNeg = N) (hbytes : N * 4 ≤ 536870912) (hcells : cells + 1 ≤ R.cells) (hslots : slots + N ≤ R.slots) (hdg : decode cc pc = .ok (.anewarray index, 3))
    (kk : ∀ H1 : Heap, nG E b (n + 1) (va_up en n (.inl (E.2.2.1 t, N, .inr (.inr (.inr (.inr (fun _ => none))))))) s H1 locs → W p l e R s m args below meth c H1 locs (cells + 1) (slots + N) Q (F0 m (pc + 3) ls (.ref (b + n) :: rest))) : W p l e R s m args below meth c H locs cells slots Q (F0 m pc ls (.int x :: rest)) := by
  refine va_newq (A := nA b) hF.1.1 hF.1.2.1 hF.1.2.2.2.1 (hF.1.2.2.2.2 _ hcl) hover hF.2.1 hG.1 nW_D hG.2.1 (n_hA hG) hn hN hbytes hcells hslots hdg (fun q cA H1 hK hP hD hS => W_size (fun hz => ?_))
  have hq := n_addr hP hD (by omega)
  subst hq
  obtain ⟨kA, comp, -, -, -, h1⟩ : va_RA s cA (.object C) := (hK.2 6 (cA, .object C) rfl).2
  obtain ⟨kB, comp2, -, -, -, h2⟩ : va_RA s (E.2.2.1 t) (.object C) := (hF.2.1.2 t (E.2.2.1 t, .object C) ht).2
  have hcA : cA = E.2.2.1 t := Option.some.inj (h1.symm.trans h2)
  subst hcA
  rw [nW_push] at hP
  exact kk H1 ⟨hP, hS, hG.2.2⟩
theorem n_get (hF : nFx p m c cc nL s args Ts own E) (hG : nG E b n en s H locs) {ci : Nat} {fs : List Value} {C : String} {T : u_T} {N index : Nat} {ref : String} (i : Nat) (hi : i < n) (he : en i = .inr (ci, fs)) (hc : vwCl[ci]? = some (C, T, N)) (hin : ∀ w ∈ u_ws C T N, w ∈ Ts) (k : Nat) (hk : k < N) (hl : Cond.fieldLink own index ref (T k).2.1 (T k).2.2.1 ∈ Ts) (hs : (T k).1 = ref) {v : Value} (hv : fs[k]? = some v) (hdg : decode cc pc = .ok (.getfield index, 3)) (kk : W p l e R s m args below meth c H locs cells slots Q (F0 m (pc + 3) ls (v :: rest))) : W p l e R s m args below meth c H locs cells slots Q (F0 m pc ls (.ref (b + i) :: rest)) :=
  va_get hF.1.1 hF.1.2.1 hF.1.2.2.2.2 hin hF.1.2.2.2.1 hF.2.1 hG.1 i (by rw [nW_at hi, he]) hc k hk (hF.1.2.2.2.2 _ hl) (fun x h => hs ▸ h) hv hdg kk
theorem n_put (hF : nFx p m c cc nL s args Ts own E) (hG : nG E b n en s H locs) {ci : Nat} {fs : List Value} {C : String} {T : u_T} {N index : Nat} {ref : String} (i : Nat) (hi : i < n) (he : en i = .inr (ci, fs)) (hc : vwCl[ci]? = some (C, T, N)) (hin : ∀ w ∈ u_ws C T N, w ∈ Ts) {ty0 : Nat → FieldType} (hty : ∀ k, k < N → parseFieldDescriptor (T k).2.2.1 = some (ty0 k)) (hnm : ∀ a, a < N → ∀ b, b < N → a ≠ b → (T a).2.1 ≠ (T b).2.1) (k : Nat) (hk : k < N) (hl : Cond.fieldLink own index ref (T k).2.1 (T k).2.2.1 ∈ Ts) (hs : (T k).1 = ref) (hfin : (T k).2.2.2 = false) {ty : FieldType} {v : Value} (hd : parseFieldDescriptor (T k).2.2.1 = some ty) (hn : narrow ty v = v) (hfit : fits ty v = true) (hlen : k < fs.length) (hdg : decode cc pc = .ok (.putfield index, 3)) (kk : ∀ (H' : Heap) (locs' : List Loc), nG E b n (va_up en i (.inr (ci, fs.set k v))) s H' locs' → W p l e R s m args below meth c H' locs' cells slots Q (F0 m (pc + 3) ls rest)) : W p l e R s m args below meth c H locs cells slots Q (F0 m pc ls (v :: .ref (b + i) :: rest)) :=
  va_put (A := nA b) hF.1.1 hF.1.2.1 hF.1.2.2.2.2 hin ty0 hty hnm hF.1.2.2.2.1 hF.2.1 hG.1 nW_D hG.2.1 i (by rw [nW_at hi, he]) hc k hk (hF.1.2.2.2.2 _ hl) (fun x h => hs ▸ h) hfin hd hn hfit hlen hdg
    (fun H1 locs1 hP _ hS => kk H1 locs1 ⟨by rw [nW_set hi] at hP; exact hP, hS, hG.2.2⟩)
theorem n_putF (hF : nFx p m c cc nL s args Ts own E) (hG : nG E b n en s H locs) {ci : Nat} {fs : List Value} {C : String} {T : u_T} {N index : Nat} {ref : String} (i : Nat) (hi : i < n) (he : en i = .inr (ci, fs)) (hc : vwCl[ci]? = some (C, T, N)) (hin : ∀ w ∈ u_ws C T N, w ∈ Ts) {ty0 : Nat → FieldType} (hty : ∀ k, k < N → parseFieldDescriptor (T k).2.2.1 = some (ty0 k)) (hnm : ∀ a, a < N → ∀ b, b < N → a ≠ b → (T a).2.1 ≠ (T b).2.1) (k : Nat) (hk : k < N) (hl : Cond.fieldLink own index ref (T k).2.1 (T k).2.2.1 ∈ Ts) (hs : (T k).1 = ref) (hfin : (T k).2.2.2 = true) (hin2 : meth.name = "<init>") (hdecl : (T k).1 = own) {ty : FieldType} {v : Value} (hd : parseFieldDescriptor (T k).2.2.1 = some ty) (hn : narrow ty v = v) (hfit : fits ty v = true) (hlen : k < fs.length) (hdg : decode cc pc = .ok (.putfield index, 3)) (kk : ∀ (H' : Heap) (locs' : List Loc), nG E b n (va_up en i (.inr (ci, fs.set k v))) s H' locs' → W p l e R s m args below meth c H' locs' cells slots Q (F0 m (pc + 3) ls rest)) : W p l e R s m args below meth c H locs cells slots Q (F0 m pc ls (v :: .ref (b + i) :: rest)) :=
  va_putF (A := nA b) hF.1.1 hF.1.2.1 hF.1.2.2.2.2 hin ty0 hty hnm hF.1.2.2.2.1 hF.2.1 hG.1 nW_D hG.2.1 i (by rw [nW_at hi, he]) hc k hk (hF.1.2.2.2.2 _ hl) (fun x h => hs ▸ h) hfin hin2 hdecl hd hn hfit hlen hdg
    (fun H1 locs1 hP _ hS => kk H1 locs1 ⟨by rw [nW_set hi] at hP; exact hP, hS, hG.2.2⟩)
theorem n_astq (hF : nFx p m c cc nL s args Ts own E) (hG : nG E b n en s H locs) (i t k ci : Nat) (hi : i < n) (hk : k < n) {r : vw_C} {N : Nat} {vs : List Value} {f : Nat → Option Nat} (he : en i = .inl (E.2.2.1 t, N, .inr (.inr (.inr (.inr f))))) (ht : (zT E)[t]? = some (E.2.2.1 t, .object r.1)) (hv : en k = .inr (ci, vs)) (hc : vwCl[ci]? = some r) {x : Int32} (hin : vp_in x N) (hdg : decode cc pc = .ok (.aastore, 1))
    (kk : ∀ (H' : Heap) (locs' : List Loc), nG E b n (va_up en i (.inl (E.2.2.1 t, N, .inr (.inr (.inr (.inr (va_up f x.toNatClampNeg (some (b + k))))))))) s H' locs' → W p l e R s m args below meth c H' locs' cells slots Q (F0 m (pc + 1) ls rest)) : W p l e R s m args below meth c H locs cells slots Q (F0 m pc ls (.ref (b + k) :: .int x :: .ref (b + i) :: rest)) :=
  va_astq (A := nA b) hF.1.1 hF.1.2.1 hF.2.1 hG.1 nW_D hG.2.1 i t k ci (by rw [nW_at hi, he]) ht (by rw [nW_at hk, hv]) hc hin hdg
    (fun H1 locs1 hP _ hS => kk H1 locs1 ⟨by rw [nW_set hi] at hP; exact hP, hS, hG.2.2⟩)
theorem n_iast (hF : nFx p m c cc nL s args Ts own E) (hG : nG E b n en s H locs) (i : Nat) (hi : i < n) {N : Nat} {f : Nat → Int32} (he : en i = .inl (E.2.2.1 0, N, .inl f)) {j x : Int32} (hin : vp_in j N) (hdg : decode cc pc = .ok (.iastore, 1)) (kk : ∀ (H' : Heap) (locs' : List Loc), nG E b n (va_up en i (.inl (E.2.2.1 0, N, .inl (upd f j.toNatClampNeg x)))) s H' locs' → W p l e R s m args below meth c H' locs' cells slots Q (F0 m (pc + 1) ls rest)) : W p l e R s m args below meth c H locs cells slots Q (F0 m pc ls (.int x :: .int j :: .ref (b + i) :: rest)) :=
  va_iast (A := nA b) hF.1.1 hF.1.2.1 hF.2.1 hG.1 nW_D hG.2.1 i 0 (by rw [nW_at hi, he]) rfl hin hdg
    (fun H1 locs1 hP _ hS => kk H1 locs1 ⟨by rw [nW_set hi] at hP; exact hP, hS, hG.2.2⟩)
theorem n_pre (hF : nFx p m c cc nL s args Ts own E) (hG : nG E b n en s H locs) (hz : H.size = b + n) {As : List Value} : PreS s H (va_Pc As (nPre E b n en)) As := ⟨nPre.blind _, fun U hU hW => ⟨rfl, by rw [hU]; exact hz, by rw [hU]; exact hG.1, va_K.moved hW.alike hF.2.1, hF.2.2.moved hW.alike⟩⟩
/-- a constructor's call -/
theorem n_call (hG : nG E b n en s H locs) (hc9 : s.heap.size + cells ≤ b + n) {n1 mc ms : Nat} {K : (Nat → va_E) → Prop} {st0 : List Value} {a : Array Value} (hr : H.size = b + n → va_Run p l e R s m args below meth c H locs cells slots mc ms (F0 m pc ls st0) rest (va_Qv K (nB E b n1) (nA b) a) (nA b))
    (kk : ∀ (en1 : Nat → va_E) (H' : Heap) (locs' : List Loc), K en1 → nG E b n1 en1 s H' locs' → W p l e R s m args below meth c H' locs' (cells + mc) (slots + ms) Q (F0 m (pc + 3) ls rest)) : W p l e R s m args below meth c H locs cells slots Q (F0 m pc ls st0) :=
  W_size (fun hz => va_callv (hr (Nat.le_antisymm (by omega) hG.lo)) hG.2.1 (fun q _ h => h) (fun q h => h) (fun u t H1 locs1 ht _ hk hB _ _ hS => kk u H1 locs1 hk ⟨by rw [← ht]; exact hB, hS, hG.2.2⟩))
theorem n_vret {K : (Nat → va_E) → Prop} {mc ms : Nat} (hF : nFx p m c cc nL s args Ts own E) (hG : nG E b n en s H locs) (hr : meth.sig.returnType = none) (hlk : meth.locks = false) (hc : cells ≤ mc) (hs : slots ≤ ms) (hw : K en) (hdg : decode cc pc = .ok (.return_, 1)) : W p l e R s m args below meth c H locs cells slots (MQ below (va_Qv K (nB E b n) (nA b)) args s mc ms (nA b)) (F0 m pc ls []) :=
  W.widen hc hs (W.vret hF.1.1 hF.1.2.1 hr (fun t ht _ => ⟨⟨en, rfl, hw, (show va_P E.1 vwCl (nW b n en) t.heap by rw [ht]; exact hG.1)⟩, hG.2.1.F ht⟩) hG.2.1.2.2 hdg hlk)
theorem n_obj (hF : nFx p m c cc nL s args Ts own E) (hsz : ls.size = nL) {idx a : Nat} (hl : Cond.methodLink own idx objectInit ∈ Ts) (hi : Cond.instanceMethod objectInit ∈ Ts) (hcd : Cond.code objectInit ⟨#[0xb1]⟩ 1 none ∈ Ts) (hfr : 1 ≤ R.frames) (hlo : 12 ≤ R.locals) (hdg : decode cc pc = .ok (.invokespecial idx, 3)) (kk : W p l e R s m args below meth c H locs cells slots Q (F0 m (pc + 3) ls [])) : W p l e R s m args below meth c H locs cells slots Q (F0 m pc ls [.ref a]) :=
  W.objInit hF.1.1 hF.1.2.1 hF.1.2.2.2.1 (hF.1.2.2.2.2 _ hl) (hF.1.2.2.2.2 _ hi) (hF.1.2.2.2.2 _ hcd) rfl (hsz.trans hF.1.2.2.1.symm) rfl hdg hfr hlo (W.eq (g2 := F0 m (pc + 3) ls []) rfl kk)
/-- an array's cell is what its places are -/
theorem n_arr (hG : nG E b n en s H locs) (i : Nat) (hi : i < n) {cA : ClassId} {N : Nat} {f g : Nat → Option Nat} (he : en i = .inl (cA, N, .inr (.inr (.inr (.inr f))))) (hfg : ∀ j, j < N → f j = g j) : nG E b n (va_up en i (.inl (cA, N, .inr (.inr (.inr (.inr g)))))) s H locs := by
  refine ⟨?_, hG.2⟩
  rw [← nW_set hi]
  intro k q hk
  by_cases h : i = k
  · subst h
    rw [List.getElem?_set_self (by rw [nW_len]; exact hi)] at hk
    cases hk
    have h1 := hG.1 i _ (nW_at hi)
    rw [he] at h1
    have h2 : H[b + i]? = some (arrV cA N (fun j => va_rf (f j))) := h1
    show H[b + i]? = some (arrV cA N (fun j => va_rf (g j)))
    rw [h2]
    unfold arrV
    congr 2
    refine congrArg _ (funext fun j => ?_)
    show va_rf (f j.val) = va_rf (g j.val)
    rw [hfg j.val j.isLt]
  · rw [List.getElem?_set_ne h] at hk
    exact hG.1 k q hk
end NR
section NMB
variable {l : Launch} {y : MethodName} {ws ws' : List Cond} {rm : Room} {E : zE} {b n : Nat} {en : Nat → va_E} {av : List Value} {cc : ByteArray} {nL : Nat}
theorem n_body {n1 mc ms : Nat} {K : (Nat → va_E) → Prop} (hy : plainName y.cls = true) (hw : ws = Cond.code y cc nL none :: ws') (hyn : y.name = "<init>") (hle : (lg_sl av).length ≤ nL)
    (body : ∀ (p : Program) (e : Env) (R : Room) (s : State) (m : MethodId) (args : Array Value) (below : List Frame) (meth : Method) (c : Code) (ls : Array Slot), rm.frames ≤ R.frames → rm.locals ≤ R.locals → rm.cells ≤ R.cells → rm.slots ≤ R.slots → nFx p m c cc nL s args ws y.cls E → meth.sig.returnType = none → meth.locks = false → meth.name = "<init>" → s.heap.size = b + n → nG E b n en s s.heap [] → lv_has ls nL (lv_args 0 av) → W p l e R s m args below meth c s.heap [] 0 0 (MQ below (va_Qv K (nB E b n1) (nA b)) args s mc ms (nA b)) (F0 m 0 ls [])) : nM l y ws rm E b n en av n1 K mc ms := by
  refine Met.ofW (cc := cc) (maxL := nL) (ret := none) hy hw ?_
  intro p e s m args below meth c s₁ B hml hv
  obtain ⟨rfl, hsz, hP, hK, hN⟩ := hv
  rw [lg_entry_eq]
  have hnm : meth.name = "<init>" := (name_of_methodNamed B.named B.method).1.trans hyn
  exact body p e _ s m _ below meth c _ (Nat.le_refl _) (Nat.le_refl _) (Nat.le_refl _) (Nat.le_refl _) ⟨⟨B.exec, B.bytes, hml, findClass_of_methodNamed B.named, atoms_spec (ws := ws) B.pre⟩, hK, hN⟩ B.returns B.notSynchronized hnm hsz ⟨hP, va_S.rf, by omega⟩ (lv_entry av hle)
end NMB
