/-! THE LAW: helpers of its cases -/
/-- what is fixed in the law's body -/
def lwF (p : Program) (m : MethodId) (c : Code) (s : State) (b L : Nat) (xs : Nat → Int32) (E : zE) : Prop := zFx p m c cL_law 8 s #[Value.ref b] wsL_law RL E ∧ zXe (zA E s.heap.size) s s.heap ∧ va_X b L xs s s.heap ∧ b < s.heap.size ∧ ¬ zA E s.heap.size b ∧ L ≤ 3072
abbrev lwLV (E : zE) (b j : Nat) : List (Nat × Value) := [(4, .int (nI (6 * j))), (3, .ref (E.2.1 111)), (2, .ref (E.2.1 97)), (1, .ref (E.2.1 96)), (0, .ref b)]
/-- behind a case -/
abbrev lwT (p : Program) (l : Launch) (e : Env) (s : State) (m : MethodId) (below : List Frame) (meth : Method) (c : Code) (b j : Nat) (E : zE) (Q : State → Prop) : Prop := ∀ (x : Int64) (Z : zS) (H : Heap) (locs : List Loc) (ls : Array Slot), zInv Z → zG (zEo E x) Z s H locs → lv_has ls 8 (lwLV E b j) → W p l e room_1 s m #[Value.ref b] below meth c H locs (112 + j + 1) (2948 + 6 * j + 6) Q (F0 m 1835 ls [])
theorem lw_room {j L : Nat} (hj : 6 * j + 6 ≤ L) (hL : L ≤ 3072) : 112 + j + 1 ≤ room_1.cells ∧ 2948 + 6 * j + 6 ≤ room_1.slots := by
  show 112 + j + 1 ≤ 601024 ∧ 2948 + 6 * j + 6 ≤ 7293034
  omega
section LWA
variable {p : Program} {l : Launch} {e : Env} {R : Room} {s : State} {m : MethodId} {args : Array Value} {below : List Frame} {meth : Method} {c : Code} {H : Heap} {locs : List Loc} {cells slots : Nat} {Q : State → Prop}
variable {b L j : Nat} {xs : Nat → Int32} {E E' : zE} {Z : zS} {ls : Array Slot} {rest : List Value}
theorem lw_arg {lv : List (Nat × Value)} (hC : lwF p m c s b L xs E) (hG : zG E' Z s H locs) (hE : E'.2.1 = E.2.1) (h0 : ls[0]? = some (.val (.ref b))) (h4 : ls[4]? = some (.val (.int (nI (6 * j))))) (hj : 6 * j + 6 ≤ L) (k : Nat) (hk : k < 6) {pc : Nat} {v : Int} (d0 : decode cL_law pc = .ok (.aload_n 0, 1)) (d1 : decode cL_law (pc + 1) = .ok (.iload 4, 2)) (d2 : decode cL_law (pc + 3) = .ok (.iconst v, 1)) (hv : Int32.ofInt v = nI k) (d3 : decode cL_law (pc + 4) = .ok (.iadd, 1)) (d4 : decode cL_law (pc + 5) = .ok (.iaload, 1))
    (kk : W p l e R s m args below meth c H locs cells slots Q (F0 m (pc + 6) ls (.int (xs (6 * j + k)) :: rest))) : W p l e R s m args below meth c H locs cells slots Q (F0 m pc ls rest) := by
  have hx := hC.1.1.1
  have hb := hC.1.1.2.1
  have hL := hC.2.2.2.2.2
  have hA : ¬ zA E' s.heap.size b := by
    intro h
    refine hC.2.2.2.2.1 (h.elim (fun h => Or.inl ?_) Or.inr)
    obtain ⟨i, hi, e1⟩ := h
    exact ⟨i, hi, by rw [e1, hE]⟩
  refine lv_aload_n hx hb d0 rfl h0 ?_
  refine lv_iload hx hb d1 h4 ?_
  refine lv_iconst hx hb d2 hv ?_
  refine lv_iadd hx hb d3 ?_
  rw [nI_add]
  refine va_sld hx hb hC.2.2.1 hC.2.2.2.1 hA hG.2 (vp_in_nI (by omega) (by omega)) d4 ?_
  rw [nI_clamp (by omega)]
  exact kk
end LWA
