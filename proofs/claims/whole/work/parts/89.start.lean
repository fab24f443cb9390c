/-! THE START: the objects are made, then the loop -/
theorem goodIn_q {big : List Cond} (ws : List Cond) (ps : List Nat) (hp : ws = ps.filterMap (fun i => big[i]?)) : ∀ w ∈ ws, w ∈ big := by
  intro w hw
  rw [hp] at hw
  obtain ⟨i, -, hi⟩ := List.mem_filterMap.mp hw
  exact List.mem_of_getElem? hi
def lwNW : List Cond := [.methodLinkNest RX3 37 yX11_within RX11, .methodLinkNest RX5 47 yX11_partOf RX11, .methodLinkNest RX6 38 yX11_within RX11, .methodLinkNest RX8 24 yX11_within RX11, .methodLinkNest RX8 52 yX11_isBudget RX11, .methodLinkNest RX10 39 yX11_within RX11]
set_option maxRecDepth 20000 in
theorem lwNW_in : ∀ w ∈ lwNW, w ∈ lw_tbl := goodIn_t lwNW [(2, 146), (2, 132), (2, 88), (2, 92), (2, 113), (4, 39)] rfl
set_option maxRecDepth 20000 in
theorem lwXW_in : ∀ w ∈ zXW, w ∈ lw_tbl := goodIn_t zXW [(4, 142), (4, 144), (4, 146), (4, 143), (4, 145), (4, 147), (4, 141), (4, 229), (4, 213)] rfl
def lwAW : List Cond := [.arrayOver (.object "GreedyServers$Server"), .arrayOver (.object "GreedyServers$Shelf"), .arrayOver (.object "GreedyServers$Tray"), .arrayOver (.object "GreedyServers$Hard"), .castable RX0 RX1, .castable RX4 RX1, .castable RX7 RX1, .castable RX2 RX1, .castable RX9 RX1, .laysStatic Bundle.tN "UNASSIGNED_STACK" Bundle.steD, .laysStatic Bundle.tN "SUPPRESSED_SENTINEL" Bundle.listD, .initialized Bundle.tN, .stringRef RX11 375 "no such SHELF", .stringRef RX11 382 "no ROW, or no such place", .arrayClass .int, .arrayClass .long]
set_option maxRecDepth 20000 in
theorem lwAW_in : ∀ w ∈ lwAW, w ∈ lw_tbl := goodIn_t lwAW [(1, 99), (1, 213), (2, 6), (1, 64), (7, 14), (7, 15), (7, 16), (7, 17), (7, 18), (4, 166), (4, 168), (1, 18), (5, 11), (5, 24), (1, 187), (7, 9)] rfl
def lwIW : List Cond := [.instantiable RX0 2, .instantiable RX1 2, .instantiable RX2 2, .instantiable RX3 5, .instantiable RX4 2, .instantiable RX5 15, .instantiable RX6 6, .instantiable RX7 2, .instantiable RX9 2, .instantiable RX10 4, .instantiable RX11 11, .instantiable RX12 22]
set_option maxRecDepth 20000 in
theorem lwIW_in : ∀ w ∈ lwIW, w ∈ lw_tbl := goodIn_t lwIW [(1, 47), (1, 33), (1, 75), (1, 93), (1, 56), (1, 100), (1, 214), (1, 66), (1, 84), (2, 7), (1, 25), (5, 31)] rfl
set_option maxRecDepth 20000 in
theorem lw_up_in (h5 : ∀ w ∈ wsX50, w ∈ lw_tbl) : ∀ w ∈ zUpW, w ∈ lw_tbl := by
  intro w hw
  unfold zUpW at hw
  rcases List.mem_append.mp hw with h | h
  · exact goodIn_t _ [(2, 190), (2, 191), (1, 91), (1, 63), (2, 177), (1, 2)] rfl w h
  · unfold wsX1_wake at h
    rcases List.mem_cons.mp h with h | h
    · exact goodIn_t [Cond.code yX1_wake cX1_wake 2 none] [(2, 193)] rfl w (by rw [h]; exact List.mem_cons_self)
    · rcases List.mem_append.mp h with h | h
      · exact goodIn_t _ [(1, 136), (1, 113), (1, 127), (1, 131), (1, 117)] rfl w h
      · exact h5 w h
theorem lw_up {b : Nat} {s : State} (hts : ∀ w ∈ lw_tbl, w.before #[Value.ref b] s = true) (h5 : ∀ w ∈ wsX50, w ∈ lw_tbl) : zUp s := by
  intro w hw
  have h : w ∈ lw_tbl := lw_up_in h5 w hw
  exact va_tabs (zUpW_tabs w hw) rfl (hts w h)

theorem lw_arrC {b : Nat} {s : State} {ty : FieldType} (h : (Cond.arrayClass ty).before #[Value.ref b] s = true) (hty : ∀ C, ty ≠ .object C) : ∃ cA : ClassId, ArrOfT s cA ty ∧ va_RA s cA ty := by
  obtain ⟨cA, kA, comp, h1, h2, h3⟩ := Cond.arrayClass_spec h
  refine ⟨cA, fun n z => ⟨fun k h => (by cases h), kA, h2, comp, h3⟩, ?_⟩
  cases ty with
  | object C => exact absurd rfl (hty C)
  | _ => exact h1
theorem lw_arrO {b : Nat} {s : State} {C : String} (h : (Cond.arrayOver (.object C)).before #[Value.ref b] s = true) : ∃ cA : ClassId, ArrOfT s cA (.object C) ∧ va_RA s cA (.object C) := by
  obtain ⟨comp, cA, kA, h1, -, h2, h3, h4⟩ := Cond.arrayOver_spec h
  exact ⟨cA, fun n z => ⟨fun k h => (by cases h), kA, h2, comp, h3⟩, kA, comp, h2, h3, h1, h4⟩
theorem lw_str {b : Nat} {s : State} {k : Nat} {tx own : String} {cur : ClassId} (hc : s.vm.findClass own = some cur) (h : (Cond.stringRef own k tx).before #[Value.ref b] s = true) : ∃ sa : Nat, vk_R own k tx sa s := by
  obtain ⟨k1, cf, i, a, -, -, -, -, -, h6⟩ := Cond.stringRef_spec hc h
  exact ⟨a, vk_R.of h h6⟩
theorem lw_AO {b : Nat} {s : State} {C : String} (h : (Cond.arrayOver (.object C)).before #[Value.ref b] s = true) : va_AO C s := va_AO.of h
theorem Z0_z {i k : Nat} (h1 : ¬ (i = 54 ∨ i = 55 ∨ i = 56)) (h2 : ¬ i = 108) : Z0 i k = 0 := by
  unfold Z0
  rw [if_neg h1, if_neg h2]
theorem Z0_inv : zInv Z0 := by
  refine z0_inv rfl rfl rfl rfl rfl rfl (fun d hd => Z0_z (by omega) (by omega)) (fun d hd => Z0_z (by omega) (by omega)) (fun d hd i hi => Z0_z (by omega) (by omega)) (fun i hi => Z0_z (by omega) (by omega)) (fun t ht => Z0_z (by omega) (by omega)) (fun t ht => ?_)
  unfold Z0
  rw [if_neg (by omega), if_pos rfl, if_pos ht]
set_option maxHeartbeats 4000000 in
set_option maxRecDepth 20000 in
theorem lw_D {b : Nat} {s : State} (hts : ∀ w ∈ lw_tbl, w.before #[Value.ref b] s = true) : ∃ (D : va_G) (ct : Nat → ClassId), va_K D vwCl [(ct 0, .int), (ct 1, .object "GreedyServers$Server"), (ct 2, .object "GreedyServers$Shelf"), (ct 3, .object "GreedyServers$Tray"), (ct 4, .object "GreedyServers$Hard"), (ct 5, .long)] s := by
  have hw : ∀ w ∈ wsL_law, w.before #[Value.ref b] s = true := fun w h => hts w (wsL_law_in w h)
  have hi : ∀ w ∈ lwIW, w.before #[Value.ref b] s = true := fun w h => hts w (lwIW_in w h)
  have ha : ∀ w ∈ lwAW, w.before #[Value.ref b] s = true := fun w h => hts w (lwAW_in w h)
  obtain ⟨c0, i0, k0⟩ := u_known (C := RX0) (T := TX0) (N := 2) (n := 2) hw inlX0 (hi _ (List.mem_of_getElem? (i := 0) rfl))
  obtain ⟨c1, i1, k1⟩ := u_known (C := RX1) (T := TX1) (N := 2) (n := 2) hw inlX1 (hi _ (List.mem_of_getElem? (i := 1) rfl))
  obtain ⟨c2, i2, k2⟩ := u_known (C := RX2) (T := TX2) (N := 2) (n := 2) hw inlX2 (hi _ (List.mem_of_getElem? (i := 2) rfl))
  obtain ⟨c3, i3, k3⟩ := u_known (C := RX3) (T := TX3) (N := 5) (n := 5) hw inlX3 (hi _ (List.mem_of_getElem? (i := 3) rfl))
  obtain ⟨c4, i4, k4⟩ := u_known (C := RX4) (T := TX4) (N := 2) (n := 2) hw inlX4 (hi _ (List.mem_of_getElem? (i := 4) rfl))
  obtain ⟨c5, i5, k5⟩ := u_known (C := RX5) (T := TX5) (N := 15) (n := 15) hw inlX5 (hi _ (List.mem_of_getElem? (i := 5) rfl))
  obtain ⟨c6, i6, k6⟩ := u_known (C := RX6) (T := TX6) (N := 6) (n := 6) hw inlX6 (hi _ (List.mem_of_getElem? (i := 6) rfl))
  obtain ⟨c7, i7, k7⟩ := u_known (C := RX7) (T := TX7) (N := 2) (n := 2) hw inlX7 (hi _ (List.mem_of_getElem? (i := 7) rfl))
  obtain ⟨c8, i8, k8⟩ := u_known (C := RX9) (T := TX9) (N := 2) (n := 2) hw inlX9 (hi _ (List.mem_of_getElem? (i := 8) rfl))
  obtain ⟨c9, i9, k9⟩ := u_known (C := RX10) (T := TX10) (N := 4) (n := 4) hw inlX10 (hi _ (List.mem_of_getElem? (i := 9) rfl))
  obtain ⟨c10, i10, k10⟩ := u_known (C := RX11) (T := TX11) (N := 11) (n := 11) hw inlX11 (hi _ (List.mem_of_getElem? (i := 10) rfl))
  obtain ⟨c11, i11, k11⟩ := u_known (C := RX12) (T := TX12) (N := 22) (n := 22) hw inlX12 (hi _ (List.mem_of_getElem? (i := 11) rfl))
  obtain ⟨a0, b0, d0⟩ := lw_arrC (ha (.arrayClass .int) (List.mem_of_getElem? (i := 14) rfl)) (fun C h => by cases h)
  obtain ⟨a1, b1, d1⟩ := lw_arrO (ha _ (List.mem_of_getElem? (i := 0) rfl))
  obtain ⟨a2, b2, d2⟩ := lw_arrO (ha _ (List.mem_of_getElem? (i := 1) rfl))
  obtain ⟨a3, b3, d3⟩ := lw_arrO (ha _ (List.mem_of_getElem? (i := 2) rfl))
  obtain ⟨a4, b4, d4⟩ := lw_arrO (ha _ (List.mem_of_getElem? (i := 3) rfl))
  obtain ⟨a5, b5, d5⟩ := lw_arrC (ha (.arrayClass .long) (List.mem_of_getElem? (i := 15) rfl)) (fun C h => by cases h)
  refine ⟨(fun k => [c0, c1, c2, c3, c4, c5, c6, c7, c8, c9, c10, c11].getD k 0, fun k => [i0, i1, i2, i3, i4, i5, i6, i7, i8, i9, i10, i11].getD k (fun _ => 0)), fun k => [a0, a1, a2, a3, a4, a5].getD k 0, fun k q hq => ?_, fun k q hq => ?_⟩
  · match k, hq with
    | 0, hq => cases hq; exact k0
    | 1, hq => cases hq; exact k1
    | 2, hq => cases hq; exact k2
    | 3, hq => cases hq; exact k3
    | 4, hq => cases hq; exact k4
    | 5, hq => cases hq; exact k5
    | 6, hq => cases hq; exact k6
    | 7, hq => cases hq; exact k7
    | 8, hq => cases hq; exact k8
    | 9, hq => cases hq; exact k9
    | 10, hq => cases hq; exact k10
    | 11, hq => cases hq; exact k11
    | k + 12, hq => simp [vwCl] at hq
  · match k, hq with
    | 0, hq => cases hq; exact ⟨b0, d0⟩
    | 1, hq => cases hq; exact ⟨b1, d1⟩
    | 2, hq => cases hq; exact ⟨b2, d2⟩
    | 3, hq => cases hq; exact ⟨b3, d3⟩
    | 4, hq => cases hq; exact ⟨b4, d4⟩
    | 5, hq => cases hq; exact ⟨b5, d5⟩
    | k + 6, hq => simp at hq
set_option maxHeartbeats 4000000 in
set_option maxRecDepth 20000 in
/-- the law, from its entry -/
theorem whole_start {p : Program} {e : Env} {s : State} {m : MethodId} {below : List Frame} {meth : Method} {c : Code} (l : Launch) (hflags : l.flags = flags0) {b L : Nat} {xs : Nat → Int32} (hL : L ≤ 3072) (C0 : lw_At p s m meth c b L xs) : W p l e room_1 s m #[Value.ref b] below meth c s.heap [] 0 0 (lw_Z below #[Value.ref b] s) (entryFrame m ([Value.ref b] : List Value).toArray 8) := by
  obtain ⟨hx, hb, hr, hml, hown, htb, hX, hbl, hlk, hgv⟩ := id C0
  have hts : ∀ w ∈ wsL_law, w.before #[Value.ref b] s = true := fun w h => htb w (wsL_law_in w h)
  have haw : ∀ w ∈ lwAW, w.before #[Value.ref b] s = true := fun w h => htb w (lwAW_in w h)
  have hnw : ∀ w ∈ lwNW, w.before #[Value.ref b] s = true := fun w h => htb w (lwNW_in w h)
  have hxw : ∀ w ∈ zXW, w.before #[Value.ref b] s = true := fun w h => htb w (lwXW_in w h)
  obtain ⟨D, ct, hK⟩ := lw_D htb
  obtain ⟨B0, hB0⟩ : ∃ z, z = s.heap.size := ⟨_, rfl⟩
  have hK : va_K (nE D B0 ct).1 vwCl (zT (nE D B0 ct)) s := hK
  have hS0 : CallFix p m c cL_law 8 s #[Value.ref b] wsL_law RL := ⟨hx, hb, hml, hown, hts⟩
  have hAO : nAO s := ⟨lw_AO (haw _ (List.mem_of_getElem? (i := 0) rfl)), lw_AO (haw _ (List.mem_of_getElem? (i := 1) rfl)), lw_AO (haw _ (List.mem_of_getElem? (i := 2) rfl)), lw_AO (haw _ (List.mem_of_getElem? (i := 3) rfl)), va_Nw.of rfl (haw _ (List.mem_of_getElem? (i := 4) rfl)), va_Nw.of rfl (haw _ (List.mem_of_getElem? (i := 5) rfl)), va_Nw.of rfl (haw _ (List.mem_of_getElem? (i := 6) rfl)), va_Nw.of rfl (haw _ (List.mem_of_getElem? (i := 7) rfl)), va_Nw.of rfl (haw _ (List.mem_of_getElem? (i := 8) rfl))⟩
  have hF : nFx p m c cL_law 8 s #[Value.ref b] wsL_law RL (nE D B0 ct) := ⟨hS0, hK, hAO⟩
  have hG : nG (nE D B0 ct) B0 0 (fun _ => .inr (0, [])) s s.heap [] := ⟨fun k q h => by simp [nW] at h, va_S.rf, by omega⟩
  have hl := lv_entry ([.ref b]) (n := 8) (Nat.le_of_ble_eq_true rfl)
  rw [lg_entry_eq]
  generalize (lg_sl ([.ref b]) ++ List.replicate (8 - (lg_sl ([.ref b])).length) Slot.unset).toArray = ls at hl ⊢
  have hl : lv_has ls 8 [(0, .ref b)] := hl
  have rc : ∀ k, k ≤ 601024 → k ≤ room_1.cells := fun k h => h
  have rs : ∀ k, k ≤ 7293034 → k ≤ room_1.slots := fun k h => h
  refine n_new (fs := [.null, .null, .null, .null, .int 0, .null, .null, .null, .null, .null, .int 0]) (ci := 10) hF hG (by omega) inlX11 tyX11 tyX11_ok (List.mem_of_getElem? (i := 0) rfl) (List.mem_of_getElem? (i := 1) rfl) (List.mem_of_getElem? (i := 2) rfl) rfl (by decide +kernel) (rc _ (by omega)) (rs _ (by omega)) dL_law_0 (fun H hG => ?_)
  refine lv_dup hx hb dL_law_3 rfl ?_
  refine n_call hG (by omega) (fun hz => va_runI (As := []) (rest := [.ref (B0 + 0)]) hS0 (kX11_init l D B0 ct _ (va_up_s _ _ _)) (cwI 0 hts gL_law_X11_init rfl rfl rfl (hts _ (List.mem_of_getElem? (i := 2) rfl)) (hts _ (List.mem_of_getElem? (i := 7) rfl)) (hts _ (List.mem_of_getElem? (i := 8) rfl)) rfl (by decide +kernel) ⟨Nat.le_of_ble_eq_true rfl, Nat.le_of_ble_eq_true rfl⟩) (n_pre hF hG hz) rfl rfl hl.1 rfl (lv_room (Nat.le_of_ble_eq_true rfl)) dL_law_4 ⟨rc _ (by omega), rs _ (by omega)⟩) (fun en1 H locs hf1 hG => ?_)
  refine lv_astore_n (lv' := [(1, .ref (B0 + 0)), (0, .ref b)]) hx hb dL_law_7 rfl hl (by decide) rfl (fun ls hl => ?_)
  refine n_new (fs := [.int 0, .int 0, .null, .null, .null, .int 0, .int 0, .int 0, .int 0, .null, .null, .int 0, .null, .int 0, .null, .null, .null, .null, .null, .null, .null, .int 0]) (ci := 11) hF hG (by omega) inlX12 tyX12 tyX12_ok (List.mem_of_getElem? (i := 3) rfl) (List.mem_of_getElem? (i := 4) rfl) (List.mem_of_getElem? (i := 5) rfl) rfl (by decide +kernel) (rc _ (by omega)) (rs _ (by omega)) dL_law_8 (fun H hG => ?_)
  refine lv_dup hx hb dL_law_11 rfl ?_
  refine n_call hG (by omega) (fun hz => va_runI (As := []) (rest := [.ref (B0 + 97)]) hS0 (kX12_init l D B0 ct _ (va_up_s _ _ _) (fun j hj => (va_up_n (by omega)).trans (hf1 j hj))) (cwI 0 hts gL_law_X12_init rfl rfl rfl (hts _ (List.mem_of_getElem? (i := 5) rfl)) (hts _ (List.mem_of_getElem? (i := 106) rfl)) (hts _ (List.mem_of_getElem? (i := 107) rfl)) rfl (by decide +kernel) ⟨Nat.le_of_ble_eq_true rfl, Nat.le_of_ble_eq_true rfl⟩) (n_pre hF hG hz) rfl rfl hl.1 rfl (lv_room (Nat.le_of_ble_eq_true rfl)) dL_law_12 ⟨rc _ (by omega), rs _ (by omega)⟩) (fun en2 H locs hf2 hG => ?_)
  refine lv_astore_n (lv' := [(2, .ref (B0 + 97)), (1, .ref (B0 + 0)), (0, .ref b)]) hx hb dL_law_15 rfl hl (by decide) rfl (fun ls hl => ?_)
  refine lv_iconst (v := 1) hx hb dL_law_16 (by decide) ?_
  refine n_newl (N := 1) hF hG (by omega) (List.mem_of_getElem? (i := 6) rfl) (by decide) (by decide) (by decide) (rc _ (by omega)) (rs _ (by omega)) dL_law_17 (fun H hG => ?_)
  refine lv_astore_n (lv' := [(3, .ref (B0 + 111)), (2, .ref (B0 + 97)), (1, .ref (B0 + 0)), (0, .ref b)]) hx hb dL_law_19 rfl hl (by decide) rfl (fun ls hl => ?_)
  refine lv_iconst (v := 0) hx hb dL_law_20 (by decide) ?_
  refine lv_istore (lv' := [(4, .int 0), (3, .ref (B0 + 111)), (2, .ref (B0 + 97)), (1, .ref (B0 + 0)), (0, .ref b)]) hx hb dL_law_21 hl (by decide) rfl (fun ls hl => ?_)
  have hE : ∀ q, zA (nE D B0 ct) s.heap.size q → s.heap.size ≤ q := by
    rintro q (⟨i, -, rfl⟩ | h)
    · show s.heap.size ≤ B0 + sg i
      omega
    · exact h
  have hAn : ∀ a : Nat, a < s.heap.size → ¬ zA (nE D B0 ct) s.heap.size a := fun a h1 h2 => absurd (hE a h2) (by omega)
  have hP : va_P (nE D B0 ct).1 vwCl (zw (nE D B0 ct) Z0) H := fin_P hG.1 (fun k hk => by
    by_cases h : k = 111
    · subst h; rw [va_up_s]; rfl
    · rw [va_up_n h]; exact hf2 k (by omega))
  have hSz : va_S (zA (nE D B0 ct) s.heap.size) s.heap H locs := ⟨hG.2.1.1, fun q h1 h2 => hG.2.1.2.1 q h1 (fun h3 => h2 (Or.inr (by have : B0 ≤ q := h3; omega))), fun q hq => Or.inr (by have : B0 ≤ q.base := hG.2.1.2.2 q hq; omega)⟩
  have hfl := flat_of_before _ hgv
  have hN : zNest s := ⟨va_Nw.of rfl (hnw _ (List.mem_of_getElem? (i := 0) rfl)), va_Nw.of rfl (hnw _ (List.mem_of_getElem? (i := 1) rfl)), va_Nw.of rfl (hnw _ (List.mem_of_getElem? (i := 2) rfl)), va_Nw.of rfl (hnw _ (List.mem_of_getElem? (i := 3) rfl)), va_Nw.of rfl (hnw _ (List.mem_of_getElem? (i := 4) rfl)), va_Nw.of rfl (hnw _ (List.mem_of_getElem? (i := 5) rfl)), lw_up htb (fun w h => wsL_law_in w (inlX5 w h))⟩
  have hZ : zFx p m c cL_law 8 s #[Value.ref b] wsL_law RL (nE D B0 ct) := ⟨hS0, hK, hN, fin_inj⟩
  have hc11 : s.vm.findClass RX11 = some (D.1 10) := (hK.1 10 _ rfl).2.1
  have hXe : zXe (zA (nE D B0 ct) s.heap.size) s s.heap := by
    refine ⟨vx_Zqof (haw _ (List.mem_of_getElem? (i := 9) rfl)) (haw _ (List.mem_of_getElem? (i := 11) rfl)) (hfl (.isRef (.static Bundle.tN "UNASSIGNED_STACK" Bundle.steD)) (by decide +kernel)) hAn, vx_Zqof (haw _ (List.mem_of_getElem? (i := 10) rfl)) (haw _ (List.mem_of_getElem? (i := 11) rfl)) (hfl (.isRef (.static Bundle.tN "SUPPRESSED_SENTINEL" Bundle.listD)) (by decide +kernel)) hAn, fun w hw => va_tabs (zXw.tabs w hw) rfl (hxw w hw), ⟨va_Nc.of (hfl (.not (.castable zIAE zISE)) (by decide +kernel)), va_Nc.of (hfl (.not (.castable zUOE zISE)) (by decide +kernel)), va_Nc.of (hfl (.not (.castable zUOE zIAE)) (by decide +kernel)), va_Nc.of (hfl (.not (.castable zISE zIAE)) (by decide +kernel))⟩, lw_str hc11 (haw _ (List.mem_of_getElem? (i := 12) rfl)), lw_str hc11 (haw _ (List.mem_of_getElem? (i := 13) rfl))⟩
  have hC : lwF p m c s b L xs (nE D B0 ct) := ⟨hZ, hXe, hX, hbl, hAn b hbl, hL⟩
  exact lw_loop l hflags hC hr hlk hE L 0 0 Z0 H locs ls (by omega) (by omega) Z0_inv ⟨hP, hSz⟩ hl
