/-! CONSTRUCTORS: kinds, servers, shelves, trays, plants -/
set_option maxHeartbeats 1000000 in
theorem kX1_init_X1N (l : Launch) (E : zE) (b n : Nat) (en : Nat → va_E) (k : Nat) (a1 : Int32) (hk : k < n) (he : en k = .inr (1, [.int 0, .null])) : nM l yX1_init wsX1_init ({ frames := 1, cells := 0, slots := 0, locals := 12 } : Room) E b n en [.ref (b + k), .int a1, .null] n (fun en1 => en1 = va_up en k (.inr (1, [.int a1, .null]))) 0 0 := by
  refine n_body (cc := cX1_init) (nL := 3) (by decide) rfl rfl (Nat.le_of_ble_eq_true rfl) ?_
  intro p e R s m args below meth c ls hfr hlo hce hsl hF hr hlk hnm hsz hG hl
  have hx := hF.1.1
  have hb := hF.1.2.1
  have hts := hF.1.2.2.2.2
  have hl : lv_has ls 3 [(0, .ref (b + k)), (1, .int a1), (2, .null)] := hl
  have inS : ∀ w ∈ u_ws RX1 TX1 2, w ∈ wsX1_init := fun _ h => List.mem_cons_of_mem _ (List.mem_append_left _ (List.mem_append_left _ (List.mem_append_left _ (List.mem_append_left _ (List.mem_append_right _ h)))))
  refine lv_aload_n hx hb dX1_init_0 rfl (lv_at hl 0 rfl) ?_
  refine n_obj hF hl.1 (List.mem_of_getElem? (i := 1) rfl) (List.mem_of_getElem? (i := 2) rfl) (List.mem_of_getElem? (i := 3) rfl) (Nat.le_trans (Nat.le_of_ble_eq_true rfl) hfr) (Nat.le_trans (Nat.le_of_ble_eq_true rfl) hlo) dX1_init_1 ?_
  refine lv_aload_n hx hb dX1_init_4 rfl (lv_at hl 0 rfl) ?_
  refine lv_iload_n hx hb dX1_init_5 rfl (lv_at hl 1 rfl) ?_
  refine n_putF (ty := .int) hF hG k hk he rfl inS tyX1_ok nmX1 0 (by decide) (List.mem_of_getElem? (i := 4) rfl) rfl rfl hnm rfl (by decide +kernel) rfl rfl (Nat.le_of_ble_eq_true rfl) dX1_init_6 (fun H locs hG => ?_)
  refine lv_aload_n hx hb dX1_init_9 rfl (lv_at hl 0 rfl) ?_
  refine lv_aload_nN hx hb dX1_init_10 rfl (lv_at hl 2 rfl) ?_
  refine n_putF (ty := .object "GreedyServers$Hard") hF hG k hk (if_pos rfl) rfl inS tyX1_ok nmX1 1 (by decide) (List.mem_of_getElem? (i := 5) rfl) rfl rfl hnm rfl (by decide +kernel) rfl rfl (Nat.le_of_ble_eq_true rfl) dX1_init_11 (fun H locs hG => ?_)
  refine n_vret hF hG hr hlk (Nat.zero_le _) (Nat.zero_le _) ?_ dX1_init_14
  funext j
  by_cases h : j = k <;> simp [va_up, h]
set_option maxHeartbeats 1000000 in
theorem kX1_init_X0 (l : Launch) (E : zE) (b n : Nat) (en : Nat → va_E) (k : Nat) (a1 : Int32) (x : Nat) (hk : k < n) (he : en k = .inr (0, [.int 0, .null])) : nM l yX1_init wsX1_init ({ frames := 1, cells := 0, slots := 0, locals := 12 } : Room) E b n en [.ref (b + k), .int a1, .ref x] n (fun en1 => en1 = va_up en k (.inr (0, [.int a1, .ref x]))) 0 0 := by
  refine n_body (cc := cX1_init) (nL := 3) (by decide) rfl rfl (Nat.le_of_ble_eq_true rfl) ?_
  intro p e R s m args below meth c ls hfr hlo hce hsl hF hr hlk hnm hsz hG hl
  have hx := hF.1.1
  have hb := hF.1.2.1
  have hts := hF.1.2.2.2.2
  have hl : lv_has ls 3 [(0, .ref (b + k)), (1, .int a1), (2, .ref x)] := hl
  have inS : ∀ w ∈ u_ws RX0 TX0 2, w ∈ wsX1_init := fun _ h => List.mem_cons_of_mem _ (List.mem_append_left _ (List.mem_append_left _ (List.mem_append_left _ (List.mem_append_left _ (List.mem_append_left _ (List.mem_append_right _ h))))))
  refine lv_aload_n hx hb dX1_init_0 rfl (lv_at hl 0 rfl) ?_
  refine n_obj hF hl.1 (List.mem_of_getElem? (i := 1) rfl) (List.mem_of_getElem? (i := 2) rfl) (List.mem_of_getElem? (i := 3) rfl) (Nat.le_trans (Nat.le_of_ble_eq_true rfl) hfr) (Nat.le_trans (Nat.le_of_ble_eq_true rfl) hlo) dX1_init_1 ?_
  refine lv_aload_n hx hb dX1_init_4 rfl (lv_at hl 0 rfl) ?_
  refine lv_iload_n hx hb dX1_init_5 rfl (lv_at hl 1 rfl) ?_
  refine n_putF (ty := .int) hF hG k hk he rfl inS tyX0_ok nmX0 0 (by decide) (List.mem_of_getElem? (i := 4) rfl) rfl rfl hnm rfl (by decide +kernel) rfl rfl (Nat.le_of_ble_eq_true rfl) dX1_init_6 (fun H locs hG => ?_)
  refine lv_aload_n hx hb dX1_init_9 rfl (lv_at hl 0 rfl) ?_
  refine lv_aload_n hx hb dX1_init_10 rfl (lv_at hl 2 rfl) ?_
  refine n_putF (ty := .object "GreedyServers$Hard") hF hG k hk (if_pos rfl) rfl inS tyX0_ok nmX0 1 (by decide) (List.mem_of_getElem? (i := 5) rfl) rfl rfl hnm rfl (by decide +kernel) rfl rfl (Nat.le_of_ble_eq_true rfl) dX1_init_11 (fun H locs hG => ?_)
  refine n_vret hF hG hr hlk (Nat.zero_le _) (Nat.zero_le _) ?_ dX1_init_14
  funext j
  by_cases h : j = k <;> simp [va_up, h]
set_option maxHeartbeats 1000000 in
theorem kX1_init_X2 (l : Launch) (E : zE) (b n : Nat) (en : Nat → va_E) (k : Nat) (a1 : Int32) (x : Nat) (hk : k < n) (he : en k = .inr (2, [.int 0, .null])) : nM l yX1_init wsX1_init ({ frames := 1, cells := 0, slots := 0, locals := 12 } : Room) E b n en [.ref (b + k), .int a1, .ref x] n (fun en1 => en1 = va_up en k (.inr (2, [.int a1, .ref x]))) 0 0 := by
  refine n_body (cc := cX1_init) (nL := 3) (by decide) rfl rfl (Nat.le_of_ble_eq_true rfl) ?_
  intro p e R s m args below meth c ls hfr hlo hce hsl hF hr hlk hnm hsz hG hl
  have hx := hF.1.1
  have hb := hF.1.2.1
  have hts := hF.1.2.2.2.2
  have hl : lv_has ls 3 [(0, .ref (b + k)), (1, .int a1), (2, .ref x)] := hl
  have inS : ∀ w ∈ u_ws RX2 TX2 2, w ∈ wsX1_init := fun _ h => List.mem_cons_of_mem _ (List.mem_append_left _ (List.mem_append_left _ (List.mem_append_left _ (List.mem_append_right _ h))))
  refine lv_aload_n hx hb dX1_init_0 rfl (lv_at hl 0 rfl) ?_
  refine n_obj hF hl.1 (List.mem_of_getElem? (i := 1) rfl) (List.mem_of_getElem? (i := 2) rfl) (List.mem_of_getElem? (i := 3) rfl) (Nat.le_trans (Nat.le_of_ble_eq_true rfl) hfr) (Nat.le_trans (Nat.le_of_ble_eq_true rfl) hlo) dX1_init_1 ?_
  refine lv_aload_n hx hb dX1_init_4 rfl (lv_at hl 0 rfl) ?_
  refine lv_iload_n hx hb dX1_init_5 rfl (lv_at hl 1 rfl) ?_
  refine n_putF (ty := .int) hF hG k hk he rfl inS tyX2_ok nmX2 0 (by decide) (List.mem_of_getElem? (i := 4) rfl) rfl rfl hnm rfl (by decide +kernel) rfl rfl (Nat.le_of_ble_eq_true rfl) dX1_init_6 (fun H locs hG => ?_)
  refine lv_aload_n hx hb dX1_init_9 rfl (lv_at hl 0 rfl) ?_
  refine lv_aload_n hx hb dX1_init_10 rfl (lv_at hl 2 rfl) ?_
  refine n_putF (ty := .object "GreedyServers$Hard") hF hG k hk (if_pos rfl) rfl inS tyX2_ok nmX2 1 (by decide) (List.mem_of_getElem? (i := 5) rfl) rfl rfl hnm rfl (by decide +kernel) rfl rfl (Nat.le_of_ble_eq_true rfl) dX1_init_11 (fun H locs hG => ?_)
  refine n_vret hF hG hr hlk (Nat.zero_le _) (Nat.zero_le _) ?_ dX1_init_14
  funext j
  by_cases h : j = k <;> simp [va_up, h]
set_option maxHeartbeats 1000000 in
theorem kX1_init_X4 (l : Launch) (E : zE) (b n : Nat) (en : Nat → va_E) (k : Nat) (a1 : Int32) (x : Nat) (hk : k < n) (he : en k = .inr (4, [.int 0, .null])) : nM l yX1_init wsX1_init ({ frames := 1, cells := 0, slots := 0, locals := 12 } : Room) E b n en [.ref (b + k), .int a1, .ref x] n (fun en1 => en1 = va_up en k (.inr (4, [.int a1, .ref x]))) 0 0 := by
  refine n_body (cc := cX1_init) (nL := 3) (by decide) rfl rfl (Nat.le_of_ble_eq_true rfl) ?_
  intro p e R s m args below meth c ls hfr hlo hce hsl hF hr hlk hnm hsz hG hl
  have hx := hF.1.1
  have hb := hF.1.2.1
  have hts := hF.1.2.2.2.2
  have hl : lv_has ls 3 [(0, .ref (b + k)), (1, .int a1), (2, .ref x)] := hl
  have inS : ∀ w ∈ u_ws RX4 TX4 2, w ∈ wsX1_init := fun _ h => List.mem_cons_of_mem _ (List.mem_append_left _ (List.mem_append_left _ (List.mem_append_right _ h)))
  refine lv_aload_n hx hb dX1_init_0 rfl (lv_at hl 0 rfl) ?_
  refine n_obj hF hl.1 (List.mem_of_getElem? (i := 1) rfl) (List.mem_of_getElem? (i := 2) rfl) (List.mem_of_getElem? (i := 3) rfl) (Nat.le_trans (Nat.le_of_ble_eq_true rfl) hfr) (Nat.le_trans (Nat.le_of_ble_eq_true rfl) hlo) dX1_init_1 ?_
  refine lv_aload_n hx hb dX1_init_4 rfl (lv_at hl 0 rfl) ?_
  refine lv_iload_n hx hb dX1_init_5 rfl (lv_at hl 1 rfl) ?_
  refine n_putF (ty := .int) hF hG k hk he rfl inS tyX4_ok nmX4 0 (by decide) (List.mem_of_getElem? (i := 4) rfl) rfl rfl hnm rfl (by decide +kernel) rfl rfl (Nat.le_of_ble_eq_true rfl) dX1_init_6 (fun H locs hG => ?_)
  refine lv_aload_n hx hb dX1_init_9 rfl (lv_at hl 0 rfl) ?_
  refine lv_aload_n hx hb dX1_init_10 rfl (lv_at hl 2 rfl) ?_
  refine n_putF (ty := .object "GreedyServers$Hard") hF hG k hk (if_pos rfl) rfl inS tyX4_ok nmX4 1 (by decide) (List.mem_of_getElem? (i := 5) rfl) rfl rfl hnm rfl (by decide +kernel) rfl rfl (Nat.le_of_ble_eq_true rfl) dX1_init_11 (fun H locs hG => ?_)
  refine n_vret hF hG hr hlk (Nat.zero_le _) (Nat.zero_le _) ?_ dX1_init_14
  funext j
  by_cases h : j = k <;> simp [va_up, h]
set_option maxHeartbeats 1000000 in
theorem kX1_init_X7 (l : Launch) (E : zE) (b n : Nat) (en : Nat → va_E) (k : Nat) (a1 : Int32) (x : Nat) (hk : k < n) (he : en k = .inr (7, [.int 0, .null])) : nM l yX1_init wsX1_init ({ frames := 1, cells := 0, slots := 0, locals := 12 } : Room) E b n en [.ref (b + k), .int a1, .ref x] n (fun en1 => en1 = va_up en k (.inr (7, [.int a1, .ref x]))) 0 0 := by
  refine n_body (cc := cX1_init) (nL := 3) (by decide) rfl rfl (Nat.le_of_ble_eq_true rfl) ?_
  intro p e R s m args below meth c ls hfr hlo hce hsl hF hr hlk hnm hsz hG hl
  have hx := hF.1.1
  have hb := hF.1.2.1
  have hts := hF.1.2.2.2.2
  have hl : lv_has ls 3 [(0, .ref (b + k)), (1, .int a1), (2, .ref x)] := hl
  have inS : ∀ w ∈ u_ws RX7 TX7 2, w ∈ wsX1_init := fun _ h => List.mem_cons_of_mem _ (List.mem_append_left _ (List.mem_append_right _ h))
  refine lv_aload_n hx hb dX1_init_0 rfl (lv_at hl 0 rfl) ?_
  refine n_obj hF hl.1 (List.mem_of_getElem? (i := 1) rfl) (List.mem_of_getElem? (i := 2) rfl) (List.mem_of_getElem? (i := 3) rfl) (Nat.le_trans (Nat.le_of_ble_eq_true rfl) hfr) (Nat.le_trans (Nat.le_of_ble_eq_true rfl) hlo) dX1_init_1 ?_
  refine lv_aload_n hx hb dX1_init_4 rfl (lv_at hl 0 rfl) ?_
  refine lv_iload_n hx hb dX1_init_5 rfl (lv_at hl 1 rfl) ?_
  refine n_putF (ty := .int) hF hG k hk he rfl inS tyX7_ok nmX7 0 (by decide) (List.mem_of_getElem? (i := 4) rfl) rfl rfl hnm rfl (by decide +kernel) rfl rfl (Nat.le_of_ble_eq_true rfl) dX1_init_6 (fun H locs hG => ?_)
  refine lv_aload_n hx hb dX1_init_9 rfl (lv_at hl 0 rfl) ?_
  refine lv_aload_n hx hb dX1_init_10 rfl (lv_at hl 2 rfl) ?_
  refine n_putF (ty := .object "GreedyServers$Hard") hF hG k hk (if_pos rfl) rfl inS tyX7_ok nmX7 1 (by decide) (List.mem_of_getElem? (i := 5) rfl) rfl rfl hnm rfl (by decide +kernel) rfl rfl (Nat.le_of_ble_eq_true rfl) dX1_init_11 (fun H locs hG => ?_)
  refine n_vret hF hG hr hlk (Nat.zero_le _) (Nat.zero_le _) ?_ dX1_init_14
  funext j
  by_cases h : j = k <;> simp [va_up, h]
set_option maxHeartbeats 1000000 in
theorem kX1_init_X9 (l : Launch) (E : zE) (b n : Nat) (en : Nat → va_E) (k : Nat) (a1 : Int32) (x : Nat) (hk : k < n) (he : en k = .inr (8, [.int 0, .null])) : nM l yX1_init wsX1_init ({ frames := 1, cells := 0, slots := 0, locals := 12 } : Room) E b n en [.ref (b + k), .int a1, .ref x] n (fun en1 => en1 = va_up en k (.inr (8, [.int a1, .ref x]))) 0 0 := by
  refine n_body (cc := cX1_init) (nL := 3) (by decide) rfl rfl (Nat.le_of_ble_eq_true rfl) ?_
  intro p e R s m args below meth c ls hfr hlo hce hsl hF hr hlk hnm hsz hG hl
  have hx := hF.1.1
  have hb := hF.1.2.1
  have hts := hF.1.2.2.2.2
  have hl : lv_has ls 3 [(0, .ref (b + k)), (1, .int a1), (2, .ref x)] := hl
  have inS : ∀ w ∈ u_ws RX9 TX9 2, w ∈ wsX1_init := fun _ h => List.mem_cons_of_mem _ (List.mem_append_right _ h)
  refine lv_aload_n hx hb dX1_init_0 rfl (lv_at hl 0 rfl) ?_
  refine n_obj hF hl.1 (List.mem_of_getElem? (i := 1) rfl) (List.mem_of_getElem? (i := 2) rfl) (List.mem_of_getElem? (i := 3) rfl) (Nat.le_trans (Nat.le_of_ble_eq_true rfl) hfr) (Nat.le_trans (Nat.le_of_ble_eq_true rfl) hlo) dX1_init_1 ?_
  refine lv_aload_n hx hb dX1_init_4 rfl (lv_at hl 0 rfl) ?_
  refine lv_iload_n hx hb dX1_init_5 rfl (lv_at hl 1 rfl) ?_
  refine n_putF (ty := .int) hF hG k hk he rfl inS tyX9_ok nmX9 0 (by decide) (List.mem_of_getElem? (i := 4) rfl) rfl rfl hnm rfl (by decide +kernel) rfl rfl (Nat.le_of_ble_eq_true rfl) dX1_init_6 (fun H locs hG => ?_)
  refine lv_aload_n hx hb dX1_init_9 rfl (lv_at hl 0 rfl) ?_
  refine lv_aload_n hx hb dX1_init_10 rfl (lv_at hl 2 rfl) ?_
  refine n_putF (ty := .object "GreedyServers$Hard") hF hG k hk (if_pos rfl) rfl inS tyX9_ok nmX9 1 (by decide) (List.mem_of_getElem? (i := 5) rfl) rfl rfl hnm rfl (by decide +kernel) rfl rfl (Nat.le_of_ble_eq_true rfl) dX1_init_11 (fun H locs hG => ?_)
  refine n_vret hF hG hr hlk (Nat.zero_le _) (Nat.zero_le _) ?_ dX1_init_14
  funext j
  by_cases h : j = k <;> simp [va_up, h]
set_option maxHeartbeats 1000000 in
theorem kX0_init_X0 (l : Launch) (E : zE) (b n : Nat) (en : Nat → va_E) (k : Nat) (a1 : Int32) (x : Nat) (hk : k < n) (he : en k = .inr (0, [.int 0, .null])) : nM l yX0_init wsX0_init ({ frames := 2, cells := 0, slots := 0, locals := 34 } : Room) E b n en [.ref (b + k), .int a1, .ref x] n (fun en1 => en1 = va_up en k (.inr (0, [.int a1, .ref x]))) 0 0 := by
  refine n_body (cc := cX0_init) (nL := 3) (by decide) rfl rfl (Nat.le_of_ble_eq_true rfl) ?_
  intro p e R s m args below meth c ls hfr hlo hce hsl hF hr hlk hnm hsz hG hl
  have hx := hF.1.1
  have hb := hF.1.2.1
  have hts := hF.1.2.2.2.2
  have hl : lv_has ls 3 [(0, .ref (b + k)), (1, .int a1), (2, .ref x)] := hl
  refine lv_aload_n hx hb dX0_init_0 rfl (lv_at hl 0 rfl) ?_
  refine lv_iload_n hx hb dX0_init_1 rfl (lv_at hl 1 rfl) ?_
  refine lv_aload_n hx hb dX0_init_2 rfl (lv_at hl 2 rfl) ?_
  refine n_call hG (by omega) (fun hz => va_runI (As := [.int a1, .ref x]) (rest := []) hF.1 (kX1_init_X0 l E b n en k a1 x hk he) (cwI 2 hts gX0_init_X1_init rfl rfl rfl (hts _ (List.mem_of_getElem? (i := 3) rfl)) (hts _ (List.mem_of_getElem? (i := 1) rfl)) (hts _ (List.mem_of_getElem? (i := 2) rfl)) rfl (by decide +kernel) ⟨Nat.le_trans (Nat.le_of_ble_eq_true rfl) hfr, Nat.le_trans (Nat.le_of_ble_eq_true rfl) hlo⟩) (n_pre hF hG hz) rfl rfl hl.1 rfl (lv_room (Nat.le_of_ble_eq_true rfl)) dX0_init_3 ⟨Nat.zero_le _, Nat.zero_le _⟩) (fun en1 H locs hk1 hG => ?_)
  exact n_vret hF hG hr hlk (Nat.zero_le _) (Nat.zero_le _) hk1 dX0_init_6
set_option maxHeartbeats 1000000 in
theorem kX0_init_X2 (l : Launch) (E : zE) (b n : Nat) (en : Nat → va_E) (k : Nat) (a1 : Int32) (x : Nat) (hk : k < n) (he : en k = .inr (2, [.int 0, .null])) : nM l yX0_init wsX0_init ({ frames := 2, cells := 0, slots := 0, locals := 34 } : Room) E b n en [.ref (b + k), .int a1, .ref x] n (fun en1 => en1 = va_up en k (.inr (2, [.int a1, .ref x]))) 0 0 := by
  refine n_body (cc := cX0_init) (nL := 3) (by decide) rfl rfl (Nat.le_of_ble_eq_true rfl) ?_
  intro p e R s m args below meth c ls hfr hlo hce hsl hF hr hlk hnm hsz hG hl
  have hx := hF.1.1
  have hb := hF.1.2.1
  have hts := hF.1.2.2.2.2
  have hl : lv_has ls 3 [(0, .ref (b + k)), (1, .int a1), (2, .ref x)] := hl
  refine lv_aload_n hx hb dX0_init_0 rfl (lv_at hl 0 rfl) ?_
  refine lv_iload_n hx hb dX0_init_1 rfl (lv_at hl 1 rfl) ?_
  refine lv_aload_n hx hb dX0_init_2 rfl (lv_at hl 2 rfl) ?_
  refine n_call hG (by omega) (fun hz => va_runI (As := [.int a1, .ref x]) (rest := []) hF.1 (kX1_init_X2 l E b n en k a1 x hk he) (cwI 2 hts gX0_init_X1_init rfl rfl rfl (hts _ (List.mem_of_getElem? (i := 3) rfl)) (hts _ (List.mem_of_getElem? (i := 1) rfl)) (hts _ (List.mem_of_getElem? (i := 2) rfl)) rfl (by decide +kernel) ⟨Nat.le_trans (Nat.le_of_ble_eq_true rfl) hfr, Nat.le_trans (Nat.le_of_ble_eq_true rfl) hlo⟩) (n_pre hF hG hz) rfl rfl hl.1 rfl (lv_room (Nat.le_of_ble_eq_true rfl)) dX0_init_3 ⟨Nat.zero_le _, Nat.zero_le _⟩) (fun en1 H locs hk1 hG => ?_)
  exact n_vret hF hG hr hlk (Nat.zero_le _) (Nat.zero_le _) hk1 dX0_init_6
set_option maxHeartbeats 1000000 in
theorem kX0_init_X7 (l : Launch) (E : zE) (b n : Nat) (en : Nat → va_E) (k : Nat) (a1 : Int32) (x : Nat) (hk : k < n) (he : en k = .inr (7, [.int 0, .null])) : nM l yX0_init wsX0_init ({ frames := 2, cells := 0, slots := 0, locals := 34 } : Room) E b n en [.ref (b + k), .int a1, .ref x] n (fun en1 => en1 = va_up en k (.inr (7, [.int a1, .ref x]))) 0 0 := by
  refine n_body (cc := cX0_init) (nL := 3) (by decide) rfl rfl (Nat.le_of_ble_eq_true rfl) ?_
  intro p e R s m args below meth c ls hfr hlo hce hsl hF hr hlk hnm hsz hG hl
  have hx := hF.1.1
  have hb := hF.1.2.1
  have hts := hF.1.2.2.2.2
  have hl : lv_has ls 3 [(0, .ref (b + k)), (1, .int a1), (2, .ref x)] := hl
  refine lv_aload_n hx hb dX0_init_0 rfl (lv_at hl 0 rfl) ?_
  refine lv_iload_n hx hb dX0_init_1 rfl (lv_at hl 1 rfl) ?_
  refine lv_aload_n hx hb dX0_init_2 rfl (lv_at hl 2 rfl) ?_
  refine n_call hG (by omega) (fun hz => va_runI (As := [.int a1, .ref x]) (rest := []) hF.1 (kX1_init_X7 l E b n en k a1 x hk he) (cwI 2 hts gX0_init_X1_init rfl rfl rfl (hts _ (List.mem_of_getElem? (i := 3) rfl)) (hts _ (List.mem_of_getElem? (i := 1) rfl)) (hts _ (List.mem_of_getElem? (i := 2) rfl)) rfl (by decide +kernel) ⟨Nat.le_trans (Nat.le_of_ble_eq_true rfl) hfr, Nat.le_trans (Nat.le_of_ble_eq_true rfl) hlo⟩) (n_pre hF hG hz) rfl rfl hl.1 rfl (lv_room (Nat.le_of_ble_eq_true rfl)) dX0_init_3 ⟨Nat.zero_le _, Nat.zero_le _⟩) (fun en1 H locs hk1 hG => ?_)
  exact n_vret hF hG hr hlk (Nat.zero_le _) (Nat.zero_le _) hk1 dX0_init_6
set_option maxHeartbeats 1000000 in
theorem kX4_init_X4 (l : Launch) (E : zE) (b n : Nat) (en : Nat → va_E) (k : Nat) (a1 : Int32) (x : Nat) (hk : k < n) (he : en k = .inr (4, [.int 0, .null])) : nM l yX4_init wsX4_init ({ frames := 2, cells := 0, slots := 0, locals := 34 } : Room) E b n en [.ref (b + k), .int a1, .ref x] n (fun en1 => en1 = va_up en k (.inr (4, [.int a1, .ref x]))) 0 0 := by
  refine n_body (cc := cX4_init) (nL := 3) (by decide) rfl rfl (Nat.le_of_ble_eq_true rfl) ?_
  intro p e R s m args below meth c ls hfr hlo hce hsl hF hr hlk hnm hsz hG hl
  have hx := hF.1.1
  have hb := hF.1.2.1
  have hts := hF.1.2.2.2.2
  have hl : lv_has ls 3 [(0, .ref (b + k)), (1, .int a1), (2, .ref x)] := hl
  refine lv_aload_n hx hb dX4_init_0 rfl (lv_at hl 0 rfl) ?_
  refine lv_iload_n hx hb dX4_init_1 rfl (lv_at hl 1 rfl) ?_
  refine lv_aload_n hx hb dX4_init_2 rfl (lv_at hl 2 rfl) ?_
  refine n_call hG (by omega) (fun hz => va_runI (As := [.int a1, .ref x]) (rest := []) hF.1 (kX1_init_X4 l E b n en k a1 x hk he) (cwI 2 hts gX4_init_X1_init rfl rfl rfl (hts _ (List.mem_of_getElem? (i := 3) rfl)) (hts _ (List.mem_of_getElem? (i := 1) rfl)) (hts _ (List.mem_of_getElem? (i := 2) rfl)) rfl (by decide +kernel) ⟨Nat.le_trans (Nat.le_of_ble_eq_true rfl) hfr, Nat.le_trans (Nat.le_of_ble_eq_true rfl) hlo⟩) (n_pre hF hG hz) rfl rfl hl.1 rfl (lv_room (Nat.le_of_ble_eq_true rfl)) dX4_init_3 ⟨Nat.zero_le _, Nat.zero_le _⟩) (fun en1 H locs hk1 hG => ?_)
  exact n_vret hF hG hr hlk (Nat.zero_le _) (Nat.zero_le _) hk1 dX4_init_6
set_option maxHeartbeats 1000000 in
theorem kX4_init_X9 (l : Launch) (E : zE) (b n : Nat) (en : Nat → va_E) (k : Nat) (a1 : Int32) (x : Nat) (hk : k < n) (he : en k = .inr (8, [.int 0, .null])) : nM l yX4_init wsX4_init ({ frames := 2, cells := 0, slots := 0, locals := 34 } : Room) E b n en [.ref (b + k), .int a1, .ref x] n (fun en1 => en1 = va_up en k (.inr (8, [.int a1, .ref x]))) 0 0 := by
  refine n_body (cc := cX4_init) (nL := 3) (by decide) rfl rfl (Nat.le_of_ble_eq_true rfl) ?_
  intro p e R s m args below meth c ls hfr hlo hce hsl hF hr hlk hnm hsz hG hl
  have hx := hF.1.1
  have hb := hF.1.2.1
  have hts := hF.1.2.2.2.2
  have hl : lv_has ls 3 [(0, .ref (b + k)), (1, .int a1), (2, .ref x)] := hl
  refine lv_aload_n hx hb dX4_init_0 rfl (lv_at hl 0 rfl) ?_
  refine lv_iload_n hx hb dX4_init_1 rfl (lv_at hl 1 rfl) ?_
  refine lv_aload_n hx hb dX4_init_2 rfl (lv_at hl 2 rfl) ?_
  refine n_call hG (by omega) (fun hz => va_runI (As := [.int a1, .ref x]) (rest := []) hF.1 (kX1_init_X9 l E b n en k a1 x hk he) (cwI 2 hts gX4_init_X1_init rfl rfl rfl (hts _ (List.mem_of_getElem? (i := 3) rfl)) (hts _ (List.mem_of_getElem? (i := 1) rfl)) (hts _ (List.mem_of_getElem? (i := 2) rfl)) rfl (by decide +kernel) ⟨Nat.le_trans (Nat.le_of_ble_eq_true rfl) hfr, Nat.le_trans (Nat.le_of_ble_eq_true rfl) hlo⟩) (n_pre hF hG hz) rfl rfl hl.1 rfl (lv_room (Nat.le_of_ble_eq_true rfl)) dX4_init_3 ⟨Nat.zero_le _, Nat.zero_le _⟩) (fun en1 H locs hk1 hG => ?_)
  exact n_vret hF hG hr hlk (Nat.zero_le _) (Nat.zero_le _) hk1 dX4_init_6
set_option maxHeartbeats 1000000 in
theorem kX7_init_X7 (l : Launch) (E : zE) (b n : Nat) (en : Nat → va_E) (k : Nat) (a1 : Int32) (x : Nat) (hk : k < n) (he : en k = .inr (7, [.int 0, .null])) : nM l yX7_init wsX7_init ({ frames := 3, cells := 0, slots := 0, locals := 56 } : Room) E b n en [.ref (b + k), .int a1, .ref x] n (fun en1 => en1 = va_up en k (.inr (7, [.int a1, .ref x]))) 0 0 := by
  refine n_body (cc := cX7_init) (nL := 3) (by decide) rfl rfl (Nat.le_of_ble_eq_true rfl) ?_
  intro p e R s m args below meth c ls hfr hlo hce hsl hF hr hlk hnm hsz hG hl
  have hx := hF.1.1
  have hb := hF.1.2.1
  have hts := hF.1.2.2.2.2
  have hl : lv_has ls 3 [(0, .ref (b + k)), (1, .int a1), (2, .ref x)] := hl
  refine lv_aload_n hx hb dX7_init_0 rfl (lv_at hl 0 rfl) ?_
  refine lv_iload_n hx hb dX7_init_1 rfl (lv_at hl 1 rfl) ?_
  refine lv_aload_n hx hb dX7_init_2 rfl (lv_at hl 2 rfl) ?_
  refine n_call hG (by omega) (fun hz => va_runI (As := [.int a1, .ref x]) (rest := []) hF.1 (kX0_init_X7 l E b n en k a1 x hk he) (cwI 2 hts gX7_init_X0_init rfl rfl rfl (hts _ (List.mem_of_getElem? (i := 3) rfl)) (hts _ (List.mem_of_getElem? (i := 1) rfl)) (hts _ (List.mem_of_getElem? (i := 2) rfl)) rfl (by decide +kernel) ⟨Nat.le_trans (Nat.le_of_ble_eq_true rfl) hfr, Nat.le_trans (Nat.le_of_ble_eq_true rfl) hlo⟩) (n_pre hF hG hz) rfl rfl hl.1 rfl (lv_room (Nat.le_of_ble_eq_true rfl)) dX7_init_3 ⟨Nat.zero_le _, Nat.zero_le _⟩) (fun en1 H locs hk1 hG => ?_)
  exact n_vret hF hG hr hlk (Nat.zero_le _) (Nat.zero_le _) hk1 dX7_init_6
set_option maxHeartbeats 1000000 in
theorem kX2_init_X2 (l : Launch) (E : zE) (b n : Nat) (en : Nat → va_E) (k : Nat) (a1 : Int32) (x : Nat) (hk : k < n) (he : en k = .inr (2, [.int 0, .null])) : nM l yX2_init wsX2_init ({ frames := 3, cells := 0, slots := 0, locals := 56 } : Room) E b n en [.ref (b + k), .int a1, .ref x] n (fun en1 => en1 = va_up en k (.inr (2, [.int a1, .ref x]))) 0 0 := by
  refine n_body (cc := cX2_init) (nL := 3) (by decide) rfl rfl (Nat.le_of_ble_eq_true rfl) ?_
  intro p e R s m args below meth c ls hfr hlo hce hsl hF hr hlk hnm hsz hG hl
  have hx := hF.1.1
  have hb := hF.1.2.1
  have hts := hF.1.2.2.2.2
  have hl : lv_has ls 3 [(0, .ref (b + k)), (1, .int a1), (2, .ref x)] := hl
  refine lv_aload_n hx hb dX2_init_0 rfl (lv_at hl 0 rfl) ?_
  refine lv_iload_n hx hb dX2_init_1 rfl (lv_at hl 1 rfl) ?_
  refine lv_aload_n hx hb dX2_init_2 rfl (lv_at hl 2 rfl) ?_
  refine n_call hG (by omega) (fun hz => va_runI (As := [.int a1, .ref x]) (rest := []) hF.1 (kX0_init_X2 l E b n en k a1 x hk he) (cwI 2 hts gX2_init_X0_init rfl rfl rfl (hts _ (List.mem_of_getElem? (i := 3) rfl)) (hts _ (List.mem_of_getElem? (i := 1) rfl)) (hts _ (List.mem_of_getElem? (i := 2) rfl)) rfl (by decide +kernel) ⟨Nat.le_trans (Nat.le_of_ble_eq_true rfl) hfr, Nat.le_trans (Nat.le_of_ble_eq_true rfl) hlo⟩) (n_pre hF hG hz) rfl rfl hl.1 rfl (lv_room (Nat.le_of_ble_eq_true rfl)) dX2_init_3 ⟨Nat.zero_le _, Nat.zero_le _⟩) (fun en1 H locs hk1 hG => ?_)
  exact n_vret hF hG hr hlk (Nat.zero_le _) (Nat.zero_le _) hk1 dX2_init_6
set_option maxHeartbeats 1000000 in
theorem kX9_init_X9 (l : Launch) (E : zE) (b n : Nat) (en : Nat → va_E) (k : Nat) (a1 : Int32) (x : Nat) (hk : k < n) (he : en k = .inr (8, [.int 0, .null])) : nM l yX9_init wsX9_init ({ frames := 3, cells := 0, slots := 0, locals := 56 } : Room) E b n en [.ref (b + k), .int a1, .ref x] n (fun en1 => en1 = va_up en k (.inr (8, [.int a1, .ref x]))) 0 0 := by
  refine n_body (cc := cX9_init) (nL := 3) (by decide) rfl rfl (Nat.le_of_ble_eq_true rfl) ?_
  intro p e R s m args below meth c ls hfr hlo hce hsl hF hr hlk hnm hsz hG hl
  have hx := hF.1.1
  have hb := hF.1.2.1
  have hts := hF.1.2.2.2.2
  have hl : lv_has ls 3 [(0, .ref (b + k)), (1, .int a1), (2, .ref x)] := hl
  refine lv_aload_n hx hb dX9_init_0 rfl (lv_at hl 0 rfl) ?_
  refine lv_iload_n hx hb dX9_init_1 rfl (lv_at hl 1 rfl) ?_
  refine lv_aload_n hx hb dX9_init_2 rfl (lv_at hl 2 rfl) ?_
  refine n_call hG (by omega) (fun hz => va_runI (As := [.int a1, .ref x]) (rest := []) hF.1 (kX4_init_X9 l E b n en k a1 x hk he) (cwI 2 hts gX9_init_X4_init rfl rfl rfl (hts _ (List.mem_of_getElem? (i := 3) rfl)) (hts _ (List.mem_of_getElem? (i := 1) rfl)) (hts _ (List.mem_of_getElem? (i := 2) rfl)) rfl (by decide +kernel) ⟨Nat.le_trans (Nat.le_of_ble_eq_true rfl) hfr, Nat.le_trans (Nat.le_of_ble_eq_true rfl) hlo⟩) (n_pre hF hG hz) rfl rfl hl.1 rfl (lv_room (Nat.le_of_ble_eq_true rfl)) dX9_init_3 ⟨Nat.zero_le _, Nat.zero_le _⟩) (fun en1 H locs hk1 hG => ?_)
  exact n_vret hF hG hr hlk (Nat.zero_le _) (Nat.zero_le _) hk1 dX9_init_6
abbrev nI4 (E : zE) : va_E := .inl (E.2.2.1 0, 4, .inl (fun _ => 0))
abbrev nS0 : va_E := .inr (5, [.null, .int 0, .int 0, .int 0, .int 0, .int 0, .int 0, .int 0, .int 0, .int 0, .int 0, .null, .null, .int 0, .int 0])
abbrev nS1 (b x o : Nat) : va_E := .inr (5, [.ref x, .int 0, .int 0, .int 0, .int 0, .int 0, .int 0, .int 0, .int 0, .int 0, .int 0, .ref (b + o), .ref (b + (o + 1)), .int 0, .int 0])
theorem va_up_s {α : Type} (f : Nat → α) (k : Nat) (v : α) : va_up f k v k = v := by simp [va_up]
theorem va_up_n {α : Type} {f : Nat → α} {k j : Nat} {v : α} (h : j ≠ k) : va_up f k v j = f j := by simp [va_up, h]
set_option maxHeartbeats 1000000 in
theorem kX5_init (l : Launch) (E : zE) (b n : Nat) (en : Nat → va_E) (k x : Nat) (hk : k < n) (he : en k = nS0) : nM l yX5_init wsX5_init ({ frames := 1, cells := 2, slots := 8, locals := 12 } : Room) E b n en [.ref (b + k), .ref x] (n + 2) (fun en1 => (∀ j, j < n → j ≠ k → en1 j = en j) ∧ en1 k = nS1 b x n ∧ en1 n = nI4 E ∧ en1 (n + 1) = nI4 E) 2 8 := by
  refine n_body (cc := cX5_init) (nL := 2) (by decide) rfl rfl (Nat.le_of_ble_eq_true rfl) ?_
  intro p e R s m args below meth c ls hfr hlo hce hsl hF hr hlk hnm hsz hG hl
  have hx := hF.1.1
  have hb := hF.1.2.1
  have hts := hF.1.2.2.2.2
  have hl : lv_has ls 2 [(0, .ref (b + k)), (1, .ref x)] := hl
  have inS : ∀ w ∈ u_ws RX5 TX5 15, w ∈ wsX5_init := fun _ h => List.mem_cons_of_mem _ (List.mem_append_right _ h)
  refine lv_aload_n hx hb dX5_init_0 rfl (lv_at hl 0 rfl) ?_
  refine n_obj hF hl.1 (List.mem_of_getElem? (i := 1) rfl) (List.mem_of_getElem? (i := 2) rfl) (List.mem_of_getElem? (i := 3) rfl) (Nat.le_trans (Nat.le_of_ble_eq_true rfl) hfr) (Nat.le_trans (Nat.le_of_ble_eq_true rfl) hlo) dX5_init_1 ?_
  refine lv_aload_n hx hb dX5_init_4 rfl (lv_at hl 0 rfl) ?_
  refine lv_iconst (v := 4) hx hb dX5_init_5 (by decide) ?_
  refine n_newa (N := 4) hF hG (by omega) (List.mem_of_getElem? (i := 4) rfl) (by decide) (by decide) (by decide) (Nat.le_trans (Nat.le_of_ble_eq_true rfl) hce) (Nat.le_trans (Nat.le_of_ble_eq_true rfl) hsl) dX5_init_6 (fun H hG => ?_)
  refine n_putF (ty := .array .int) hF hG k (by omega) ((va_up_n (by omega)).trans he) rfl inS tyX5_ok nmX5 11 (by decide) (List.mem_of_getElem? (i := 5) rfl) rfl rfl hnm rfl (by decide +kernel) rfl rfl (Nat.le_of_ble_eq_true rfl) dX5_init_8 (fun H locs hG => ?_)
  refine lv_aload_n hx hb dX5_init_11 rfl (lv_at hl 0 rfl) ?_
  refine lv_iconst (v := 4) hx hb dX5_init_12 (by decide) ?_
  refine n_newa (N := 4) hF hG (by omega) (List.mem_of_getElem? (i := 4) rfl) (by decide) (by decide) (by decide) (Nat.le_trans (Nat.le_of_ble_eq_true rfl) hce) (Nat.le_trans (Nat.le_of_ble_eq_true rfl) hsl) dX5_init_13 (fun H hG => ?_)
  refine n_putF (ty := .array .int) hF hG k (by omega) ((va_up_n (by omega)).trans (va_up_s _ _ _)) rfl inS tyX5_ok nmX5 12 (by decide) (List.mem_of_getElem? (i := 6) rfl) rfl rfl hnm rfl (by decide +kernel) rfl rfl (Nat.le_of_ble_eq_true rfl) dX5_init_15 (fun H locs hG => ?_)
  refine lv_aload_n hx hb dX5_init_18 rfl (lv_at hl 0 rfl) ?_
  refine lv_aload_n hx hb dX5_init_19 rfl (lv_at hl 1 rfl) ?_
  refine n_put (ty := .object "GreedyServers$Hard") hF hG k (by omega) (va_up_s _ _ _) rfl inS tyX5_ok nmX5 0 (by decide) (List.mem_of_getElem? (i := 7) rfl) rfl rfl (by decide +kernel) rfl rfl (Nat.le_of_ble_eq_true rfl) dX5_init_20 (fun H locs hG => ?_)
  refine n_vret hF hG hr hlk (Nat.le_refl _) (Nat.le_refl _) ⟨fun j h1 h2 => ?_, va_up_s _ _ _, ?_, ?_⟩ dX5_init_23
  · rw [va_up_n h2, va_up_n h2, va_up_n (by omega), va_up_n h2, va_up_n (by omega)]
  · rw [va_up_n (by omega), va_up_n (by omega), va_up_n (by omega), va_up_n (by omega), va_up_s]
  · rw [va_up_n (by omega), va_up_n (by omega), va_up_s]
abbrev nI0 (E : zE) (N : Nat) : va_E := .inl (E.2.2.1 0, N, .inl (fun _ => 0))
set_option maxHeartbeats 1000000 in
theorem kX6_init (l : Launch) (E : zE) (b n : Nat) (en : Nat → va_E) (k x : Nat) (hk : k < n) (he : en k = .inr (6, [.int 0, .null, .int 0, .int 0, .int 0, .null])) : nM l yX6_init wsX6_init ({ frames := 1, cells := 1, slots := 100, locals := 12 } : Room) E b n en [.ref (b + k), .ref x] (n + 1) (fun en1 => (∀ j, j < n → j ≠ k → en1 j = en j) ∧ en1 k = .inr (6, [.int 0, .ref x, .int 0, .int 0, .int 0, .ref (b + n)]) ∧ en1 n = nI0 E 100) 1 100 := by
  refine n_body (cc := cX6_init) (nL := 2) (by decide) rfl rfl (Nat.le_of_ble_eq_true rfl) ?_
  intro p e R s m args below meth c ls hfr hlo hce hsl hF hr hlk hnm hsz hG hl
  have hx := hF.1.1
  have hb := hF.1.2.1
  have hts := hF.1.2.2.2.2
  have hl : lv_has ls 2 [(0, .ref (b + k)), (1, .ref x)] := hl
  have inS : ∀ w ∈ u_ws RX6 TX6 6, w ∈ wsX6_init := fun _ h => List.mem_cons_of_mem _ (List.mem_append_right _ h)
  refine lv_aload_n hx hb dX6_init_0 rfl (lv_at hl 0 rfl) ?_
  refine n_obj hF hl.1 (List.mem_of_getElem? (i := 1) rfl) (List.mem_of_getElem? (i := 2) rfl) (List.mem_of_getElem? (i := 3) rfl) (Nat.le_trans (Nat.le_of_ble_eq_true rfl) hfr) (Nat.le_trans (Nat.le_of_ble_eq_true rfl) hlo) dX6_init_1 ?_
  refine lv_aload_n hx hb dX6_init_4 rfl (lv_at hl 0 rfl) ?_
  refine lv_iconst (v := 0) hx hb dX6_init_5 (by decide) ?_
  refine n_put (ty := .int) hF hG k hk he rfl inS tyX6_ok nmX6 0 (by decide) (List.mem_of_getElem? (i := 4) rfl) rfl rfl (by decide +kernel) rfl rfl (Nat.le_of_ble_eq_true rfl) dX6_init_6 (fun H locs hG => ?_)
  refine lv_aload_n hx hb dX6_init_9 rfl (lv_at hl 0 rfl) ?_
  refine lv_bipush (v := 100) hx hb dX6_init_10 (by decide) ?_
  refine n_newa (N := 100) hF hG (by omega) (List.mem_of_getElem? (i := 5) rfl) (by decide) (by decide) (by decide) (Nat.le_trans (Nat.le_of_ble_eq_true rfl) hce) (Nat.le_trans (Nat.le_of_ble_eq_true rfl) hsl) dX6_init_12 (fun H hG => ?_)
  refine n_putF (ty := .array .int) hF hG k (by omega) ((va_up_n (by omega)).trans (va_up_s _ _ _)) rfl inS tyX6_ok nmX6 5 (by decide) (List.mem_of_getElem? (i := 6) rfl) rfl rfl hnm rfl (by decide +kernel) rfl rfl (Nat.le_of_ble_eq_true rfl) dX6_init_14 (fun H locs hG => ?_)
  refine lv_aload_n hx hb dX6_init_17 rfl (lv_at hl 0 rfl) ?_
  refine lv_aload_n hx hb dX6_init_18 rfl (lv_at hl 1 rfl) ?_
  refine n_put (ty := .object "GreedyServers$Hard") hF hG k (by omega) (va_up_s _ _ _) rfl inS tyX6_ok nmX6 1 (by decide) (List.mem_of_getElem? (i := 7) rfl) rfl rfl (by decide +kernel) rfl rfl (Nat.le_of_ble_eq_true rfl) dX6_init_19 (fun H locs hG => ?_)
  refine n_vret hF hG hr hlk (Nat.le_refl _) (Nat.le_refl _) ⟨fun j h1 h2 => ?_, va_up_s _ _ _, ?_⟩ dX6_init_22
  · rw [va_up_n h2, va_up_n h2, va_up_n (by omega), va_up_n h2]
  · rw [va_up_n (by omega), va_up_n (by omega), va_up_s]
set_option maxHeartbeats 1000000 in
theorem kX10_init (l : Launch) (E : zE) (b n : Nat) (en : Nat → va_E) (k x : Nat) (hk : k < n) (he : en k = .inr (9, [.int 0, .null, .int 0, .null])) : nM l yX10_init wsX10_init ({ frames := 1, cells := 1, slots := 20, locals := 12 } : Room) E b n en [.ref (b + k), .ref x] (n + 1) (fun en1 => (∀ j, j < n → j ≠ k → en1 j = en j) ∧ en1 k = .inr (9, [.int 0, .ref x, .int 0, .ref (b + n)]) ∧ en1 n = nI0 E 20) 1 20 := by
  refine n_body (cc := cX10_init) (nL := 2) (by decide) rfl rfl (Nat.le_of_ble_eq_true rfl) ?_
  intro p e R s m args below meth c ls hfr hlo hce hsl hF hr hlk hnm hsz hG hl
  have hx := hF.1.1
  have hb := hF.1.2.1
  have hts := hF.1.2.2.2.2
  have hl : lv_has ls 2 [(0, .ref (b + k)), (1, .ref x)] := hl
  have inS : ∀ w ∈ u_ws RX10 TX10 4, w ∈ wsX10_init := fun _ h => List.mem_cons_of_mem _ (List.mem_append_right _ h)
  refine lv_aload_n hx hb dX10_init_0 rfl (lv_at hl 0 rfl) ?_
  refine n_obj hF hl.1 (List.mem_of_getElem? (i := 1) rfl) (List.mem_of_getElem? (i := 2) rfl) (List.mem_of_getElem? (i := 3) rfl) (Nat.le_trans (Nat.le_of_ble_eq_true rfl) hfr) (Nat.le_trans (Nat.le_of_ble_eq_true rfl) hlo) dX10_init_1 ?_
  refine lv_aload_n hx hb dX10_init_4 rfl (lv_at hl 0 rfl) ?_
  refine lv_bipush (v := 20) hx hb dX10_init_5 (by decide) ?_
  refine n_newa (N := 20) hF hG (by omega) (List.mem_of_getElem? (i := 4) rfl) (by decide) (by decide) (by decide) (Nat.le_trans (Nat.le_of_ble_eq_true rfl) hce) (Nat.le_trans (Nat.le_of_ble_eq_true rfl) hsl) dX10_init_7 (fun H hG => ?_)
  refine n_putF (ty := .array .int) hF hG k (by omega) ((va_up_n (by omega)).trans he) rfl inS tyX10_ok nmX10 3 (by decide) (List.mem_of_getElem? (i := 5) rfl) rfl rfl hnm rfl (by decide +kernel) rfl rfl (Nat.le_of_ble_eq_true rfl) dX10_init_9 (fun H locs hG => ?_)
  refine lv_aload_n hx hb dX10_init_12 rfl (lv_at hl 0 rfl) ?_
  refine lv_aload_n hx hb dX10_init_13 rfl (lv_at hl 1 rfl) ?_
  refine n_put (ty := .object "GreedyServers$Hard") hF hG k (by omega) (va_up_s _ _ _) rfl inS tyX10_ok nmX10 1 (by decide) (List.mem_of_getElem? (i := 6) rfl) rfl rfl (by decide +kernel) rfl rfl (Nat.le_of_ble_eq_true rfl) dX10_init_14 (fun H locs hG => ?_)
  refine n_vret hF hG hr hlk (Nat.le_refl _) (Nat.le_refl _) ⟨fun j h1 h2 => ?_, va_up_s _ _ _, ?_⟩ dX10_init_17
  · rw [va_up_n h2, va_up_n h2, va_up_n (by omega)]
  · rw [va_up_n (by omega), va_up_n (by omega), va_up_s]
theorem n_lt6 {s : Nat} (h : s ≤ 6) : (nI s ≥ 6) ↔ s = 6 := by
  have : ∀ s : Fin 7, (nI s.val ≥ 6) ↔ s.val = 6 := by decide +kernel
  exact this ⟨s, by omega⟩
set_option maxHeartbeats 2000000 in
theorem kX3_init (l : Launch) (E : zE) (b n : Nat) (en : Nat → va_E) (k x : Nat) (hk : k < n) (he : en k = .inr (3, [.null, .int 0, .int 0, .int 0, .int 0])) (g : Nat → Option Nat) (hgj : ∀ j, j < 6 → g j = some (b + (n + 1 + 3 * j))) : nM l yX3_init wsX3_init ({ frames := 2, cells := 19, slots := 144, locals := 33 } : Room) E b n en [.ref (b + k), .ref x] (n + 19) (fun en1 => (∀ j, j < n → j ≠ k → en1 j = en j) ∧ en1 k = .inr (3, [.ref (b + n), .int 0, .int 0, .int (-4), .int (-4)]) ∧ en1 n = .inl (E.2.2.1 1, 6, .inr (.inr (.inr (.inr g)))) ∧ ∀ i, i < 6 → en1 (n + 1 + 3 * i) = nS1 b x (n + 2 + 3 * i) ∧ en1 (n + 2 + 3 * i) = nI4 E ∧ en1 (n + 3 + 3 * i) = nI4 E) 19 144 := by
  refine n_body (cc := cX3_init) (nL := 3) (by decide) rfl rfl (Nat.le_of_ble_eq_true rfl) ?_
  intro p e R s m args below meth c ls hfr hlo hce hsl hF hr hlk hnm hsz hG hl
  have hx := hF.1.1
  have hb := hF.1.2.1
  have hts := hF.1.2.2.2.2
  have hl : lv_has ls 3 [(0, .ref (b + k)), (1, .ref x)] := hl
  have inS : ∀ w ∈ u_ws RX3 TX3 5, w ∈ wsX3_init := fun _ h => List.mem_cons_of_mem _ (List.mem_append_left _ (List.mem_append_right _ h))
  have in5 : ∀ w ∈ u_ws RX5 TX5 15, w ∈ wsX3_init := fun _ h => List.mem_cons_of_mem _ (List.mem_append_right _ h)
  refine lv_aload_n hx hb dX3_init_0 rfl (lv_at hl 0 rfl) ?_
  refine n_obj hF hl.1 (List.mem_of_getElem? (i := 1) rfl) (List.mem_of_getElem? (i := 2) rfl) (List.mem_of_getElem? (i := 3) rfl) (Nat.le_trans (Nat.le_of_ble_eq_true rfl) hfr) (Nat.le_trans (Nat.le_of_ble_eq_true rfl) hlo) dX3_init_1 ?_
  refine lv_aload_n hx hb dX3_init_4 rfl (lv_at hl 0 rfl) ?_
  refine lv_bipush (v := 6) hx hb dX3_init_5 (by decide) ?_
  refine n_newq (N := 6) hF hG (by omega) 1 rfl (List.mem_of_getElem? (i := 4) rfl) hF.2.2.1 (by decide) (by decide) (by decide) (Nat.le_trans (Nat.le_of_ble_eq_true rfl) hce) (Nat.le_trans (Nat.le_of_ble_eq_true rfl) hsl) dX3_init_7 (fun H hG => ?_)
  refine n_putF (ty := .array (.object "GreedyServers$Server")) hF hG k (by omega) ((va_up_n (by omega)).trans he) rfl inS tyX3_ok nmX3 0 (by decide) (List.mem_of_getElem? (i := 5) rfl) rfl rfl hnm rfl (by decide +kernel) rfl rfl (Nat.le_of_ble_eq_true rfl) dX3_init_10 (fun H locs hG => ?_)
  refine lv_aload_n hx hb dX3_init_13 rfl (lv_at hl 0 rfl) ?_
  refine lv_bipush (v := (-4)) hx hb dX3_init_14 (by decide) ?_
  refine n_put (ty := .int) hF hG k (by omega) (va_up_s _ _ _) rfl inS tyX3_ok nmX3 3 (by decide) (List.mem_of_getElem? (i := 6) rfl) rfl rfl (by decide +kernel) rfl rfl (Nat.le_of_ble_eq_true rfl) dX3_init_16 (fun H locs hG => ?_)
  refine lv_aload_n hx hb dX3_init_19 rfl (lv_at hl 0 rfl) ?_
  refine lv_bipush (v := (-4)) hx hb dX3_init_20 (by decide) ?_
  refine n_put (ty := .int) hF hG k (by omega) (va_up_s _ _ _) rfl inS tyX3_ok nmX3 4 (by decide) (List.mem_of_getElem? (i := 7) rfl) rfl rfl (by decide +kernel) rfl rfl (Nat.le_of_ble_eq_true rfl) dX3_init_22 (fun H locs hG => ?_)
  refine lv_iconst (v := 0) hx hb dX3_init_25 (by decide) ?_
  refine lv_istore_n (lv' := [(2, .int 0), (0, .ref (b + k)), (1, .ref x)]) hx hb dX3_init_26 rfl hl (by decide) rfl (fun ls hl => ?_)
  have loop : ∀ (t i : Nat) (en2 : Nat → va_E) (f : Nat → Option Nat) (H : Heap) (locs : List Loc) (ls : Array Slot), i + t = 6 → (∀ j, j < n → j ≠ k → en2 j = en j) → en2 k = .inr (3, [.ref (b + n), .int 0, .int 0, .int (-4), .int (-4)]) → en2 n = .inl (E.2.2.1 1, 6, .inr (.inr (.inr (.inr f)))) → (∀ j, j < i → f j = some (b + (n + 1 + 3 * j))) → (∀ j, j < i → en2 (n + 1 + 3 * j) = nS1 b x (n + 2 + 3 * j) ∧ en2 (n + 2 + 3 * j) = nI4 E ∧ en2 (n + 3 + 3 * j) = nI4 E) → nG E b (n + 1 + 3 * i) en2 s H locs → lv_has ls 3 [(2, .int (nI i)), (0, .ref (b + k)), (1, .ref x)] → W p l e R s m args below meth c H locs (0 + 1 + 3 * i) (0 + 6 + 23 * i) (MQ below (va_Qv (fun en1 : Nat → va_E => (∀ j, j < n → j ≠ k → en1 j = en j) ∧ en1 k = .inr (3, [.ref (b + n), .int 0, .int 0, .int (-4), .int (-4)]) ∧ en1 n = .inl (E.2.2.1 1, 6, .inr (.inr (.inr (.inr g)))) ∧ ∀ i, i < 6 → en1 (n + 1 + 3 * i) = nS1 b x (n + 2 + 3 * i) ∧ en1 (n + 2 + 3 * i) = nI4 E ∧ en1 (n + 3 + 3 * i) = nI4 E) (nB E b (n + 19)) (nA b)) args s 19 144 (nA b)) (F0 m 27 ls []) := by
    intro t
    induction t with
    | zero =>
      intro i en2 f H locs ls hi h1 h2 h3 h4 h5 hG hl
      have hi : i = 6 := by omega
      subst hi
      refine lv_iload_n hx hb dX3_init_27 rfl (lv_at hl 0 rfl) ?_
      refine lv_bipush (v := 6) hx hb dX3_init_28 (by decide) ?_
      refine lv_icmp_ge (tgt := 53) hx hb dX3_init_30 (by decide) (fun c1 => ?_) (fun c1 => absurd ((n_lt6 (Nat.le_refl _)).mpr rfl) c1)
      have hG := n_arr (g := g) hG n (by omega) h3 (fun j hj => (h4 j hj).trans (hgj j hj).symm)
      refine n_vret hF hG hr hlk (by decide) (by decide) ⟨fun j j1 j2 => ?_, ?_, va_up_s _ _ _, fun i hi => ?_⟩ dX3_init_53
      · rw [va_up_n (by omega)]; exact h1 j j1 j2
      · rw [va_up_n (by omega)]; exact h2
      · rw [va_up_n (by omega), va_up_n (by omega), va_up_n (by omega)]; exact h5 i hi
    | succ t ih =>
      intro i en2 f H locs ls hi h1 h2 h3 h4 h5 hG hl
      have hi6 : i < 6 := by omega
      refine lv_iload_n hx hb dX3_init_27 rfl (lv_at hl 0 rfl) ?_
      refine lv_bipush (v := 6) hx hb dX3_init_28 (by decide) ?_
      refine lv_icmp_ge (tgt := 53) hx hb dX3_init_30 (by decide) (fun c1 => absurd ((n_lt6 (by omega)).mp c1) (by omega)) (fun c1 => ?_)
      refine lv_aload_n hx hb dX3_init_33 rfl (lv_at hl 1 rfl) ?_
      refine n_get hF hG k (by omega) h2 rfl inS 0 (by decide) (List.mem_of_getElem? (i := 5) rfl) rfl rfl dX3_init_34 ?_
      refine lv_iload_n hx hb dX3_init_37 rfl (lv_at hl 0 rfl) ?_
      refine n_new (fs := [.null, .int 0, .int 0, .int 0, .int 0, .int 0, .int 0, .int 0, .int 0, .int 0, .int 0, .null, .null, .int 0, .int 0]) (ci := 5) hF hG (by omega) in5 tyX5 tyX5_ok (List.mem_of_getElem? (i := 4) rfl) (List.mem_of_getElem? (i := 8) rfl) (List.mem_of_getElem? (i := 9) rfl) rfl (by decide +kernel) (by have : (19 : Nat) ≤ R.cells := hce; omega) (by have : (144 : Nat) ≤ R.slots := hsl; omega) dX3_init_38 (fun H hG => ?_)
      refine lv_dup hx hb dX3_init_41 rfl ?_
      refine lv_aload_n hx hb dX3_init_42 rfl (lv_at hl 2 rfl) ?_
      refine n_call hG (by omega) (fun hz => va_runI (As := [.ref x]) (rest := [.ref (b + (n + 1 + 3 * i)), .int (nI i), .ref (b + n)]) hF.1 (kX5_init l E b (n + 1 + 3 * i + 1) _ (n + 1 + 3 * i) x (Nat.lt_succ_self _) (va_up_s _ _ _)) (cwI 1 hts gX3_init_X5_init rfl rfl rfl (hts _ (List.mem_of_getElem? (i := 9) rfl)) (hts _ (List.mem_of_getElem? (i := 10) rfl)) (hts _ (List.mem_of_getElem? (i := 11) rfl)) rfl (by decide +kernel) ⟨Nat.le_trans (Nat.le_of_ble_eq_true rfl) hfr, Nat.le_trans (Nat.le_of_ble_eq_true rfl) hlo⟩) (n_pre hF hG hz) rfl rfl hl.1 rfl (lv_room (Nat.le_of_ble_eq_true rfl)) dX3_init_43 ⟨by have : (19 : Nat) ≤ R.cells := hce; omega, by have : (144 : Nat) ≤ R.slots := hsl; omega⟩) (fun en3 H locs hk1 hG => ?_)
      obtain ⟨g1, g2, g3, g4⟩ := hk1
      have hn3 : en3 n = .inl (E.2.2.1 1, 6, .inr (.inr (.inr (.inr f)))) := by rw [g1 n (by omega) (by omega), va_up_n (by omega)]; exact h3
      refine n_astq hF hG n 1 (n + 1 + 3 * i) 5 (by omega) (by omega) hn3 rfl g2 rfl (vp_in_nI hi6 (by decide)) dX3_init_46 (fun H locs hG => ?_)
      refine lv_iinc (v := nI (i + 1)) (lv' := [(2, .int (nI (i + 1))), (0, .ref (b + k)), (1, .ref x)]) hx hb dX3_init_47 hl (k := 0) rfl (nI_1 i) (by decide) rfl (fun ls hl => ?_)
      refine lv_goto (tgt := 27) hx hb dX3_init_50 (by decide) ?_
      rw [nI_clamp (by omega)] at hG
      have key := ih (i + 1) _ _ H locs ls (by omega) (fun j j1 j2 => ?_) ?_ (va_up_s _ _ _) (fun j hj => ?_) (fun j hj => ?_) (by rw [show n + 1 + 3 * (i + 1) = n + 1 + 3 * i + 1 + 2 by omega]; exact hG) hl
      · rw [show 0 + 1 + 3 * i + 1 + 2 = 0 + 1 + 3 * (i + 1) by omega, show 0 + 6 + 23 * i + 15 + 8 = 0 + 6 + 23 * (i + 1) by omega]
        exact key
      · rw [va_up_n (by omega), g1 j (by omega) (by omega), va_up_n (by omega)]; exact h1 j j1 j2
      · rw [va_up_n (by omega), g1 k (by omega) (by omega), va_up_n (by omega)]; exact h2
      · by_cases hji : j = i
        · subst hji; exact va_up_s _ _ _
        · rw [va_up_n hji]; exact h4 j (by omega)
      · by_cases hji : j = i
        · subst hji
          rw [va_up_n (by omega), va_up_n (by omega), va_up_n (by omega)]
          rw [show n + 2 + 3 * j = n + 1 + 3 * j + 1 by omega, show n + 3 + 3 * j = n + 1 + 3 * j + 1 + 1 by omega]
          exact ⟨g2, g3, g4⟩
        · rw [va_up_n (by omega), va_up_n (by omega), va_up_n (by omega), g1 _ (by omega) (by omega), g1 _ (by omega) (by omega), g1 _ (by omega) (by omega), va_up_n (by omega), va_up_n (by omega), va_up_n (by omega)]
          exact h5 j (by omega)
  refine loop 6 0 _ (fun _ => none) H locs ls rfl (fun j j1 j2 => ?_) (va_up_s _ _ _) ?_ (fun j hj => absurd hj (Nat.not_lt_zero _)) (fun j hj => absurd hj (Nat.not_lt_zero _)) hG hl
  · rw [va_up_n j2, va_up_n j2, va_up_n j2, va_up_n (by omega)]
  · rw [va_up_n (by omega), va_up_n (by omega), va_up_n (by omega), va_up_s]
