/-! the constructor of the reference -/
section NG
variable {D : va_G} {b : Nat} {ct : Nat → ClassId} {n : Nat} {en en1 : Nat → va_E} {o e1 : va_E}
def gF (D : va_G) (b : Nat) (ct : Nat → ClassId) (n : Nat) (en : Nat → va_E) (o : va_E) : Prop := en 97 = o ∧ ∀ j, j < n → j ≠ 97 → j ≠ 108 → en j = fin D b ct j
theorem gF.mk1 (h : gF D b ct n en o) (hn : 97 < n) (h1 : en1 = va_up en n e1) (he : n ≠ 108 → e1 = fin D b ct n) : gF D b ct (n + 1) en1 o := by
  subst h1
  refine ⟨by rw [va_up_n (by omega)]; exact h.1, fun j j1 j2 j3 => ?_⟩
  by_cases e : j = n
  · subst e; rw [va_up_s]; exact he j3
  · rw [va_up_n e]; exact h.2 j (by omega) j2 j3
theorem gF.obj (h : gF D b ct n en o) (h1 : en1 = va_up en 97 e1) : gF D b ct n en1 e1 := by
  subst h1
  exact ⟨va_up_s _ _ _, fun j j1 j2 j3 => by rw [va_up_n j2]; exact h.2 j j1 j2 j3⟩
theorem gF.arr (h : gF D b ct n en o) (h1 : en1 = va_up en 108 e1) : gF D b ct n en1 o := by
  subst h1
  exact ⟨by rw [va_up_n (by decide)]; exact h.1, fun j j1 j2 j3 => by rw [va_up_n j3]; exact h.2 j j1 j2 j3⟩
end NG
set_option maxHeartbeats 4000000 in
theorem kX12_init (l : Launch) (D : va_G) (b : Nat) (ct : Nat → ClassId) (en : Nat → va_E) (he : en 97 = .inr (11, [.int 0, .int 0, .null, .null, .null, .int 0, .int 0, .int 0, .int 0, .null, .null, .int 0, .null, .int 0, .null, .null, .null, .null, .null, .null, .null, .int 0])) (hf0 : ∀ j, j < 97 → en j = fin D b ct j) : nM l yX12_init wsX12_init ({ frames := 1, cells := 13, slots := 1282, locals := 12 } : Room) (nE D b ct) b 98 en [.ref (b + 97)] 111 (fun en1 => ∀ j, j < 111 → en1 j = fin D b ct j) 13 1282 := by
  refine n_body (cc := cX12_init) (nL := 2) (by decide) rfl rfl (Nat.le_of_ble_eq_true rfl) ?_
  intro p e R s m args below meth c ls hfr hlo hce hsl hF hr hlk hnm hsz hG hl
  have hx := hF.1.1
  have hb := hF.1.2.1
  have hts := hF.1.2.2.2.2
  have hl : lv_has ls 2 [(0, .ref (b + 97))] := hl
  have in12 : ∀ w ∈ u_ws RX12 TX12 22, w ∈ wsX12_init := fun _ h => List.mem_cons_of_mem _ (List.mem_append_right _ h)
  have hf : gF D b ct 98 en (.inr (11, [.int 0, .int 0, .null, .null, .null, .int 0, .int 0, .int 0, .int 0, .null, .null, .int 0, .null, .int 0, .null, .null, .null, .null, .null, .null, .null, .int 0])) := ⟨he, fun j j1 j2 _ => hf0 j (by omega)⟩
  refine lv_aload_n hx hb dX12_init_0 rfl (lv_at hl 0 rfl) ?_
  refine n_obj hF hl.1 (List.mem_of_getElem? (i := 1) rfl) (List.mem_of_getElem? (i := 2) rfl) (List.mem_of_getElem? (i := 3) rfl) (Nat.le_trans (Nat.le_of_ble_eq_true rfl) hfr) (Nat.le_trans (Nat.le_of_ble_eq_true rfl) hlo) dX12_init_1 ?_
  refine lv_aload_n hx hb dX12_init_4 rfl (lv_at hl 0 rfl) ?_
  refine lv_bipush (v := 72) hx hb dX12_init_5 (by decide) ?_
  refine n_newa (N := 72) hF hG (by omega) (List.mem_of_getElem? (i := 4) rfl) (by decide) (by decide) (by decide) (Nat.le_trans (Nat.le_of_ble_eq_true rfl) hce) (Nat.le_trans (Nat.le_of_ble_eq_true rfl) hsl) dX12_init_7 (fun H hG => ?_)
  obtain ⟨enU98, hA⟩ : ∃ z, z = va_up en 98 (.inl (ct 0, 72, .inl (fun _ => 0))) := ⟨_, rfl⟩
  have hG : nG (nE D b ct) b 99 enU98 s H [] := by rw [hA]; exact hG
  have hf : gF D b ct 99 enU98 (.inr (11, [.int 0, .int 0, .null, .null, .null, .int 0, .int 0, .int 0, .int 0, .null, .null, .int 0, .null, .int 0, .null, .null, .null, .null, .null, .null, .null, .int 0])) := hf.mk1 (by decide) hA (fun _ => rfl)
  refine n_putF (ty := .array .int) hF hG 97 (by omega) hf.1 rfl in12 tyX12_ok nmX12 2 (by decide) (List.mem_of_getElem? (i := 5) rfl) rfl rfl hnm rfl (by decide +kernel) rfl rfl (Nat.le_of_ble_eq_true rfl) dX12_init_9 (fun H locs hG => ?_)
  obtain ⟨enV98, hA⟩ : ∃ z, z = va_up enU98 97 (.inr (11, [.int 0, .int 0, .ref (b + 98), .null, .null, .int 0, .int 0, .int 0, .int 0, .null, .null, .int 0, .null, .int 0, .null, .null, .null, .null, .null, .null, .null, .int 0])) := ⟨_, rfl⟩
  have hG : nG (nE D b ct) b 99 enV98 s H locs := by rw [hA]; exact hG
  have hf := hf.obj hA
  refine lv_aload_n hx hb dX12_init_12 rfl (lv_at hl 0 rfl) ?_
  refine lv_bipush (v := 24) hx hb dX12_init_13 (by decide) ?_
  refine n_newa (N := 24) hF hG (by omega) (List.mem_of_getElem? (i := 4) rfl) (by decide) (by decide) (by decide) (Nat.le_trans (Nat.le_of_ble_eq_true rfl) hce) (Nat.le_trans (Nat.le_of_ble_eq_true rfl) hsl) dX12_init_15 (fun H hG => ?_)
  obtain ⟨enU99, hA⟩ : ∃ z, z = va_up enV98 99 (.inl (ct 0, 24, .inl (fun _ => 0))) := ⟨_, rfl⟩
  have hG : nG (nE D b ct) b 100 enU99 s H locs := by rw [hA]; exact hG
  have hf : gF D b ct 100 enU99 (.inr (11, [.int 0, .int 0, .ref (b + 98), .null, .null, .int 0, .int 0, .int 0, .int 0, .null, .null, .int 0, .null, .int 0, .null, .null, .null, .null, .null, .null, .null, .int 0])) := hf.mk1 (by decide) hA (fun _ => rfl)
  refine n_putF (ty := .array .int) hF hG 97 (by omega) hf.1 rfl in12 tyX12_ok nmX12 3 (by decide) (List.mem_of_getElem? (i := 6) rfl) rfl rfl hnm rfl (by decide +kernel) rfl rfl (Nat.le_of_ble_eq_true rfl) dX12_init_17 (fun H locs hG => ?_)
  obtain ⟨enV99, hA⟩ : ∃ z, z = va_up enU99 97 (.inr (11, [.int 0, .int 0, .ref (b + 98), .ref (b + 99), .null, .int 0, .int 0, .int 0, .int 0, .null, .null, .int 0, .null, .int 0, .null, .null, .null, .null, .null, .null, .null, .int 0])) := ⟨_, rfl⟩
  have hG : nG (nE D b ct) b 100 enV99 s H locs := by rw [hA]; exact hG
  have hf := hf.obj hA
  refine lv_aload_n hx hb dX12_init_20 rfl (lv_at hl 0 rfl) ?_
  refine lv_bipush (v := 24) hx hb dX12_init_21 (by decide) ?_
  refine n_newa (N := 24) hF hG (by omega) (List.mem_of_getElem? (i := 4) rfl) (by decide) (by decide) (by decide) (Nat.le_trans (Nat.le_of_ble_eq_true rfl) hce) (Nat.le_trans (Nat.le_of_ble_eq_true rfl) hsl) dX12_init_23 (fun H hG => ?_)
  obtain ⟨enU100, hA⟩ : ∃ z, z = va_up enV99 100 (.inl (ct 0, 24, .inl (fun _ => 0))) := ⟨_, rfl⟩
  have hG : nG (nE D b ct) b 101 enU100 s H locs := by rw [hA]; exact hG
  have hf : gF D b ct 101 enU100 (.inr (11, [.int 0, .int 0, .ref (b + 98), .ref (b + 99), .null, .int 0, .int 0, .int 0, .int 0, .null, .null, .int 0, .null, .int 0, .null, .null, .null, .null, .null, .null, .null, .int 0])) := hf.mk1 (by decide) hA (fun _ => rfl)
  refine n_putF (ty := .array .int) hF hG 97 (by omega) hf.1 rfl in12 tyX12_ok nmX12 4 (by decide) (List.mem_of_getElem? (i := 7) rfl) rfl rfl hnm rfl (by decide +kernel) rfl rfl (Nat.le_of_ble_eq_true rfl) dX12_init_25 (fun H locs hG => ?_)
  obtain ⟨enV100, hA⟩ : ∃ z, z = va_up enU100 97 (.inr (11, [.int 0, .int 0, .ref (b + 98), .ref (b + 99), .ref (b + 100), .int 0, .int 0, .int 0, .int 0, .null, .null, .int 0, .null, .int 0, .null, .null, .null, .null, .null, .null, .null, .int 0])) := ⟨_, rfl⟩
  have hG : nG (nE D b ct) b 101 enV100 s H locs := by rw [hA]; exact hG
  have hf := hf.obj hA
  refine lv_aload_n hx hb dX12_init_28 rfl (lv_at hl 0 rfl) ?_
  refine lv_bipush (v := 6) hx hb dX12_init_29 (by decide) ?_
  refine n_newa (N := 6) hF hG (by omega) (List.mem_of_getElem? (i := 4) rfl) (by decide) (by decide) (by decide) (Nat.le_trans (Nat.le_of_ble_eq_true rfl) hce) (Nat.le_trans (Nat.le_of_ble_eq_true rfl) hsl) dX12_init_31 (fun H hG => ?_)
  obtain ⟨enU101, hA⟩ : ∃ z, z = va_up enV100 101 (.inl (ct 0, 6, .inl (fun _ => 0))) := ⟨_, rfl⟩
  have hG : nG (nE D b ct) b 102 enU101 s H locs := by rw [hA]; exact hG
  have hf : gF D b ct 102 enU101 (.inr (11, [.int 0, .int 0, .ref (b + 98), .ref (b + 99), .ref (b + 100), .int 0, .int 0, .int 0, .int 0, .null, .null, .int 0, .null, .int 0, .null, .null, .null, .null, .null, .null, .null, .int 0])) := hf.mk1 (by decide) hA (fun _ => rfl)
  refine n_putF (ty := .array .int) hF hG 97 (by omega) hf.1 rfl in12 tyX12_ok nmX12 9 (by decide) (List.mem_of_getElem? (i := 8) rfl) rfl rfl hnm rfl (by decide +kernel) rfl rfl (Nat.le_of_ble_eq_true rfl) dX12_init_33 (fun H locs hG => ?_)
  obtain ⟨enV101, hA⟩ : ∃ z, z = va_up enU101 97 (.inr (11, [.int 0, .int 0, .ref (b + 98), .ref (b + 99), .ref (b + 100), .int 0, .int 0, .int 0, .int 0, .ref (b + 101), .null, .int 0, .null, .int 0, .null, .null, .null, .null, .null, .null, .null, .int 0])) := ⟨_, rfl⟩
  have hG : nG (nE D b ct) b 102 enV101 s H locs := by rw [hA]; exact hG
  have hf := hf.obj hA
  refine lv_aload_n hx hb dX12_init_36 rfl (lv_at hl 0 rfl) ?_
  refine lv_bipush (v := 122) hx hb dX12_init_37 (by decide) ?_
  refine n_newa (N := 122) hF hG (by omega) (List.mem_of_getElem? (i := 4) rfl) (by decide) (by decide) (by decide) (Nat.le_trans (Nat.le_of_ble_eq_true rfl) hce) (Nat.le_trans (Nat.le_of_ble_eq_true rfl) hsl) dX12_init_39 (fun H hG => ?_)
  obtain ⟨enU102, hA⟩ : ∃ z, z = va_up enV101 102 (.inl (ct 0, 122, .inl (fun _ => 0))) := ⟨_, rfl⟩
  have hG : nG (nE D b ct) b 103 enU102 s H locs := by rw [hA]; exact hG
  have hf : gF D b ct 103 enU102 (.inr (11, [.int 0, .int 0, .ref (b + 98), .ref (b + 99), .ref (b + 100), .int 0, .int 0, .int 0, .int 0, .ref (b + 101), .null, .int 0, .null, .int 0, .null, .null, .null, .null, .null, .null, .null, .int 0])) := hf.mk1 (by decide) hA (fun _ => rfl)
  refine n_putF (ty := .array .int) hF hG 97 (by omega) hf.1 rfl in12 tyX12_ok nmX12 10 (by decide) (List.mem_of_getElem? (i := 9) rfl) rfl rfl hnm rfl (by decide +kernel) rfl rfl (Nat.le_of_ble_eq_true rfl) dX12_init_41 (fun H locs hG => ?_)
  obtain ⟨enV102, hA⟩ : ∃ z, z = va_up enU102 97 (.inr (11, [.int 0, .int 0, .ref (b + 98), .ref (b + 99), .ref (b + 100), .int 0, .int 0, .int 0, .int 0, .ref (b + 101), .ref (b + 102), .int 0, .null, .int 0, .null, .null, .null, .null, .null, .null, .null, .int 0])) := ⟨_, rfl⟩
  have hG : nG (nE D b ct) b 103 enV102 s H locs := by rw [hA]; exact hG
  have hf := hf.obj hA
  refine lv_aload_n hx hb dX12_init_44 rfl (lv_at hl 0 rfl) ?_
  refine lv_bipush (v := 122) hx hb dX12_init_45 (by decide) ?_
  refine n_newa (N := 122) hF hG (by omega) (List.mem_of_getElem? (i := 4) rfl) (by decide) (by decide) (by decide) (Nat.le_trans (Nat.le_of_ble_eq_true rfl) hce) (Nat.le_trans (Nat.le_of_ble_eq_true rfl) hsl) dX12_init_47 (fun H hG => ?_)
  obtain ⟨enU103, hA⟩ : ∃ z, z = va_up enV102 103 (.inl (ct 0, 122, .inl (fun _ => 0))) := ⟨_, rfl⟩
  have hG : nG (nE D b ct) b 104 enU103 s H locs := by rw [hA]; exact hG
  have hf : gF D b ct 104 enU103 (.inr (11, [.int 0, .int 0, .ref (b + 98), .ref (b + 99), .ref (b + 100), .int 0, .int 0, .int 0, .int 0, .ref (b + 101), .ref (b + 102), .int 0, .null, .int 0, .null, .null, .null, .null, .null, .null, .null, .int 0])) := hf.mk1 (by decide) hA (fun _ => rfl)
  refine n_putF (ty := .array .int) hF hG 97 (by omega) hf.1 rfl in12 tyX12_ok nmX12 12 (by decide) (List.mem_of_getElem? (i := 10) rfl) rfl rfl hnm rfl (by decide +kernel) rfl rfl (Nat.le_of_ble_eq_true rfl) dX12_init_49 (fun H locs hG => ?_)
  obtain ⟨enV103, hA⟩ : ∃ z, z = va_up enU103 97 (.inr (11, [.int 0, .int 0, .ref (b + 98), .ref (b + 99), .ref (b + 100), .int 0, .int 0, .int 0, .int 0, .ref (b + 101), .ref (b + 102), .int 0, .ref (b + 103), .int 0, .null, .null, .null, .null, .null, .null, .null, .int 0])) := ⟨_, rfl⟩
  have hG : nG (nE D b ct) b 104 enV103 s H locs := by rw [hA]; exact hG
  have hf := hf.obj hA
  refine lv_aload_n hx hb dX12_init_52 rfl (lv_at hl 0 rfl) ?_
  refine lv_bipush (v := 8) hx hb dX12_init_53 (by decide) ?_
  refine n_newa (N := 8) hF hG (by omega) (List.mem_of_getElem? (i := 4) rfl) (by decide) (by decide) (by decide) (Nat.le_trans (Nat.le_of_ble_eq_true rfl) hce) (Nat.le_trans (Nat.le_of_ble_eq_true rfl) hsl) dX12_init_55 (fun H hG => ?_)
  obtain ⟨enU104, hA⟩ : ∃ z, z = va_up enV103 104 (.inl (ct 0, 8, .inl (fun _ => 0))) := ⟨_, rfl⟩
  have hG : nG (nE D b ct) b 105 enU104 s H locs := by rw [hA]; exact hG
  have hf : gF D b ct 105 enU104 (.inr (11, [.int 0, .int 0, .ref (b + 98), .ref (b + 99), .ref (b + 100), .int 0, .int 0, .int 0, .int 0, .ref (b + 101), .ref (b + 102), .int 0, .ref (b + 103), .int 0, .null, .null, .null, .null, .null, .null, .null, .int 0])) := hf.mk1 (by decide) hA (fun _ => rfl)
  refine n_putF (ty := .array .int) hF hG 97 (by omega) hf.1 rfl in12 tyX12_ok nmX12 14 (by decide) (List.mem_of_getElem? (i := 11) rfl) rfl rfl hnm rfl (by decide +kernel) rfl rfl (Nat.le_of_ble_eq_true rfl) dX12_init_57 (fun H locs hG => ?_)
  obtain ⟨enV104, hA⟩ : ∃ z, z = va_up enU104 97 (.inr (11, [.int 0, .int 0, .ref (b + 98), .ref (b + 99), .ref (b + 100), .int 0, .int 0, .int 0, .int 0, .ref (b + 101), .ref (b + 102), .int 0, .ref (b + 103), .int 0, .ref (b + 104), .null, .null, .null, .null, .null, .null, .int 0])) := ⟨_, rfl⟩
  have hG : nG (nE D b ct) b 105 enV104 s H locs := by rw [hA]; exact hG
  have hf := hf.obj hA
  refine lv_aload_n hx hb dX12_init_60 rfl (lv_at hl 0 rfl) ?_
  refine lv_bipush (v := 8) hx hb dX12_init_61 (by decide) ?_
  refine n_newa (N := 8) hF hG (by omega) (List.mem_of_getElem? (i := 4) rfl) (by decide) (by decide) (by decide) (Nat.le_trans (Nat.le_of_ble_eq_true rfl) hce) (Nat.le_trans (Nat.le_of_ble_eq_true rfl) hsl) dX12_init_63 (fun H hG => ?_)
  obtain ⟨enU105, hA⟩ : ∃ z, z = va_up enV104 105 (.inl (ct 0, 8, .inl (fun _ => 0))) := ⟨_, rfl⟩
  have hG : nG (nE D b ct) b 106 enU105 s H locs := by rw [hA]; exact hG
  have hf : gF D b ct 106 enU105 (.inr (11, [.int 0, .int 0, .ref (b + 98), .ref (b + 99), .ref (b + 100), .int 0, .int 0, .int 0, .int 0, .ref (b + 101), .ref (b + 102), .int 0, .ref (b + 103), .int 0, .ref (b + 104), .null, .null, .null, .null, .null, .null, .int 0])) := hf.mk1 (by decide) hA (fun _ => rfl)
  refine n_putF (ty := .array .int) hF hG 97 (by omega) hf.1 rfl in12 tyX12_ok nmX12 15 (by decide) (List.mem_of_getElem? (i := 12) rfl) rfl rfl hnm rfl (by decide +kernel) rfl rfl (Nat.le_of_ble_eq_true rfl) dX12_init_65 (fun H locs hG => ?_)
  obtain ⟨enV105, hA⟩ : ∃ z, z = va_up enU105 97 (.inr (11, [.int 0, .int 0, .ref (b + 98), .ref (b + 99), .ref (b + 100), .int 0, .int 0, .int 0, .int 0, .ref (b + 101), .ref (b + 102), .int 0, .ref (b + 103), .int 0, .ref (b + 104), .ref (b + 105), .null, .null, .null, .null, .null, .int 0])) := ⟨_, rfl⟩
  have hG : nG (nE D b ct) b 106 enV105 s H locs := by rw [hA]; exact hG
  have hf := hf.obj hA
  refine lv_aload_n hx hb dX12_init_68 rfl (lv_at hl 0 rfl) ?_
  refine lv_bipush (v := 8) hx hb dX12_init_69 (by decide) ?_
  refine n_newa (N := 8) hF hG (by omega) (List.mem_of_getElem? (i := 4) rfl) (by decide) (by decide) (by decide) (Nat.le_trans (Nat.le_of_ble_eq_true rfl) hce) (Nat.le_trans (Nat.le_of_ble_eq_true rfl) hsl) dX12_init_71 (fun H hG => ?_)
  obtain ⟨enU106, hA⟩ : ∃ z, z = va_up enV105 106 (.inl (ct 0, 8, .inl (fun _ => 0))) := ⟨_, rfl⟩
  have hG : nG (nE D b ct) b 107 enU106 s H locs := by rw [hA]; exact hG
  have hf : gF D b ct 107 enU106 (.inr (11, [.int 0, .int 0, .ref (b + 98), .ref (b + 99), .ref (b + 100), .int 0, .int 0, .int 0, .int 0, .ref (b + 101), .ref (b + 102), .int 0, .ref (b + 103), .int 0, .ref (b + 104), .ref (b + 105), .null, .null, .null, .null, .null, .int 0])) := hf.mk1 (by decide) hA (fun _ => rfl)
  refine n_putF (ty := .array .int) hF hG 97 (by omega) hf.1 rfl in12 tyX12_ok nmX12 16 (by decide) (List.mem_of_getElem? (i := 13) rfl) rfl rfl hnm rfl (by decide +kernel) rfl rfl (Nat.le_of_ble_eq_true rfl) dX12_init_73 (fun H locs hG => ?_)
  obtain ⟨enV106, hA⟩ : ∃ z, z = va_up enU106 97 (.inr (11, [.int 0, .int 0, .ref (b + 98), .ref (b + 99), .ref (b + 100), .int 0, .int 0, .int 0, .int 0, .ref (b + 101), .ref (b + 102), .int 0, .ref (b + 103), .int 0, .ref (b + 104), .ref (b + 105), .ref (b + 106), .null, .null, .null, .null, .int 0])) := ⟨_, rfl⟩
  have hG : nG (nE D b ct) b 107 enV106 s H locs := by rw [hA]; exact hG
  have hf := hf.obj hA
  refine lv_aload_n hx hb dX12_init_76 rfl (lv_at hl 0 rfl) ?_
  refine lv_sipush (v := 800) hx hb dX12_init_77 (by decide) ?_
  refine n_newa (N := 800) hF hG (by omega) (List.mem_of_getElem? (i := 4) rfl) (by decide) (by decide) (by decide) (Nat.le_trans (Nat.le_of_ble_eq_true rfl) hce) (Nat.le_trans (Nat.le_of_ble_eq_true rfl) hsl) dX12_init_80 (fun H hG => ?_)
  obtain ⟨enU107, hA⟩ : ∃ z, z = va_up enV106 107 (.inl (ct 0, 800, .inl (fun _ => 0))) := ⟨_, rfl⟩
  have hG : nG (nE D b ct) b 108 enU107 s H locs := by rw [hA]; exact hG
  have hf : gF D b ct 108 enU107 (.inr (11, [.int 0, .int 0, .ref (b + 98), .ref (b + 99), .ref (b + 100), .int 0, .int 0, .int 0, .int 0, .ref (b + 101), .ref (b + 102), .int 0, .ref (b + 103), .int 0, .ref (b + 104), .ref (b + 105), .ref (b + 106), .null, .null, .null, .null, .int 0])) := hf.mk1 (by decide) hA (fun _ => rfl)
  refine n_putF (ty := .array .int) hF hG 97 (by omega) hf.1 rfl in12 tyX12_ok nmX12 17 (by decide) (List.mem_of_getElem? (i := 14) rfl) rfl rfl hnm rfl (by decide +kernel) rfl rfl (Nat.le_of_ble_eq_true rfl) dX12_init_82 (fun H locs hG => ?_)
  obtain ⟨enV107, hA⟩ : ∃ z, z = va_up enU107 97 (.inr (11, [.int 0, .int 0, .ref (b + 98), .ref (b + 99), .ref (b + 100), .int 0, .int 0, .int 0, .int 0, .ref (b + 101), .ref (b + 102), .int 0, .ref (b + 103), .int 0, .ref (b + 104), .ref (b + 105), .ref (b + 106), .ref (b + 107), .null, .null, .null, .int 0])) := ⟨_, rfl⟩
  have hG : nG (nE D b ct) b 108 enV107 s H locs := by rw [hA]; exact hG
  have hf := hf.obj hA
  refine lv_aload_n hx hb dX12_init_85 rfl (lv_at hl 0 rfl) ?_
  refine lv_iconst (v := 4) hx hb dX12_init_86 (by decide) ?_
  refine n_newa (N := 4) hF hG (by omega) (List.mem_of_getElem? (i := 4) rfl) (by decide) (by decide) (by decide) (Nat.le_trans (Nat.le_of_ble_eq_true rfl) hce) (Nat.le_trans (Nat.le_of_ble_eq_true rfl) hsl) dX12_init_87 (fun H hG => ?_)
  obtain ⟨enU108, hA⟩ : ∃ z, z = va_up enV107 108 (.inl (ct 0, 4, .inl (fun _ => 0))) := ⟨_, rfl⟩
  have hG : nG (nE D b ct) b 109 enU108 s H locs := by rw [hA]; exact hG
  have hf : gF D b ct 109 enU108 (.inr (11, [.int 0, .int 0, .ref (b + 98), .ref (b + 99), .ref (b + 100), .int 0, .int 0, .int 0, .int 0, .ref (b + 101), .ref (b + 102), .int 0, .ref (b + 103), .int 0, .ref (b + 104), .ref (b + 105), .ref (b + 106), .ref (b + 107), .null, .null, .null, .int 0])) := hf.mk1 (by decide) hA (fun h => absurd rfl h)
  have hq : enU108 108 = .inl (ct 0, 4, .inl (fun _ => 0)) := by rw [hA]; exact va_up_s _ _ _
  refine n_putF (ty := .array .int) hF hG 97 (by omega) hf.1 rfl in12 tyX12_ok nmX12 18 (by decide) (List.mem_of_getElem? (i := 15) rfl) rfl rfl hnm rfl (by decide +kernel) rfl rfl (Nat.le_of_ble_eq_true rfl) dX12_init_89 (fun H locs hG => ?_)
  obtain ⟨enV108, hA⟩ : ∃ z, z = va_up enU108 97 (.inr (11, [.int 0, .int 0, .ref (b + 98), .ref (b + 99), .ref (b + 100), .int 0, .int 0, .int 0, .int 0, .ref (b + 101), .ref (b + 102), .int 0, .ref (b + 103), .int 0, .ref (b + 104), .ref (b + 105), .ref (b + 106), .ref (b + 107), .ref (b + 108), .null, .null, .int 0])) := ⟨_, rfl⟩
  have hG : nG (nE D b ct) b 109 enV108 s H locs := by rw [hA]; exact hG
  have hf := hf.obj hA
  have hq : enV108 108 = .inl (ct 0, 4, .inl (fun _ => 0)) := by rw [hA, va_up_n (by decide)]; exact hq
  refine lv_aload_n hx hb dX12_init_92 rfl (lv_at hl 0 rfl) ?_
  refine lv_iconst (v := 4) hx hb dX12_init_93 (by decide) ?_
  refine n_newa (N := 4) hF hG (by omega) (List.mem_of_getElem? (i := 4) rfl) (by decide) (by decide) (by decide) (Nat.le_trans (Nat.le_of_ble_eq_true rfl) hce) (Nat.le_trans (Nat.le_of_ble_eq_true rfl) hsl) dX12_init_94 (fun H hG => ?_)
  obtain ⟨enU109, hA⟩ : ∃ z, z = va_up enV108 109 (.inl (ct 0, 4, .inl (fun _ => 0))) := ⟨_, rfl⟩
  have hG : nG (nE D b ct) b 110 enU109 s H locs := by rw [hA]; exact hG
  have hf : gF D b ct 110 enU109 (.inr (11, [.int 0, .int 0, .ref (b + 98), .ref (b + 99), .ref (b + 100), .int 0, .int 0, .int 0, .int 0, .ref (b + 101), .ref (b + 102), .int 0, .ref (b + 103), .int 0, .ref (b + 104), .ref (b + 105), .ref (b + 106), .ref (b + 107), .ref (b + 108), .null, .null, .int 0])) := hf.mk1 (by decide) hA (fun _ => rfl)
  have hq : enU109 108 = .inl (ct 0, 4, .inl (fun _ => 0)) := by rw [hA, va_up_n (by decide)]; exact hq
  refine n_putF (ty := .array .int) hF hG 97 (by omega) hf.1 rfl in12 tyX12_ok nmX12 19 (by decide) (List.mem_of_getElem? (i := 16) rfl) rfl rfl hnm rfl (by decide +kernel) rfl rfl (Nat.le_of_ble_eq_true rfl) dX12_init_96 (fun H locs hG => ?_)
  obtain ⟨enV109, hA⟩ : ∃ z, z = va_up enU109 97 (.inr (11, [.int 0, .int 0, .ref (b + 98), .ref (b + 99), .ref (b + 100), .int 0, .int 0, .int 0, .int 0, .ref (b + 101), .ref (b + 102), .int 0, .ref (b + 103), .int 0, .ref (b + 104), .ref (b + 105), .ref (b + 106), .ref (b + 107), .ref (b + 108), .ref (b + 109), .null, .int 0])) := ⟨_, rfl⟩
  have hG : nG (nE D b ct) b 110 enV109 s H locs := by rw [hA]; exact hG
  have hf := hf.obj hA
  have hq : enV109 108 = .inl (ct 0, 4, .inl (fun _ => 0)) := by rw [hA, va_up_n (by decide)]; exact hq
  refine lv_aload_n hx hb dX12_init_99 rfl (lv_at hl 0 rfl) ?_
  refine lv_bipush (v := 80) hx hb dX12_init_100 (by decide) ?_
  refine n_newa (N := 80) hF hG (by omega) (List.mem_of_getElem? (i := 4) rfl) (by decide) (by decide) (by decide) (Nat.le_trans (Nat.le_of_ble_eq_true rfl) hce) (Nat.le_trans (Nat.le_of_ble_eq_true rfl) hsl) dX12_init_102 (fun H hG => ?_)
  obtain ⟨enU110, hA⟩ : ∃ z, z = va_up enV109 110 (.inl (ct 0, 80, .inl (fun _ => 0))) := ⟨_, rfl⟩
  have hG : nG (nE D b ct) b 111 enU110 s H locs := by rw [hA]; exact hG
  have hf : gF D b ct 111 enU110 (.inr (11, [.int 0, .int 0, .ref (b + 98), .ref (b + 99), .ref (b + 100), .int 0, .int 0, .int 0, .int 0, .ref (b + 101), .ref (b + 102), .int 0, .ref (b + 103), .int 0, .ref (b + 104), .ref (b + 105), .ref (b + 106), .ref (b + 107), .ref (b + 108), .ref (b + 109), .null, .int 0])) := hf.mk1 (by decide) hA (fun _ => rfl)
  have hq : enU110 108 = .inl (ct 0, 4, .inl (fun _ => 0)) := by rw [hA, va_up_n (by decide)]; exact hq
  refine n_putF (ty := .array .int) hF hG 97 (by omega) hf.1 rfl in12 tyX12_ok nmX12 20 (by decide) (List.mem_of_getElem? (i := 17) rfl) rfl rfl hnm rfl (by decide +kernel) rfl rfl (Nat.le_of_ble_eq_true rfl) dX12_init_104 (fun H locs hG => ?_)
  obtain ⟨enV110, hA⟩ : ∃ z, z = va_up enU110 97 (.inr (11, [.int 0, .int 0, .ref (b + 98), .ref (b + 99), .ref (b + 100), .int 0, .int 0, .int 0, .int 0, .ref (b + 101), .ref (b + 102), .int 0, .ref (b + 103), .int 0, .ref (b + 104), .ref (b + 105), .ref (b + 106), .ref (b + 107), .ref (b + 108), .ref (b + 109), .ref (b + 110), .int 0])) := ⟨_, rfl⟩
  have hG : nG (nE D b ct) b 111 enV110 s H locs := by rw [hA]; exact hG
  have hf := hf.obj hA
  have hq : enV110 108 = .inl (ct 0, 4, .inl (fun _ => 0)) := by rw [hA, va_up_n (by decide)]; exact hq
  refine lv_iconst (v := 0) hx hb dX12_init_107 (by decide) ?_
  refine lv_istore_n (lv' := [(1, .int (nI 0)), (0, .ref (b + 97))]) hx hb dX12_init_108 rfl hl (by decide) rfl (fun ls hl => ?_)
  have loop : ∀ (t i : Nat) (en2 : Nat → va_E) (f : Nat → Int32) (H : Heap) (locs : List Loc) (ls : Array Slot), i + t = 4 → gF D b ct 111 en2 (.inr (11, [.int 0, .int 0, .ref (b + 98), .ref (b + 99), .ref (b + 100), .int 0, .int 0, .int 0, .int 0, .ref (b + 101), .ref (b + 102), .int 0, .ref (b + 103), .int 0, .ref (b + 104), .ref (b + 105), .ref (b + 106), .ref (b + 107), .ref (b + 108), .ref (b + 109), .ref (b + 110), .int 0])) → en2 108 = .inl (ct 0, 4, .inl f) → f = (fun j => if j < i then -4 else 0) → nG (nE D b ct) b 111 en2 s H locs → lv_has ls 2 [(1, .int (nI i)), (0, .ref (b + 97))] → W p l e R s m args below meth c H locs 13 1282 (MQ below (va_Qv (fun en1 : Nat → va_E => ∀ j, j < 111 → en1 j = fin D b ct j) (nB (nE D b ct) b 111) (nA b)) args s 13 1282 (nA b)) (F0 m 109 ls []) := by
    intro t
    induction t with
    | zero =>
      intro i en2 f H locs ls hi hf hq hfe hG hl
      have hi : i = 4 := by omega
      subst hi
      refine lv_iload_n hx hb dX12_init_109 rfl (lv_at hl 0 rfl) ?_
      refine lv_iconst (v := 4) hx hb dX12_init_110 (by decide) ?_
      refine lv_icmp_ge (tgt := 128) hx hb dX12_init_111 (by decide) (fun c1 => ?_) (fun c1 => absurd ((n_lt4 (Nat.le_refl _)).mpr rfl) c1)
      refine n_vret hF hG hr hlk (Nat.le_refl _) (Nat.le_refl _) (fun j hj => ?_) dX12_init_128
      by_cases c2 : j = 97
      · subst c2; exact hf.1.trans rfl
      · by_cases c3 : j = 108
        · subst c3; rw [hq, hfe]; rfl
        · exact hf.2 j hj c2 c3
    | succ t ih =>
      intro i en2 f H locs ls hi hf hq hfe hG hl
      have hi4 : i < 4 := by omega
      refine lv_iload_n hx hb dX12_init_109 rfl (lv_at hl 0 rfl) ?_
      refine lv_iconst (v := 4) hx hb dX12_init_110 (by decide) ?_
      refine lv_icmp_ge (tgt := 128) hx hb dX12_init_111 (by decide) (fun c1 => absurd ((n_lt4 (by omega)).mp c1) (by omega)) (fun c1 => ?_)
      refine lv_aload_n hx hb dX12_init_114 rfl (lv_at hl 1 rfl) ?_
      refine n_get hF hG 97 (by omega) hf.1 rfl in12 18 (by decide) (List.mem_of_getElem? (i := 15) rfl) rfl rfl dX12_init_115 ?_
      refine lv_iload_n hx hb dX12_init_118 rfl (lv_at hl 0 rfl) ?_
      refine lv_bipush (v := (-4)) hx hb dX12_init_119 (by decide) ?_
      refine n_iast hF hG 108 (by omega) hq (vp_in_nI hi4 (by decide)) dX12_init_121 (fun H locs hG => ?_)
      refine lv_iinc (v := nI (i + 1)) (lv' := [(1, .int (nI (i + 1))), (0, .ref (b + 97))]) hx hb dX12_init_122 hl (k := 0) rfl (nI_1 i) (by decide) rfl (fun ls hl => ?_)
      refine lv_goto (tgt := 109) hx hb dX12_init_125 (by decide) ?_
      rw [nI_clamp (by omega)] at hG
      refine ih (i + 1) _ (upd f i (-4)) H locs ls (by omega) (hf.arr rfl) (va_up_s _ _ _) ?_ hG hl
      funext j
      rw [hfe]
      unfold upd
      by_cases c2 : j = i
      · rw [if_pos c2, if_pos (by omega)]
      · rw [if_neg c2]
        show (if j < i then (-4 : Int32) else 0) = if j < i + 1 then -4 else 0
        by_cases c3 : j < i
        · rw [if_pos c3, if_pos (by omega)]
        · rw [if_neg c3, if_neg (by omega)]
  exact loop 4 0 _ _ H locs ls rfl hf hq (by funext j; rw [if_neg (Nat.not_lt_zero _)]) hG hl
