/-! FACE: shelves: keep, row, put, cost -/
section M7
variable {S Q : zP} {Z Z' : zS} {K : Int32 → zS → Prop}
theorem zI.ag (h : zI S Q Z) (f : ∀ i, (i < 60 ∨ (84 ≤ i ∧ i < 104)) → Z' i = Z i) (hs : ∀ d, d < 8 → shRel d Z') (ht : ∀ t, t < 4 → trRel t Z') : zI S Q Z' := by
  obtain ⟨hw, hc, hr, hi, -, -⟩ := h
  have g : ∀ {p : Nat} {P : zP}, p < 3 → P.1 ≤ 6 → cRel p P Z → cRel p P Z' := fun {p P} hp hN h => by
    refine ⟨?_, ?_, fun s hs => ?_⟩
    · rw [f (54 + p) (by omega)]; exact h.1
    · rw [f (54 + p) (by omega)]; exact h.2.1
    · exact (h.2.2 s hs).mv (f _ (by omega)) (f _ (by omega)) (f _ (by omega))
  refine ⟨hw, g (by decide) hw.1 hc, hr.mv (by rw [f 97 (by decide)]) (by rw [f 97 (by decide)]) (f _ (by decide)) (f _ (by decide)) (f _ (by decide)), ⟨?_, ?_⟩, hs, ht⟩
  · rw [f 97 (by decide), f 96 (by decide)]; exact hi.1
  · rcases hi.2 with a | ⟨a, b, c, d⟩
    · exact Or.inl (by rw [f 96 (by decide)]; exact a)
    · exact Or.inr ⟨by rw [f 96 (by decide)]; exact a, b, g (by decide) b.1 c, d.mv (f 103 (by decide))⟩
theorem zI.sh {a : Nat} (h : zI S Q Z) (f : ∀ i, ¬ i = 60 + a → ¬ i = 68 + a → ¬ (104 ≤ i ∧ i ≤ 107) → Z' i = Z i) (o4 : ∀ j, ¬ j = a → Z' 104 j = Z 104 j) (o5 : ∀ j, ¬ j = a → Z' 105 j = Z 105 j) (o6 : ∀ j, ¬ j = a → Z' 106 j = Z 106 j) (o7 : ∀ d i, d < 8 → ¬ d = a → i < 100 → Z' 107 (100 * d + i) = Z 107 (100 * d + i)) (r : shRel a Z') (ha : a < 8) : zI S Q Z' := by
  refine h.ag (fun i hi => f i (by omega) (by omega) (by omega)) (fun d hd => ?_) (fun t h4 => ?_)
  · by_cases e : d = a
    · rw [e]; exact r
    · have := h.2.2.2.2.1 d hd
      unfold shRel at this ⊢
      rw [f (60 + d) (by omega) (by omega) (by omega), f (68 + d) (by omega) (by omega) (by omega), o4 d e, o5 d e, o6 d e]
      exact ⟨this.1, this.2.1, fun i hi => by rw [o7 d i hd e hi]; exact this.2.2 i hi⟩
  · exact (h.2.2.2.2.2 t h4).mv (f _ (by omega) (by omega) (by omega)) (f _ (by omega) (by omega) (by omega)) (f _ (by omega) (by omega) (by omega)) (f _ (by omega) (by omega) (by omega)) (f _ (by omega) (by omega) (by omega))
theorem shRel.sort {d k g : Nat} (hk : k < 6) (hg : g ≤ 9) (e0 : Z' (60 + d) 0 = 1) (e1 : Z' (60 + d) 1 = nI k) (e2 : Z' (60 + d) 2 = nI g) (e4 : Z' 104 d = 1) (e5 : Z' 105 d = nI k) (e6 : Z' 106 d = nI g) (ej : ∀ i, i < 100 → Z' (68 + d) i = Z' 107 (100 * d + i)) : shRel d Z' :=
  ⟨by rw [e0, e4], Or.inr (Or.inl ⟨e4, by rw [e5]; exact zKi_of hk, by rw [e1, e5], by rw [e6]; exact zin_of (n := 9) hg (by decide), by rw [e2, e6]⟩), ej⟩
theorem shRel.row {d k g : Nat} (hk : k < 3) (hg : g ≤ 100) (e0 : Z' (60 + d) 0 = 2) (e1 : Z' (60 + d) 3 = nI k) (e2 : Z' (60 + d) 4 = nI g) (e4 : Z' 104 d = 2) (e5 : Z' 105 d = nI k) (e6 : Z' 106 d = nI g) (ej : ∀ i, i < 100 → Z' (68 + d) i = Z' 107 (100 * d + i)) : shRel d Z' := by
  refine ⟨by rw [e0, e4], Or.inr (Or.inr ⟨e4, ?_, by rw [e1, e5], by rw [e6]; exact zin_of (n := 100) hg (by decide), by rw [e2, e6]⟩), ej⟩
  rw [e5]
  rcases (show k = 0 ∨ k = 1 ∨ k = 2 by omega) with e | e | e <;> subst e
  · exact Or.inl rfl
  · exact Or.inr (Or.inl rfl)
  · exact Or.inr (Or.inr rfl)
theorem m_keep {a1 a2 a3 a4 : Int32} (h : zI S Q Z) : wX11_keep a1 a2 a3 a4 Z (fun r Z1 => wX12_keep_ a1 a2 a3 a4 Z1 (zD r)) := by
  unfold wX11_keep
  refine c_shelf (fun ha => ?_) (fun ha => ?_)
  · refine br_f (by decide) (c_win (fun hb => ?_) (fun hb => ?_))
    · refine br_t (by decide) ?_
      obtain ⟨d, hd, rfl⟩ := id ha
      obtain ⟨n, -, hn, rfl⟩ := zW_n 0 1 rfl rfl (by decide) hb
      have in8 : vp_in (nI d) 8 := vp_in_nI hd (by decide)
      have hs := h.2.2.2.2.1 d hd
      by_cases n1 : n = 1
      · subst n1
        refine br_t (by decide) (c_win (fun hc => ?_) (fun hc => ?_))
        · refine br_f (by decide) (c_win (fun he => ?_) (fun he => ?_))
          · obtain ⟨k, -, hk, rfl⟩ := zW_n 0 5 rfl rfl (by decide) hc
            obtain ⟨g, -, hg, rfl⟩ := zW_n 0 9 rfl rfl (by decide) he
            refine br_t (by decide) ⟨in8, vp_in_nI (show k < 6 by omega) (by decide), ?_⟩
            unfold wX6_holdSort
            rw [nI_clamp (by omega)]
            rintro _ rfl _ rfl _ rfl
            unfold wX12_keep_
            refine r_shelf_t ha (br_f (by decide) (r_win_t hb (br_t (by decide) (br_f (fun x => x rfl) (r_win_t hc (br_f (by decide) (r_win_t he (br_t (by decide) ⟨in8, ?_⟩))))))))
            rintro _ rfl
            refine br_f (fun x => x rfl) ⟨in8, ?_⟩
            rintro _ rfl
            refine br_f (fun x => x rfl) ⟨in8, ?_⟩
            rintro _ rfl
            refine ⟨rfl, S, Q, ?_⟩
            rw [nI_clamp (by omega)]
            refine h.sh (a := d) (fun i h1 h2 h3 => ?_) (fun j hj => ?_) (fun j hj => ?_) (fun j hj => ?_) (fun e i _ _ _ => ?_) (shRel.sort (k := k) (g := g) (by omega) hg ?_ ?_ ?_ ?_ ?_ ?_ (fun i hi => ?_)) hd
            · simp (disch := omega) only [zU_r]
            · simp (disch := omega) only [zU_i, zU_k]
            · simp (disch := omega) only [zU_i, zU_k]
            · simp (disch := omega) only [zU_i, zU_k]
            · simp (disch := omega) only [zU_i, zU_k]
            · simp (disch := omega) only [zU_i, zU_k, zU_s]
            · simp (disch := omega) only [zU_i, zU_k, zU_s]
            · simp (disch := omega) only [zU_i, zU_k, zU_s]
            · simp (disch := omega) only [zU_i, zU_k, zU_s]; rfl
            · simp (disch := omega) only [zU_i, zU_k, zU_s]
            · simp (disch := omega) only [zU_i, zU_k, zU_s]
            · simp (disch := omega) only [zU_i]; exact hs.2.2 i hi
          · refine br_f (fun x => x rfl) ?_
            unfold wX12_keep_
            exact r_shelf_t ha (br_f (by decide) (r_win_t hb (br_t (by decide) (br_f (fun x => x rfl) (r_win_t hc (br_f (by decide) (r_win_f he (br_f (fun x => x rfl) ⟨rfl, h.inv⟩))))))))
        · refine br_t rfl ?_
          unfold wX12_keep_
          exact r_shelf_t ha (br_f (by decide) (r_win_t hb (br_t (by decide) (br_f (fun x => x rfl) (r_win_f hc (br_t rfl ⟨rfl, h.inv⟩))))))
      · have n0 : n = 0 := by omega
        subst n0
        refine br_f (fun x => x rfl) ⟨in8, ?_⟩
        rintro _ rfl
        unfold wX12_keep_
        refine r_shelf_t ha (br_f (by decide) (r_win_t hb (br_t (by decide) (br_t (by decide) ⟨in8, ?_⟩))))
        rintro _ rfl
        refine br_t (by decide) ⟨in8, ?_⟩
        rintro _ rfl
        refine br_t (by decide) ⟨in8, ?_⟩
        rintro _ rfl
        refine ⟨rfl, S, Q, ?_⟩
        rw [nI_clamp (by omega)]
        refine h.sh (a := d) (fun i h1 h2 h3 => ?_) (fun j hj => ?_) (fun j hj => ?_) (fun j hj => ?_) (fun e i _ _ _ => ?_) ⟨?_, Or.inl ?_, fun i hi => ?_⟩ hd
        · simp (disch := omega) only [zU_r]
        · simp (disch := omega) only [zU_i, zU_k]
        · simp (disch := omega) only [zU_i, zU_k]
        · simp (disch := omega) only [zU_i, zU_k]
        · simp (disch := omega) only [zU_i, zU_k]
        · simp (disch := omega) only [zU_i, zU_k, zU_s]; rfl
        · simp (disch := omega) only [zU_i, zU_k, zU_s]; rfl
        · simp (disch := omega) only [zU_i]; exact hs.2.2 i hi
    · refine br_f (fun x => x rfl) ?_
      unfold wX12_keep_
      exact r_shelf_t ha (br_f (by decide) (r_win_f hb (br_f (fun x => x rfl) ⟨rfl, h.inv⟩)))
  · refine br_t rfl ?_
    unfold wX12_keep_
    exact r_shelf_f ha (br_t rfl ⟨rfl, h.inv⟩)
/-! row -/
theorem j_fill {u n : Nat} {x : Int32} {K : zS → Prop} (hn : n ≤ 100) (hk : ∀ Z', (∀ i, ¬ i = u → Z' i = Z i) → (∀ j, j < n → Z' u j = x) → K Z') : wJ7_fill_53178 u n x Z K := by
  unfold wJ7_fill_53178
  rintro _ rfl _ rfl
  refine pk_loop (σ := zS) (fun m i Y => wJ7_fill_53178_5 u n x K m (nI i) (nI n) Y) (fun i Y => (∀ c, ¬ c = u → Y c = Z c) ∧ ∀ j, j < i → Y u j = x) n 0 Z (Nat.zero_le _) ⟨fun _ _ => rfl, fun j hj => absurd hj (Nat.not_lt_zero _)⟩ ?_ ?_
  · rintro m Y ⟨y1, y2⟩
    show wJ7_fill_53178_5b _ u n x (nI n) (nI n) Y K
    unfold wJ7_fill_53178_5b
    exact br_t (Int32.le_refl _) (hk Y y1 y2)
  · rintro m i Y hi ⟨y1, y2⟩ ih
    show wJ7_fill_53178_5b (fun x2 x3 Z => wJ7_fill_53178_5 u n x K m x2 x3 Z) u n x (nI i) (nI n) Y K
    unfold wJ7_fill_53178_5b
    refine br_f (nI_ge hi (by omega)) ⟨vp_in_nI hi (by omega), ?_⟩
    rw [nI_clamp (by omega)]
    rintro _ rfl _ rfl
    rw [nI_1]
    refine ih _ ⟨fun c hc => (zU_r hc).trans (y1 c hc), fun j hj => ?_⟩
    by_cases e : j = i
    · rw [e, zU_s]
    · rw [zU_k e]; exact y2 j (by omega)
theorem m_row {a1 a2 a3 : Int32} (h : zI S Q Z) : wX11_row a1 a2 a3 Z (fun r Z1 => wX12_row a1 a2 a3 Z1 (zD r)) := by
  unfold wX11_row
  refine c_shelf (fun ha => ?_) (fun ha => ?_)
  · refine br_f (by decide) (c_win (fun hb => ?_) (fun hb => ?_))
    · obtain ⟨d, hd, rfl⟩ := id ha
      have in8 : vp_in (nI d) 8 := vp_in_nI hd (by decide)
      refine br_f (by decide) (br_c (fun c => br_c (fun c0 => ?_) (fun c0 => ?_)) (fun c => ?_))
      · obtain ⟨n, -, hn, rfl⟩ := zW_n 0 2 rfl rfl (by decide) hb
        obtain ⟨g, -, hg, rfl⟩ := zW_n 0 100 rfl rfl (by decide) (show zW a3 0 100 from ⟨c0, c⟩)
        refine ⟨in8, ?_⟩
        unfold wX6_holdRow
        rw [nI_clamp (by omega)]
        rintro Z1 rfl Z2 rfl Z3 e3
        refine j_fill (by decide) (fun Z4 f4 g4 => ?_)
        unfold wX12_row
        refine r_shelf_t ha (br_f (by decide) (r_win_t hb (br_f (by decide) (br_t c (br_t c0 ⟨in8, ?_⟩)))))
        rintro Z5 rfl
        refine ⟨in8, ?_⟩
        rintro Z6 rfl
        refine ⟨in8, ?_⟩
        rintro Z7 e7 _ rfl
        rw [nI_clamp (by omega)] at e7
        refine pk_loop (σ := zS) (fun m i Y => wX12_row_55 (nI d) (nI n) (nI g) (zD 0) m (nI i) Y) (fun i Y => (∀ c, ¬ c = 107 → Y c = Z7 c) ∧ (∀ j, j < i → Y 107 (100 * d + j) = 0) ∧ ∀ j, ¬ (100 * d ≤ j ∧ j < 100 * d + 100) → Y 107 j = Z7 107 j) 100 0 Z7 (Nat.zero_le _) ⟨fun _ _ => rfl, fun j hj => absurd hj (Nat.not_lt_zero _), fun _ _ => rfl⟩ ?_ ?_
        · rintro m Y ⟨y1, y2, y3⟩
          show wX12_row_55b _ (nI d) (nI n) (nI g) 100 Y _
          unfold wX12_row_55b
          refine br_t (Int32.le_refl _) ⟨rfl, S, Q, ?_⟩
          have b : ∀ c, ¬ c = 107 → ¬ c = 68 + d → Y c = zU (zU (zU Z3 104 d 2) 105 d (nI n)) 106 d (nI g) c := by
            intro c h1 h2
            rw [y1 c h1, e7]
            unfold zU va_up
            by_cases x6 : c = 106
            · subst x6; simp [f4 106 (by omega)]
            by_cases x5 : c = 105
            · subst x5; simp [f4 105 (by omega)]
            by_cases x4 : c = 104
            · subst x4; simp [f4 104 (by omega)]
            simp [x6, x5, x4, f4 c h2]
          have b7 : ∀ j, ¬ (100 * d ≤ j ∧ j < 100 * d + 100) → Y 107 j = Z 107 j := by
            intro j hj
            rw [y3 j hj, e7]
            simp (disch := omega) only [zU_i]
            rw [f4 107 (by omega), e3]
            simp (disch := omega) only [zU_i]
          have b8 : ∀ i, i < 100 → Y (68 + d) i = 0 := by
            intro i hi
            rw [y1 _ (by omega), e7]
            simp (disch := omega) only [zU_i]
            exact g4 i hi
          subst e3
          refine h.sh (a := d) (fun i h1 h2 h3 => ?_) (fun j hj => ?_) (fun j hj => ?_) (fun j hj => ?_) (fun e i h1 h2 h3 => b7 _ (by omega)) (shRel.row (k := n) (g := g) (by omega) hg ?_ ?_ ?_ ?_ ?_ ?_ (fun i hi => ?_)) hd
          · rw [b i (by omega) h2]; simp (disch := omega) only [zU_r]
          · rw [b 104 (by omega) (by omega)]; simp (disch := omega) only [zU_i, zU_k]
          · rw [b 105 (by omega) (by omega)]; simp (disch := omega) only [zU_i, zU_k]
          · rw [b 106 (by omega) (by omega)]; simp (disch := omega) only [zU_i, zU_k]
          · rw [b (60 + d) (by omega) (by omega)]; simp (disch := omega) only [zU_i, zU_k, zU_s]
          · rw [b (60 + d) (by omega) (by omega)]; simp (disch := omega) only [zU_i, zU_k, zU_s]
          · rw [b (60 + d) (by omega) (by omega)]; simp (disch := omega) only [zU_i, zU_k, zU_s]
          · rw [b 104 (by omega) (by omega)]; simp (disch := omega) only [zU_i, zU_k, zU_s]
          · rw [b 105 (by omega) (by omega)]; simp (disch := omega) only [zU_i, zU_k, zU_s]
          · rw [b 106 (by omega) (by omega)]; simp (disch := omega) only [zU_i, zU_k, zU_s]
          · rw [b8 i hi, y2 i hi]
        · rintro m i Y hi ⟨y1, y2, y3⟩ ih
          show wX12_row_55b (fun x4 Z => wX12_row_55 (nI d) (nI n) (nI g) (zD 0) m x4 Z) (nI d) (nI n) (nI g) (nI i) Y _
          unfold wX12_row_55b
          refine br_f (nI_ge (b := 100) hi (by decide)) ?_
          simp (disch := omega) only [zlit_mul, nI_add, nI_clamp, vp_in_nI, true_and]
          rintro _ rfl _ rfl
          rw [nI_1]
          refine ih _ ⟨fun c hc => (zU_r hc).trans (y1 c hc), fun j hj => ?_, fun j hj => ?_⟩
          · by_cases e : j = i
            · rw [e, zU_s]
            · rw [zU_k (by omega)]; exact y2 j (by omega)
          · rw [zU_k (by omega)]; exact y3 j hj
      · unfold wX12_row
        exact r_shelf_t ha (br_f (by decide) (r_win_t hb (br_f (by decide) (br_t c (br_f c0 ⟨rfl, h.inv⟩)))))
      · unfold wX12_row
        exact r_shelf_t ha (br_f (by decide) (r_win_t hb (br_f (by decide) (br_f c ⟨rfl, h.inv⟩))))
    · refine br_t rfl ?_
      unfold wX12_row
      exact r_shelf_t ha (br_f (by decide) (r_win_f hb (br_t rfl ⟨rfl, h.inv⟩)))
  · refine br_t rfl ?_
    unfold wX12_row
    exact r_shelf_f ha (br_t rfl ⟨rfl, h.inv⟩)
end M7
