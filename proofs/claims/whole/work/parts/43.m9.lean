/-! FACE: trays: tray, laid, lays, like -/
section M9
variable {S Q : zP} {Z Z' : zS} {K : Int32 → zS → Prop}
theorem zI.tr {a : Nat} (h : zI S Q Z) (f : ∀ i, ¬ i = 76 + a → ¬ i = 80 + a → ¬ (108 ≤ i ∧ i ≤ 110) → Z' i = Z i) (o8 : ∀ j, ¬ j = a → Z' 108 j = Z 108 j) (o9 : ∀ j, ¬ j = a → Z' 109 j = Z 109 j) (o0 : ∀ t i, t < 4 → ¬ t = a → i < 20 → Z' 110 (20 * t + i) = Z 110 (20 * t + i)) (r : trRel a Z') (ha : a < 4) : zI S Q Z' := by
  refine h.ag (fun i hi => f i (by omega) (by omega) (by omega)) (fun d hd => ?_) (fun t h4 => ?_)
  · exact (h.2.2.2.2.1 d hd).mv (f _ (by omega) (by omega) (by omega)) (f _ (by omega) (by omega) (by omega)) (f _ (by omega) (by omega) (by omega)) (f _ (by omega) (by omega) (by omega)) (f _ (by omega) (by omega) (by omega)) (f _ (by omega) (by omega) (by omega))
  · by_cases e : t = a
    · rw [e]; exact r
    · have := h.2.2.2.2.2 t h4
      unfold trRel at this ⊢
      rw [f (76 + t) (by omega) (by omega) (by omega), f (80 + t) (by omega) (by omega) (by omega), o8 t e, o9 t e]
      rcases this with x | ⟨x0, x1, x2, x3, x4, x5⟩
      · exact Or.inl x
      · exact Or.inr ⟨x0, x1, x2, x3, x4, fun i hi => by rw [o0 t i h4 e hi]; exact x5 i hi⟩
theorem m_tray {a1 a2 a3 : Int32} (h : zI S Q Z) : wX11_tray a1 a2 a3 Z (fun r Z1 => wX12_tray a1 a2 a3 Z1 (zD r)) := by
  unfold wX11_tray
  refine c_tray (fun ha => ?_) (fun ha => ?_)
  · refine br_f (by decide) (c_win (fun hb => ?_) (fun hb => ?_))
    · obtain ⟨d, hd, rfl⟩ := id ha
      have in4 : vp_in (nI d) 4 := vp_in_nI hd (by decide)
      refine br_f (by decide) (br_c (fun c => br_c (fun c0 => ?_) (fun c0 => ?_)) (fun c => ?_))
      · obtain ⟨n, -, hn, rfl⟩ := zW_n 0 5 rfl rfl (by decide) hb
        obtain ⟨g, -, hg, rfl⟩ := zW_n 0 20 rfl rfl (by decide) (show zW a3 0 20 from ⟨c0, c⟩)
        refine ⟨in4, vp_in_nI (show n < 6 by omega) (by decide), ?_⟩
        unfold wX10_becomeEmpty
        rw [nI_clamp (by omega)]
        rintro Z1 rfl Z2 rfl Z3 e3
        refine j_fill (by decide) (fun Z4 f4 g4 => ?_)
        unfold wX12_tray
        refine r_tray_t ha (br_f (by decide) (r_win_t hb (br_f (by decide) (br_t c (br_t c0 ⟨in4, ?_⟩)))))
        rintro Z5 rfl
        refine ⟨in4, ?_⟩
        rintro Z7 e7 _ rfl
        rw [nI_clamp (by omega)] at e7
        refine pk_loop (σ := zS) (fun m i Y => wX12_tray_48 (nI d) (nI n) (nI g) (zD 1) m (nI i) Y) (fun i Y => (∀ c, ¬ c = 110 → Y c = Z7 c) ∧ (∀ j, j < i → Y 110 (20 * d + j) = 0) ∧ ∀ j, ¬ (20 * d ≤ j ∧ j < 20 * d + 20) → Y 110 j = Z7 110 j) 20 0 Z7 (Nat.zero_le _) ⟨fun _ _ => rfl, fun j hj => absurd hj (Nat.not_lt_zero _), fun _ _ => rfl⟩ ?_ ?_
        · rintro m Y ⟨y1, y2, y3⟩
          show wX12_tray_48b _ (nI d) (nI n) (nI g) 20 Y _
          unfold wX12_tray_48b
          refine br_t (Int32.le_refl _) ⟨rfl, S, Q, ?_⟩
          have b : ∀ c, ¬ c = 110 → ¬ c = 80 + d → Y c = zU (zU Z3 108 d (nI n)) 109 d (nI g) c := by
            intro c h1 h2
            rw [y1 c h1, e7]
            unfold zU va_up
            by_cases x5 : c = 109
            · subst x5; simp [f4 109 (by omega)]
            by_cases x4 : c = 108
            · subst x4; simp [f4 108 (by omega)]
            simp [x5, x4, f4 c h2]
          have b7 : ∀ j, ¬ (20 * d ≤ j ∧ j < 20 * d + 20) → Y 110 j = Z 110 j := by
            intro j hj
            rw [y3 j hj, e7]
            simp (disch := omega) only [zU_i]
            rw [f4 110 (by omega), e3]
            simp (disch := omega) only [zU_i]
          have b8 : ∀ i, i < 20 → Y (80 + d) i = -4 := by
            intro i hi
            rw [y1 _ (by omega), e7]
            simp (disch := omega) only [zU_i]
            exact g4 i hi
          subst e3
          have e108 : Y 108 d = nI n := by rw [b 108 (by omega) (by omega)]; simp (disch := omega) only [zU_i, zU_k, zU_s]
          have e109 : Y 109 d = nI g := by rw [b 109 (by omega) (by omega)]; simp (disch := omega) only [zU_i, zU_k, zU_s]
          refine h.tr (a := d) (fun i h1 h2 h3 => ?_) (fun j hj => ?_) (fun j hj => ?_) (fun e i h1 h2 h3 => b7 _ (by omega)) (Or.inr ⟨?_, ?_, ?_, ?_, ?_, fun i hi => Or.inl ⟨b8 i hi, y2 i hi⟩⟩) hd
          · rw [b i (by omega) h2]; simp (disch := omega) only [zU_r]
          · rw [b 108 (by omega) (by omega)]; simp (disch := omega) only [zU_i, zU_k]
          · rw [b 109 (by omega) (by omega)]; simp (disch := omega) only [zU_i, zU_k]
          · rw [b (76 + d) (by omega) (by omega)]; simp (disch := omega) only [zU_i, zU_k, zU_s]
          · rw [e108]; exact zKi_of (by omega)
          · rw [e108, b (76 + d) (by omega) (by omega)]; simp (disch := omega) only [zU_i, zU_k, zU_s]
          · rw [e109]; exact zin_of (n := 20) hg (by decide)
          · rw [e109, b (76 + d) (by omega) (by omega)]; simp (disch := omega) only [zU_i, zU_k, zU_s]
        · rintro m i Y hi ⟨y1, y2, y3⟩ ih
          show wX12_tray_48b (fun x4 Z => wX12_tray_48 (nI d) (nI n) (nI g) (zD 1) m x4 Z) (nI d) (nI n) (nI g) (nI i) Y _
          unfold wX12_tray_48b
          refine br_f (nI_ge (b := 20) hi (by decide)) ?_
          simp (disch := omega) only [zlit_mul, nI_add, nI_clamp, vp_in_nI, true_and]
          rintro _ rfl _ rfl
          rw [nI_1]
          refine ih _ ⟨fun c hc => (zU_r hc).trans (y1 c hc), fun j hj => ?_, fun j hj => ?_⟩
          · by_cases e : j = i
            · rw [e, zU_s]
            · rw [zU_k (by omega)]; exact y2 j (by omega)
          · rw [zU_k (by omega)]; exact y3 j hj
      · unfold wX12_tray
        exact r_tray_t ha (br_f (by decide) (r_win_t hb (br_f (by decide) (br_t c (br_f c0 ⟨rfl, h.inv⟩)))))
      · unfold wX12_tray
        exact r_tray_t ha (br_f (by decide) (r_win_t hb (br_f (by decide) (br_f c ⟨rfl, h.inv⟩))))
    · refine br_t rfl ?_
      unfold wX12_tray
      exact r_tray_t ha (br_f (by decide) (r_win_f hb (br_t rfl ⟨rfl, h.inv⟩)))
  · refine br_t rfl ?_
    unfold wX12_tray
    exact r_tray_f ha (br_t rfl ⟨rfl, h.inv⟩)
theorem c_place {v : Nat} {a : Int32} (h1 : zW a 0 (Z (76 + v) 2 - 1) → K 1 Z) (h0 : ¬ zW a 0 (Z (76 + v) 2 - 1) → K 0 Z) : wX10_hasPlace v a Z K := by
  unfold wX10_hasPlace
  exact c_win (fun x => ⟨Or.inr rfl, h1 x⟩) (fun x => ⟨Or.inl rfl, h0 x⟩)
theorem zGe {g : Nat} (hg : g ≤ 100) : (nI g - 1).toInt = (g : Int) - 1 := by
  have := nI_toInt (n := g) (by omega)
  rw [zsub (by rw [zi1]; omega) (by rw [zi1]; omega), zi1, this]
/-- a tray is empty-handed, or holds kind, size and places -/
theorem trRel.cs {t : Nat} (h : trRel t Z) : (Z (76 + t) 0 = 0 ∧ Z 108 t = -4) ∨ (¬ Z (76 + t) 0 = 0 ∧ ¬ Z 108 t = -4 ∧ zKi (Z 108 t) ∧ Z (76 + t) 1 = Z 108 t ∧ (∃ g, g ≤ 20 ∧ Z 109 t = nI g ∧ Z (76 + t) 2 = nI g) ∧ ∀ i, i < 20 → (Z (80 + t) i = -4 ∧ Z 110 (20 * t + i) = 0) ∨ (zKi (Z (80 + t) i) ∧ Z 110 (20 * t + i) = Z (80 + t) i + 1)) := by
  rcases h with a | ⟨a, b, c, d, e, f⟩
  · exact Or.inl a
  · obtain ⟨g, hg, eg⟩ := zin_nI (n := 20) d (by decide)
    refine Or.inr ⟨by rw [a]; decide, ?_, b, c, ⟨g, hg, eg, e.trans eg⟩, f⟩
    intro x
    rw [x] at b
    rcases b with b | b | b | b | b | b <;> exact absurd b (by decide)
theorem zKi.ne4 {k : Int32} (h : zKi k) : ¬ k = -4 ∧ ¬ k + 1 = 0 := by
  rcases h with e | e | e | e | e | e <;> subst e <;> exact ⟨by decide, by decide⟩
theorem m_laid {a1 a2 : Int32} (h : zI S Q Z) : wX11_laid a1 a2 Z (fun r Z1 => wX12_laid a1 a2 Z1 (zD r)) := by
  unfold wX11_laid
  refine c_tray (fun ha => ?_) (fun ha => ?_)
  · obtain ⟨d, hd, rfl⟩ := id ha
    have in4 : vp_in (nI d) 4 := vp_in_nI hd (by decide)
    refine br_t (by decide) ⟨in4, ?_⟩
    rw [nI_clamp (by omega)]
    intro v e
    have e := e.symm
    subst e
    rcases (h.2.2.2.2.2 d hd).cs with ⟨t0, t8⟩ | ⟨t0, t8, tk, t1, ⟨g, hg, t9, t2⟩, ti⟩
    · refine br_f (fun x => x t0) ?_
      unfold wX12_laid
      refine r_tray_t ha (br_t (by decide) ⟨in4, ?_⟩)
      rw [nI_clamp (by omega)]
      exact br_f (fun x => x t8) ⟨rfl, h.inv⟩
    · refine br_t t0 (c_place (fun x => ?_) (fun x => ?_))
      · rw [t2] at x
        obtain ⟨i, hi, rfl⟩ := (zW_of (zGe (by omega)) (by omega)).mp x
        have in20 : vp_in (nI i) 20 := vp_in_nI (by omega) (by decide)
        refine br_t (by decide) ⟨in20, ?_⟩
        have ci : (nI i).toNatClampNeg = i := nI_clamp (by omega)
        rw [ci]
        have ref : ∀ r, (¬ Z 110 (20 * d + i) = 0 → Z 110 (20 * d + i) - 1 = r) → (Z 110 (20 * d + i) = 0 → -11 = r) → wX12_laid (nI d) (nI i) Z (zD r) := by
          intro r r1 r2
          unfold wX12_laid
          refine r_tray_t ha (br_t (by decide) ⟨in4, ?_⟩)
          rw [nI_clamp (by omega)]
          refine br_t t8 ⟨in4, ?_⟩
          rw [t9]
          refine r_win_t x (br_t (by decide) ?_)
          simp (disch := omega) only [zlit_mul, nI_add, nI_clamp, vp_in_nI, true_and]
          exact br_c (fun c => ⟨r1 c, h.inv⟩) (fun c => ⟨r2 (Classical.not_not.mp c), h.inv⟩)
        rcases ti i (by omega) with ⟨p, q⟩ | ⟨p, q⟩
        · exact br_f (fun y => y p) (ref _ (fun c => absurd q c) (fun _ => rfl))
        · refine br_t p.ne4.1 ⟨in20, ref _ (fun _ => ?_) (fun c => absurd (q.symm.trans c) p.ne4.2)⟩
          rw [q, Int32.add_sub_cancel]
      · refine br_f (fun y => y rfl) ?_
        rw [t2] at x
        unfold wX12_laid
        refine r_tray_t ha (br_t (by decide) ⟨in4, ?_⟩)
        rw [nI_clamp (by omega)]
        refine br_t t8 ⟨in4, ?_⟩
        rw [t9]
        exact r_win_f x (br_f (fun y => y rfl) ⟨rfl, h.inv⟩)
  · refine br_f (fun x => x rfl) ?_
    unfold wX12_laid
    exact r_tray_f ha (br_f (fun x => x rfl) ⟨rfl, h.inv⟩)
theorem r_under {v u : Int32} (hv : zKi v) (hu : zKi u) (hk : K (zch v u) Z) : wX12_isUnder v u Z K := by
  unfold zKi at hv hu
  rcases hv with e | e | e | e | e | e <;> subst e <;> rcases hu with e | e | e | e | e | e <;> subst e <;> simp [wX12_isUnder, wX12_isUnder_24, wX12_isUnder_34] <;> exact hk
theorem zch_01 (v u : Int32) : zch v u = 0 ∨ zch v u = 1 := by
  unfold zch zch5 zch4 zch3 zch2 zch1 zch0
  repeat' split
  all_goals first | exact Or.inl rfl | exact Or.inr rfl
theorem c_under {v u : Int32} (hv : zKi v) (hu : zKi u) (hk : K (zch v u) Z) : d_isOrIsUnder v u Z K :=
  ⟨hv, fun _ => ⟨hv, hu, hk⟩, fun _ => ⟨hv, hu, hk⟩, fun _ => ⟨hv, hu, hk⟩, fun _ => ⟨hv, hu, hk⟩, fun _ => ⟨hv, hu, hk⟩, fun _ => ⟨hv, hu, hk⟩⟩
end M9
