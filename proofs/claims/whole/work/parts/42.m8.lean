/-! FACE: put, cost -/
section M8
variable {S Q : zP} {Z Z' : zS} {K : Int32 → zS → Prop}
theorem c_cont {m a1 : Int32} (h1 : ¬ zOf 8 a1 → K (-1) Z) (h2 : ∀ d, d < 8 → a1 = nI d → Z (60 + d) 0 = 0 → K (-11) Z) (h3 : ∀ d, d < 8 → a1 = nI d → ¬ Z (60 + d) 0 = 0 → ¬ Z (60 + d) 0 = m → K (-12) Z) (h4 : ∀ d, d < 8 → a1 = nI d → ¬ Z (60 + d) 0 = 0 → Z (60 + d) 0 = m → K 0 Z) : wX11_contentRefusal a1 m Z K := by
  unfold wX11_contentRefusal
  refine c_shelf (fun ha => br_t (by decide) ?_) (fun ha => br_f (fun x => x rfl) (h1 ha))
  obtain ⟨d, hd, rfl⟩ := id ha
  have in8 : vp_in (nI d) 8 := vp_in_nI hd (by decide)
  rw [nI_clamp (by omega)]
  exact ⟨in8, br_c (fun c => ⟨in8, br_c (fun e => h3 d hd rfl c e) (fun e => h4 d hd rfl c (Classical.not_not.mp e))⟩) (fun c => h2 d hd rfl (Classical.not_not.mp c))⟩
theorem m_cost {a1 : Int32} (h : zI S Q Z) : wX11_cost a1 Z (fun r Z1 => wX12_cost a1 Z1 (zD r)) := by
  unfold wX11_cost wX11_sortRefusal
  refine c_cont (fun ha => ?_) (fun d hd e c => ?_) (fun d hd e c c' => ?_) (fun d hd e c c' => ?_)
  · refine br_f (by decide) ?_
    unfold wX12_cost
    exact r_shelf_f ha (br_f (fun x => x rfl) ⟨rfl, h.inv⟩)
  · refine br_f (by decide) ?_
    subst e
    have hs := h.2.2.2.2.1 d hd
    have in8 : vp_in (nI d) 8 := vp_in_nI hd (by decide)
    unfold wX12_cost wX12_noSort
    refine r_shelf_t ⟨d, hd, rfl⟩ (br_t (by decide) ⟨in8, ?_⟩)
    rw [nI_clamp (by omega), ← hs.1]
    exact br_f (fun x => x c) (br_f (by decide) ⟨rfl, h.inv⟩)
  · refine br_f (by decide) ?_
    subst e
    have hs := h.2.2.2.2.1 d hd
    have in8 : vp_in (nI d) 8 := vp_in_nI hd (by decide)
    unfold wX12_cost wX12_noSort
    refine r_shelf_t ⟨d, hd, rfl⟩ (br_t (by decide) ⟨in8, ?_⟩)
    rw [nI_clamp (by omega), ← hs.1]
    exact br_t c ⟨in8, br_f c' (br_f (by decide) ⟨rfl, h.inv⟩)⟩
  · subst e
    have hs := h.2.2.2.2.1 d hd
    have in8 : vp_in (nI d) 8 := vp_in_nI hd (by decide)
    refine br_t rfl ⟨in8, in8, ?_⟩
    rw [nI_clamp (by omega)]
    have h4 : Z 104 d = 1 := hs.1.symm.trans c'
    obtain ⟨-, z5, e1, -, e2⟩ : Z 104 d = 1 ∧ zKi (Z 105 d) ∧ Z (60 + d) 1 = Z 105 d ∧ zin (Z 106 d) 0 9 ∧ Z (60 + d) 2 = Z 106 d := by
      rcases hs.2.1 with a | a | a
      · rw [h4] at a; exact absurd a (by decide)
      · exact a
      · rw [h4] at a; exact absurd a.1 (by decide)
    have ref : ∀ r, (∀ K' : Int32 → zS → Prop, K' r Z → wX12_costOf (nI d) Z K') → wX12_cost (nI d) Z (zD r) := by
      intro r hr
      unfold wX12_cost wX12_noSort
      refine r_shelf_t ⟨d, hd, rfl⟩ (br_t (by decide) ⟨in8, ?_⟩)
      rw [nI_clamp (by omega), ← hs.1]
      exact br_t c ⟨in8, br_t c' (br_t (by decide) (hr _ ⟨rfl, h.inv⟩))⟩
    have cl : (nI d).toNatClampNeg = d := nI_clamp (by omega)
    rw [e1, e2]
    refine ⟨z5, fun k => ?_, fun k => ?_, fun k => ?_, fun k => ?_, fun k => ?_, fun k => ?_⟩
    · unfold wX1_worth
      refine ref _ (fun K' hk => ?_)
      unfold wX12_costOf
      rw [cl, k]
      refine ⟨in8, ?_⟩
      rintro _ rfl
      exact br_f (by decide) (br_f (by decide) (br_f (by decide) (br_f (by decide) (br_f (by decide) ⟨in8, hk⟩))))
    · unfold wX0_worth
      refine ref _ (fun K' hk => ?_)
      unfold wX12_costOf
      rw [cl, k]
      refine ⟨in8, ?_⟩
      rintro _ rfl
      exact br_t rfl hk
    · unfold wX4_worth
      refine ref _ (fun K' hk => ?_)
      unfold wX12_costOf
      rw [cl, k]
      refine ⟨in8, ?_⟩
      rintro _ rfl
      exact br_f (by decide) (br_t rfl ⟨in8, hk⟩)
    · unfold wX7_worth wX0_worth
      refine ⟨by rw [k]; exact zKi_of (k := 3) (by decide), ref _ (fun K' hk => ?_)⟩
      unfold wX12_costOf
      rw [cl, k]
      refine ⟨in8, ?_⟩
      rintro _ rfl
      exact br_f (by decide) (br_f (by decide) (br_t rfl hk))
    · unfold wX2_worth
      refine ref _ (fun K' hk => ?_)
      unfold wX12_costOf
      rw [cl, k]
      refine ⟨in8, ?_⟩
      rintro _ rfl
      exact br_f (by decide) (br_f (by decide) (br_f (by decide) (br_t rfl hk)))
    · unfold wX9_worth wX4_worth
      refine ⟨by rw [k]; exact zKi_of (k := 5) (by decide), ref _ (fun K' hk => ?_)⟩
      unfold wX12_costOf
      rw [cl, k]
      refine ⟨in8, ?_⟩
      rintro _ rfl
      exact br_f (by decide) (br_f (by decide) (br_f (by decide) (br_f (by decide) (br_t rfl ⟨in8, hk⟩))))
theorem shRel.isRow {d : Nat} (hs : shRel d Z) (c : Z (60 + d) 0 = 2) : ∃ g, g ≤ 100 ∧ (Z 105 d = 0 ∨ Z 105 d = 1 ∨ Z 105 d = 2) ∧ Z (60 + d) 3 = Z 105 d ∧ Z 106 d = nI g ∧ Z (60 + d) 4 = nI g := by
  have h4 : Z 104 d = 2 := hs.1.symm.trans c
  rcases hs.2.1 with a | a | a
  · rw [h4] at a; exact absurd a (by decide)
  · rw [h4] at a; exact absurd a.1 (by decide)
  · obtain ⟨-, b1, b2, b3, b4⟩ := a
    obtain ⟨g, hg, eg⟩ := zin_nI (n := 100) b3 (by decide)
    exact ⟨g, hg, b1, b2, eg, b4.trans eg⟩
theorem m_put {a1 a2 a3 : Int32} (h : zI S Q Z) : wX11_put a1 a2 a3 Z (fun r Z1 => wX12_put a1 a2 a3 Z1 (zD r)) := by
  unfold wX11_put wX11_rowRefusal
  refine c_cont (fun ha => ?_) (fun d hd e c => ?_) (fun d hd e c c' => ?_) (fun d hd e c c' => ?_)
  · refine br_f (by decide) ?_
    unfold wX12_put
    exact r_shelf_f ha (br_f (fun x => x rfl) ⟨rfl, h.inv⟩)
  · refine br_f (by decide) ?_
    subst e
    have hs := h.2.2.2.2.1 d hd
    have in8 : vp_in (nI d) 8 := vp_in_nI hd (by decide)
    unfold wX12_put wX12_noRow
    refine r_shelf_t ⟨d, hd, rfl⟩ (br_t (by decide) ⟨in8, ?_⟩)
    rw [nI_clamp (by omega), ← hs.1]
    exact br_f (fun x => x c) (br_f (by decide) ⟨rfl, h.inv⟩)
  · refine br_f (by decide) ?_
    subst e
    have hs := h.2.2.2.2.1 d hd
    have in8 : vp_in (nI d) 8 := vp_in_nI hd (by decide)
    unfold wX12_put wX12_noRow
    refine r_shelf_t ⟨d, hd, rfl⟩ (br_t (by decide) ⟨in8, ?_⟩)
    rw [nI_clamp (by omega), ← hs.1]
    exact br_t c ⟨in8, br_f c' (br_f (by decide) ⟨rfl, h.inv⟩)⟩
  · subst e
    have hs := h.2.2.2.2.1 d hd
    have in8 : vp_in (nI d) 8 := vp_in_nI hd (by decide)
    obtain ⟨g, hg, b5, e3, e6, e4⟩ := hs.isRow c'
    have cl : (nI d).toNatClampNeg = d := nI_clamp (by omega)
    have g1 : (nI g - 1).toInt = (g : Int) - 1 := by
      have := nI_toInt (n := g) (by omega)
      rw [zsub (by rw [zi1]; omega) (by rw [zi1]; omega), zi1, this]
    have ref : ∀ r, ∀ Y, Y 104 = Z 104 → Y 105 = Z 105 → Y 106 = Z 106 → (zOf g a2 → ((¬ Y 105 d = 0 → ((¬ Y 105 d = 1 → wX12_put_83 (nI d) a2 a3 a3 (100 * nI d + a2) Y (zD r)) ∧ (¬ ¬ Y 105 d = 1 → wX12_put_83 (nI d) a2 a3 (Int16.toInt32 (Int32.toInt16 a3)) (100 * nI d + a2) Y (zD r)))) ∧ (¬ ¬ Y 105 d = 0 → wX12_put_83 (nI d) a2 a3 (Int8.toInt32 (Int32.toInt8 a3)) (100 * nI d + a2) Y (zD r)))) → (¬ zOf g a2 → zD r (-13) Y) → wX12_put (nI d) a2 a3 Y (zD r) := by
      intro r Y y4 y5 y6 p1 p2
      unfold wX12_put wX12_noRow
      refine r_shelf_t ⟨d, hd, rfl⟩ (br_t (by decide) ⟨in8, ?_⟩)
      rw [cl, y4, ← hs.1]
      refine br_t c ⟨in8, br_t c' (br_t (by decide) ⟨in8, ?_⟩)⟩
      rw [y6, e6]
      refine r_win (fun x => br_t (by decide) ⟨in8, ?_⟩) (fun x => br_f (fun y => y rfl) (p2 (fun y => x ((zW_of g1 (by omega)).mpr y))))
      obtain ⟨q1, q2⟩ := p1 ((zW_of g1 (by omega)).mp x)
      exact ⟨fun z => ⟨in8, q1 z⟩, q2⟩
    refine br_t rfl ⟨in8, ?_⟩
    rw [cl]
    have no : ¬ zOf g a2 → wX12_put (nI d) a2 a3 Z (zD (-13)) := fun x => ref _ Z rfl rfl rfl (fun y => absurd y x) (fun _ => ⟨rfl, h.inv⟩)
    unfold wX6_hasPlaces
    rw [e4]
    refine c_win (fun x => br_f (by decide) ?_) (fun x => br_t rfl (br_f (fun y => y rfl) (no (fun y => x ?_))))
    · obtain ⟨i, -, hi, rfl⟩ := zW_n 0 g rfl (nI_toInt (by omega)) (by omega) x
      have gi : (nI g - nI i).toInt = (g : Int) - i := by
        have := nI_toInt (n := g) (by omega)
        have := nI_toInt (n := i) (by omega)
        rw [zsub (by omega) (by omega)]; omega
      refine c_win (fun y => br_f (by decide) (br_t (by decide) ⟨in8, ?_⟩)) (fun y => br_t rfl (br_f (fun z => z rfl) (no (fun z => y ?_))))
      · have y := zle.mp y.2
        rw [e4, zi1, gi] at y
        have hig : i < g := by omega
        have inv : ∀ x, zInv (zU (zU Z (68 + d) i x) 107 (100 * d + i) x) := by
          intro x
          refine ⟨S, Q, h.sh (a := d) (fun i h1 h2 h3 => ?_) (fun j hj => ?_) (fun j hj => ?_) (fun j hj => ?_) (fun e i _ _ _ => ?_) ⟨?_, ?_, fun j hj => ?_⟩ hd⟩
          · simp (disch := omega) only [zU_r]
          · simp (disch := omega) only [zU_i, zU_k]
          · simp (disch := omega) only [zU_i, zU_k]
          · simp (disch := omega) only [zU_i, zU_k]
          · simp (disch := omega) only [zU_i, zU_k]
          · simp (disch := omega) only [zU_i]; exact hs.1
          · simp (disch := omega) only [zU_i]; exact hs.2.1
          · by_cases e : j = i
            · subst e
              simp (disch := omega) only [zU_i, zU_s]
            · simp (disch := omega) only [zU_i, zU_k]; exact hs.2.2 j hj
        have fin : ∀ x, wX12_put_83 (nI d) (nI i) a3 x (100 * nI d + nI i) (zU Z (68 + d) i x) (zD 0) := by
          intro x
          unfold wX12_put_83
          simp (disch := omega) only [zlit_mul, nI_add, nI_clamp, vp_in_nI, true_and]
          rintro _ rfl
          exact ⟨rfl, inv x⟩
        have a : ∀ Y : zS, ∀ x, zU Z (68 + d) i x 105 d = Z 105 d := fun Y x => zU_i (by omega)
        have go : ∀ x, (¬ Z 105 d = 0 → ¬ Z 105 d = 1 → x = a3) → (Z 105 d = 1 → x = Int16.toInt32 (Int32.toInt16 a3)) → (Z 105 d = 0 → x = Int8.toInt32 (Int32.toInt8 a3)) → wX12_put (nI d) (nI i) a3 (zU Z (68 + d) i x) (zD 0) := by
          intro x x1 x2 x3
          refine ref _ _ (zU_r (by omega)) (zU_r (by omega)) (zU_r (by omega)) (fun _ => ?_) (fun z => absurd ⟨i, hig, rfl⟩ z)
          rw [zU_i (by omega)]
          refine br_c (fun z0 => br_c (fun z1 => ?_) (fun z1 => ?_)) (fun z0 => ?_)
          · have := x1 z0 z1; subst this; exact fin _
          · have := x2 (Classical.not_not.mp z1); subst this; exact fin _
          · have := x3 (Classical.not_not.mp z0); subst this; exact fin _
        unfold wX6_setElement wX6_setElement_31
        rw [e3, nI_clamp (by omega)]
        refine br_c (fun z0 => br_c (fun z1 => ⟨vp_in_nI (show i < 100 by omega) (by decide), ?_⟩) (fun z1 => ⟨vp_in_nI (show i < 100 by omega) (by decide), ?_⟩)) (fun z0 => ⟨vp_in_nI (show i < 100 by omega) (by decide), ?_⟩)
        · rintro _ rfl
          exact go _ (fun _ _ => rfl) (fun z => absurd z z1) (fun z => absurd z z0)
        · rintro _ rfl
          exact go _ (fun _ z => absurd z z1) (fun _ => rfl) (fun z => absurd z z0)
        · rintro _ rfl
          have z0 := Classical.not_not.mp z0
          exact go _ (fun z => absurd z0 z) (fun z => by rw [z0] at z; exact absurd z (by decide)) (fun _ => rfl)
      · obtain ⟨k, hk, ek⟩ := z
        have : i = k := (nI_eq (a := i) (b := k) (by omega) (by omega)).mp ek
        exact ⟨zle.mpr (by rw [zi0, zi1]; decide), zle.mpr (by rw [e4, zi1, gi]; omega)⟩
    · obtain ⟨k, hk, rfl⟩ := y
      have := nI_toInt (n := k) (by omega)
      have := nI_toInt (n := g) (by omega)
      exact ⟨zle.mpr (by rw [zi0]; omega), zle.mpr (by omega)⟩
end M8
