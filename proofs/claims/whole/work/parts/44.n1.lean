/-! FACE: lays, like -/
section N1
variable {S Q : zP} {Z Z' : zS} {K : Int32 → zS → Prop}
theorem m_lays {a1 a2 a3 : Int32} (h : zI S Q Z) : wX11_lays a1 a2 a3 Z (fun r Z1 => wX12_lays a1 a2 a3 Z1 (zD r)) := by
  unfold wX11_lays
  refine c_tray (fun ha => br_f (by decide) (c_shelf (fun hb => ?_) (fun hb => ?_))) (fun ha => ?_)
  · obtain ⟨t, ht, rfl⟩ := id ha
    obtain ⟨d, hd, rfl⟩ := id hb
    have in4 : vp_in (nI t) 4 := vp_in_nI ht (by decide)
    have in8 : vp_in (nI d) 8 := vp_in_nI hd (by decide)
    have ct : (nI t).toNatClampNeg = t := nI_clamp (by omega)
    have cd : (nI d).toNatClampNeg = d := nI_clamp (by omega)
    have hs := h.2.2.2.2.1 d hd
    have e4 := hs.1
    refine br_t (by decide) ⟨in8, ?_⟩
    rw [cd, ct]
    intro v e
    have e := e.symm
    subst e
    have ref : ∀ r, ∀ Y : zS, Y 104 = Z 104 → Y 105 = Z 105 → Y 108 = Z 108 → Y 109 = Z 109 → (Z (60 + d) 0 = 2 → zD r (-12) Y) → (¬ Z (60 + d) 0 = 2 → (Z 108 t = -4 → zD r (-11) Y) ∧ (¬ Z 108 t = -4 → (¬ zW a2 0 (Z 109 t - 1) → zD r (-13) Y) ∧ (zW a2 0 (Z 109 t - 1) → (¬ Z (60 + d) 0 = 1 → wX12_lays_93 (nI t) a2 (nI d) Y (zD r)) ∧ (Z (60 + d) 0 = 1 → wX12_isUnder (Z 105 d) (Z 108 t) Y (fun r20 Z19 => ((¬ r20 = 0 → wX12_lays_93 (nI t) a2 (nI d) Z19 (zD r)) ∧ (¬ (¬ r20 = 0) → (zD r) ((-16)) Z19))))))) → wX12_lays (nI t) a2 (nI d) Y (zD r) := by
      intro r Y y4 y5 y8 y9 p q
      unfold wX12_lays
      refine r_tray_t ha (br_f (by decide) (r_shelf_t hb (br_t (by decide) ⟨in8, ?_⟩)))
      rw [cd, ct, y4, ← e4]
      refine br_c (fun c => ⟨in4, ?_⟩) (fun c => p (Classical.not_not.mp c))
      obtain ⟨q1, q2⟩ := q c
      rw [y8]
      refine br_c (fun c => ⟨in4, ?_⟩) (fun c => q1 (Classical.not_not.mp c))
      obtain ⟨q3, q4⟩ := q2 c
      rw [y9]
      refine r_win (fun x => br_t (by decide) ⟨in8, ?_⟩) (fun x => br_f (fun y => y rfl) (q3 x))
      obtain ⟨q5, q6⟩ := q4 x
      rw [y4, ← e4]
      refine br_c (fun c => q5 c) (fun c => ⟨in8, in4, ?_⟩)
      rw [y5, y8]
      exact q6 (Classical.not_not.mp c)
    refine br_c (fun c2 => ⟨in4, ?_⟩) (fun c2 => ref _ Z rfl rfl rfl rfl (fun _ => ⟨rfl, h.inv⟩) (fun x => absurd x c2))
    intro v e
    have e := e.symm
    subst e
    rcases (h.2.2.2.2.2 t ht).cs with ⟨t0, t8⟩ | ⟨t0, t8, tk, t1, ⟨g, hg, t9, t2⟩, ti⟩
    · exact br_f (fun x => x t0) (ref _ Z rfl rfl rfl rfl (fun x => absurd x c2) (fun _ => ⟨fun _ => ⟨rfl, h.inv⟩, fun x => absurd t8 x⟩))
    refine br_t t0 (c_place (fun x => br_t (by decide) ?_) (fun x => br_f (fun y => y rfl) (ref _ Z rfl rfl rfl rfl (fun x => absurd x c2) (fun _ => ⟨fun x => absurd x t8, fun _ => ⟨fun _ => ⟨rfl, h.inv⟩, fun z => absurd ?_ x⟩⟩))))
    · rw [t2] at x
      obtain ⟨i, hi, rfl⟩ := (zW_of (zGe (by omega)) (by omega)).mp x
      have in20 : vp_in (nI i) 20 := vp_in_nI (by omega) (by decide)
      have ci : (nI i).toNatClampNeg = i := nI_clamp (by omega)
      rw [ci]
      have x9 : zW (nI i) 0 (Z 109 t - 1) := by rw [t9]; exact x
      have inv : ∀ k l : Int32, ((k = -4 ∧ l = 0) ∨ (zKi k ∧ l = k + 1)) → zInv (zU (zU Z (80 + t) i k) 110 (20 * t + i) l) := by
        intro k l kl
        refine ⟨S, Q, h.tr (a := t) (fun i h1 h2 h3 => ?_) (fun j hj => ?_) (fun j hj => ?_) (fun e j h1 h2 h3 => ?_) (Or.inr ⟨?_, ?_, ?_, ?_, ?_, fun j hj => ?_⟩) ht⟩
        · simp (disch := omega) only [zU_r]
        · simp (disch := omega) only [zU_i, zU_k]
        · simp (disch := omega) only [zU_i, zU_k]
        · simp (disch := omega) only [zU_i, zU_k]
        · simp (disch := omega) only [zU_i]
          rcases h.2.2.2.2.2 t ht with z | z
          · exact absurd z.1 t0
          · exact z.1
        · simp (disch := omega) only [zU_i]; exact tk
        · simp (disch := omega) only [zU_i]; exact t1
        · simp (disch := omega) only [zU_i]; rw [t9]; exact zin_of (n := 20) hg (by decide)
        · simp (disch := omega) only [zU_i]; rw [t2, t9]
        · by_cases e : j = i
          · subst e
            simp (disch := omega) only [zU_i, zU_s]; exact kl
          · simp (disch := omega) only [zU_i, zU_k]; exact ti j hj
      have fin : ∀ k, (k = -4 ∧ ¬ Z (60 + d) 0 = 1 ∨ zKi k ∧ Z (60 + d) 0 = 1 ∧ k = Z 105 d) → wX12_lays_93 (nI t) (nI i) (nI d) (zU Z (80 + t) i k) (zD 1) := by
        intro k hk
        unfold wX12_lays_93 wX12_lays_125
        refine ⟨in8, ?_⟩
        rw [cd, zU_i (by omega), zU_i (by omega), ← e4]
        simp (disch := omega) only [zlit_mul, nI_add, nI_clamp, vp_in_nI, true_and]
        refine br_c (fun c => ?_) (fun c => ?_)
        · rintro _ rfl
          refine ⟨rfl, inv _ _ (Or.inl ⟨?_, rfl⟩)⟩
          rcases hk with z | z
          · exact z.1
          · exact absurd z.2.1 c
        · rintro _ rfl
          refine ⟨rfl, inv _ _ (Or.inr ?_)⟩
          rcases hk with z | z
          · exact absurd (Classical.not_not.mp c) z.2
          · exact ⟨z.1, by rw [z.2.2]⟩
      refine br_c (fun c0 => ?_) (fun c0 => ⟨in20, ?_⟩)
      · obtain ⟨h1, k5, e1, -, -⟩ : Z (60 + d) 0 = 1 ∧ zKi (Z 105 d) ∧ Z (60 + d) 1 = Z 105 d ∧ zin (Z 106 d) 0 9 ∧ Z (60 + d) 2 = Z 106 d := by
          rcases hs.2.1 with a | a | a
          · exact absurd (e4.trans a) c0
          · exact ⟨e4.trans a.1, a.2⟩
          · exact absurd (e4.trans a.1) c2
        rw [e1, t1]
        refine c_under k5 tk (br_c (fun c => ⟨by rw [e1]; exact k5, in20, ?_⟩) (fun c => ref _ Z rfl rfl rfl rfl (fun x => absurd x c2) (fun _ => ⟨fun x => absurd x t8, fun _ => ⟨fun z => absurd x9 z, fun _ => ⟨fun z => absurd h1 z, fun _ => r_under k5 tk (br_f c ⟨rfl, h.inv⟩)⟩⟩⟩)))
        rintro _ rfl
        rw [e1]
        have o : ∀ c, ¬ c = 80 + t → zU Z (80 + t) i (Z 105 d) c = Z c := fun c hc => zU_r hc
        refine ref _ _ (o _ (by omega)) (o _ (by omega)) (o _ (by omega)) (o _ (by omega)) (fun x => absurd x c2) (fun _ => ⟨fun x => absurd x t8, fun _ => ⟨fun z => absurd x9 z, fun _ => ⟨fun z => absurd h1 z, fun _ => r_under k5 tk (br_t c (fin _ (Or.inr ⟨k5, h1, rfl⟩)))⟩⟩⟩)
      · have c0 := Classical.not_not.mp c0
        rintro _ rfl
        have o : ∀ c, ¬ c = 80 + t → zU Z (80 + t) i (-4) c = Z c := fun c hc => zU_r hc
        have n1 : ¬ Z (60 + d) 0 = 1 := by rw [c0]; decide
        exact ref _ _ (o _ (by omega)) (o _ (by omega)) (o _ (by omega)) (o _ (by omega)) (fun x => absurd x c2) (fun _ => ⟨fun x => absurd x t8, fun _ => ⟨fun z => absurd x9 z, fun _ => ⟨fun _ => fin _ (Or.inl ⟨rfl, n1⟩), fun z => absurd z n1⟩⟩⟩)
    · rw [t2, ← t9]; exact z
  · refine br_f (fun x => x rfl) ?_
    unfold wX12_lays
    exact r_tray_t ha (br_f (by decide) (r_shelf_f hb (br_f (fun x => x rfl) ⟨rfl, h.inv⟩)))
  · refine br_t rfl ?_
    unfold wX12_lays
    exact r_tray_f ha (br_t rfl ⟨rfl, h.inv⟩)
end N1
