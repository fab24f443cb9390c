/-! FACE: toss and element, what the reference answers to what the class does -/
section Q1
variable {S Q P : zP} {Z Z0 Z' : zS} {K : Int32 → zS → Prop}
def vToss (k f : Int32) : Int32 := if f = 0 then -15 else if k = 2 then -15 else if k = 0 then f else if k = 5 then 200 + (2 * f + 1) else 100 + f
theorem r_toss {d : Nat} (h : zI S Q Z) (hd : d < 8) (c : Z (60 + d) 0 = 1) : zKi (Z (60 + d) 1) ∧ zin (Z (60 + d) 2) 0 9 ∧ wX12_toss (nI d) Z (zD (vToss (Z (60 + d) 1) (Z (60 + d) 2))) := by
  have hs := h.2.2.2.2.1 d hd
  have in8 : vp_in (nI d) 8 := vp_in_nI hd (by decide)
  have cl : (nI d).toNatClampNeg = d := nI_clamp (by omega)
  have h4 : Z 104 d = 1 := hs.1.symm.trans c
  obtain ⟨-, z5, e1, z6, e2⟩ : Z 104 d = 1 ∧ zKi (Z 105 d) ∧ Z (60 + d) 1 = Z 105 d ∧ zin (Z 106 d) 0 9 ∧ Z (60 + d) 2 = Z 106 d := by
    rcases hs.2.1 with a | a | a
    · rw [h4] at a; exact absurd a (by decide)
    · exact a
    · rw [h4] at a; exact absurd a.1 (by decide)
  rw [e1, e2]
  refine ⟨z5, z6, ?_⟩
  unfold wX12_toss wX12_noSort
  refine r_shelf_t ⟨d, hd, rfl⟩ (br_t (by decide) ⟨in8, ?_⟩)
  rw [cl, h4]
  refine br_t (by decide) ⟨in8, br_t rfl (br_t (by decide) ⟨in8, ?_⟩)⟩
  unfold vToss
  refine br_c (fun k2 => ⟨?_, h.inv⟩) (fun k2 => ⟨in8, br_c (fun f0 => ⟨in8, ?_⟩) (fun f0 => ⟨?_, h.inv⟩)⟩)
  · by_cases f0 : Z 106 d = 0
    · rw [if_pos f0]
    · rw [if_neg f0, if_pos k2]
  · rw [if_neg f0, if_neg k2]
    refine br_c (fun k5 => ⟨in8, br_c (fun k0 => ⟨in8, ?_, h.inv⟩) (fun k0 => ⟨in8, ?_, h.inv⟩)⟩) (fun k5 => ?_)
    · rw [if_neg k0, if_neg k5]
    · rw [if_pos (Classical.not_not.mp k0)]
    · have k5 := Classical.not_not.mp k5
      rw [k5, if_neg (by decide), if_pos rfl]
      unfold wX12_costOf
      rw [cl, k5]
      refine ⟨in8, ?_⟩
      rintro _ rfl
      exact br_f (by decide) (br_f (by decide) (br_f (by decide) (br_f (by decide) (br_t rfl ⟨in8, rfl, h.inv⟩))))
  · rw [if_pos (Classical.not_not.mp f0)]
theorem m_toss {a1 : Int32} (h : zI S Q Z) : wX11_sortRefusal a1 Z (fun r Z1 => (r = 0 → Z1 = Z ∧ ∃ d, d < 8 ∧ a1 = nI d ∧ Z (60 + d) 0 = 1) ∧ (¬ r = 0 → wX12_toss a1 Z1 (zD r))) := by
  unfold wX11_sortRefusal
  refine c_cont (fun ha => br_f (by decide) ?_) (fun d hd e c => br_f (by decide) ?_) (fun d hd e c c' => br_f (by decide) ?_) (fun d hd e c c' => br_t rfl ⟨rfl, d, hd, e, c'⟩)
  · unfold wX12_toss
    exact r_shelf_f ha (br_f (fun x => x rfl) ⟨rfl, h.inv⟩)
  · subst e
    have hs := h.2.2.2.2.1 d hd
    have in8 : vp_in (nI d) 8 := vp_in_nI hd (by decide)
    unfold wX12_toss wX12_noSort
    refine r_shelf_t ⟨d, hd, rfl⟩ (br_t (by decide) ⟨in8, ?_⟩)
    rw [nI_clamp (by omega), ← hs.1]
    exact br_f (fun x => x c) (br_f (by decide) ⟨rfl, h.inv⟩)
  · subst e
    have hs := h.2.2.2.2.1 d hd
    have in8 : vp_in (nI d) 8 := vp_in_nI hd (by decide)
    unfold wX12_toss wX12_noSort
    refine r_shelf_t ⟨d, hd, rfl⟩ (br_t (by decide) ⟨in8, ?_⟩)
    rw [nI_clamp (by omega), ← hs.1]
    exact br_t c ⟨in8, br_f c' (br_f (by decide) ⟨rfl, h.inv⟩)⟩
/-- element: where the class throws for no shelf (1), for no row or place (2), or answers (0) -/
theorem zI.th {x : Int32} (h : zI S Q Z) : zI S Q (zU Z 97 21 x) := by
  refine h.h ⟨fun i hi => zU_r (by omega), zU_k (by decide)⟩ ?_
  exact h.2.2.1.mv (zU_k (by decide)) (zU_k (by decide)) (zU_r (by decide)) (zU_r (by decide)) (zU_r (by decide))
def zDE (r : Int64) (t : Int32) : Int64 → zS → Prop := fun r2 Z2 => r2 = r ∧ Z2 97 21 = t ∧ zInv Z2
theorem r_elem {a1 a2 : Int32} (h : zI S Q Z) : (¬ zOf 8 a1 → wX12_element a1 a2 Z (zDE 0 1)) ∧ (∀ d, d < 8 → a1 = nI d → (¬ Z (60 + d) 0 = 2 → wX12_element a1 a2 Z (zDE 0 2)) ∧ (Z (60 + d) 0 = 2 → ∀ g, g ≤ 100 → Z (60 + d) 4 = nI g → (¬ zOf g a2 → wX12_element a1 a2 Z (zDE 0 2)) ∧ (∀ i, i < g → a2 = nI i → wX12_element a1 a2 Z (zDE (Int32.toInt64 (Z (68 + d) i)) 0)))) := by
  have k43 : ∀ s0, ¬ s0 = 0 → wX12_element_43 a1 a2 s0 Z (zDE 0 s0) := by
    intro s0 hs
    unfold wX12_element_43
    rintro _ rfl
    rw [zU_s]
    exact br_f hs ⟨rfl, zU_s _ _ _ _, h.th.inv⟩
  refine ⟨fun ha => ?_, fun d hd e => ?_⟩
  · unfold wX12_element
    exact r_shelf_f ha (br_f (fun x => x rfl) (k43 1 (by decide)))
  · subst e
    have hs := h.2.2.2.2.1 d hd
    have in8 : vp_in (nI d) 8 := vp_in_nI hd (by decide)
    have cl : (nI d).toNatClampNeg = d := nI_clamp (by omega)
    refine ⟨fun c => ?_, fun c g hg e4 => ?_⟩
    · unfold wX12_element wX12_element_38
      refine r_shelf_t ⟨d, hd, rfl⟩ (br_t (by decide) ⟨in8, ?_⟩)
      rw [cl, ← hs.1]
      exact br_t c (k43 2 (by decide))
    · obtain ⟨g', hg', -, -, e6, e4'⟩ := hs.isRow c
      have eg : g' = g := (nI_eq (a := g') (b := g) (by omega) (by omega)).mp (e4'.symm.trans e4)
      subst eg
      have pre : ∀ D : Int64 → zS → Prop, (zOf g' a2 → wX12_element_43 (nI d) a2 0 Z D) → (¬ zOf g' a2 → wX12_element_43 (nI d) a2 2 Z D) → wX12_element (nI d) a2 Z D := by
        intro D q1 q2
        unfold wX12_element wX12_element_38
        refine r_shelf_t ⟨d, hd, rfl⟩ (br_t (by decide) ⟨in8, ?_⟩)
        rw [cl, ← hs.1]
        refine br_f (fun x => x c) ⟨in8, ?_⟩
        rw [e6]
        exact r_win (fun x => br_t (by decide) (q1 ((zW_of (zGe hg') (by omega)).mp x))) (fun x => br_f (fun y => y rfl) (q2 (fun y => x ((zW_of (zGe hg') (by omega)).mpr y))))
      refine ⟨fun n => pre _ (fun y => absurd y n) (fun _ => k43 2 (by decide)), fun i hi e => ?_⟩
      subst e
      refine pre _ (fun _ => ?_) (fun n => absurd ⟨i, hi, rfl⟩ n)
      unfold wX12_element_43
      rintro _ rfl
      rw [zU_s]
      refine br_t rfl ?_
      simp (disch := omega) only [zlit_mul, nI_add, nI_clamp, vp_in_nI, true_and]
      rw [zU_i (by decide)]
      exact ⟨by rw [hs.2.2 i (by omega)], zU_s _ _ _ _, h.th.inv⟩
end Q1
