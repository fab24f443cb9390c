/-! toss and element: what the class's contracts ask, from the invariant -/
section Q4
variable {S Q : zP} {Z : zS}
theorem m_tossK {a1 : Int32} (h : zI S Q Z) : wX11_sortRefusal a1 Z (fun r Z1 => (r = 0 → vp_in a1 8 ∧ zKi (Z1 (60 + a1.toNatClampNeg) 1) ∧ wX12_toss a1 Z1 (zD (vToss (Z1 (60 + a1.toNatClampNeg) 1) (Z1 (60 + a1.toNatClampNeg) 2)))) ∧ (¬ r = 0 → wX12_toss a1 Z1 (zD r))) := by
  unfold wX11_sortRefusal
  refine c_cont (fun ha => br_f (by decide) ?_) (fun d hd e c => br_f (by decide) ?_) (fun d hd e c c' => br_f (by decide) ?_) (fun d hd e c c' => br_t rfl ?_)
  · unfold wX12_toss
    exact r_shelf_f ha (br_f (fun x => x rfl) ⟨rfl, h.inv⟩)
  · subst e
    have hs := h.2.2.2.2.1 d hd
    have in8 : vp_in (nI d) 8 := vp_in_nI hd (by decide)
    unfold wX12_toss wX12_noSort
    refine r_shelf_t ⟨d, hd, rfl⟩ (br_t (by decide) ⟨in8, ?_⟩)
    rw [nI_clamp (by omega), ← hs.1]
    exact br_f (fun x => x c) (br_f (by decide) ⟨rfl, h.inv⟩)
  · subst e
    have hs := h.2.2.2.2.1 d hd
    have in8 : vp_in (nI d) 8 := vp_in_nI hd (by decide)
    unfold wX12_toss wX12_noSort
    refine r_shelf_t ⟨d, hd, rfl⟩ (br_t (by decide) ⟨in8, ?_⟩)
    rw [nI_clamp (by omega), ← hs.1]
    exact br_t c ⟨in8, br_f c' (br_f (by decide) ⟨rfl, h.inv⟩)⟩
  · subst e
    obtain ⟨k1, -, k3⟩ := r_toss h hd c'
    rw [nI_clamp (by omega)]
    exact ⟨vp_in_nI hd (by decide), k1, k3⟩
theorem M_tossK {a1 : Int32} (h : zInv Z) : wX11_sortRefusal a1 Z (fun r Z1 => (r = 0 → vp_in a1 8 ∧ zKi (Z1 (60 + a1.toNatClampNeg) 1) ∧ wX12_toss a1 Z1 (zD (vToss (Z1 (60 + a1.toNatClampNeg) 1) (Z1 (60 + a1.toNatClampNeg) 2)))) ∧ (¬ r = 0 → wX12_toss a1 Z1 (zD r))) := by
  obtain ⟨S, Q, h⟩ := h
  exact m_tossK h
def eK (a1 a2 : Int32) (k : Int32) (u : Int64 × zS) : Prop := wX12_element a1 a2 u.2 (zDE (if k = 0 then u.1 else 0) k)
theorem eK0 {a1 a2 : Int32} {r : Int64} (h : wX12_element a1 a2 Z (zDE r 0)) : eK a1 a2 0 (r, Z) := by unfold eK; rw [if_pos rfl]; exact h
theorem eK1 {a1 a2 : Int32} {r : Int64} (h : wX12_element a1 a2 Z (zDE 0 1)) : eK a1 a2 1 (r, Z) := by unfold eK; rw [if_neg (by decide)]; exact h
theorem eK2 {a1 a2 : Int32} {r : Int64} (h : wX12_element a1 a2 Z (zDE 0 2)) : eK a1 a2 2 (r, Z) := by unfold eK; rw [if_neg (by decide)]; exact h
theorem M_elemK {a1 a2 : Int32} {x : Int64} (h : zInv Z) : wElem a1 a2 Z (fun r Z1 => eK a1 a2 0 (r, Z1)) (fun nm Z1 => (nm = zIAE ∧ eK a1 a2 1 (x, Z1)) ∨ (nm = zISE ∧ eK a1 a2 2 (x, Z1))) := by
  obtain ⟨r1, r2⟩ := R_elem (a1 := a1) (a2 := a2) h
  unfold wElem
  refine c_shelf (fun ha => br_t (by decide) ?_) (fun ha => br_f (fun y => y rfl) (Or.inl ⟨rfl, eK1 (r1 ha)⟩))
  obtain ⟨d, hd, rfl⟩ := ha
  obtain ⟨q1, q2⟩ := r2 d hd rfl
  rw [nI_clamp (by omega)]
  refine ⟨vp_in_nI hd (by decide), br_c (fun c => Or.inr ⟨rfl, eK2 (q1 c)⟩) (fun c => ?_)⟩
  have c := Classical.not_not.mp c
  obtain ⟨g, hg, e4⟩ := h.row hd c
  obtain ⟨p1, p2⟩ := q2 c g hg e4
  refine c_fits hg e4 (fun f => br_t (by decide) ?_) (fun f => br_f (fun y => y rfl) (Or.inr ⟨rfl, eK2 (p1 (fun z => f ?_))⟩))
  · obtain ⟨i, n, rfl, en, hi⟩ := f.n hg
    have hn : n = 1 := (nI_eq (by omega) (by omega)).mp (en.symm.trans (rfl : (1 : Int32) = nI 1))
    subst hn
    exact c_at (by omega) rfl (eK0 (p2 i (by omega) rfl))
  · obtain ⟨i, hi, rfl⟩ := z
    exact ⟨by rw [nI_toInt (by omega)]; omega, by decide, by rw [nI_toInt (by omega), zi1]; omega⟩
end Q4
