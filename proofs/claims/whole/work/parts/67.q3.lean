/-! EVERY FACE, from the invariant alone -/
section Q3
variable {Z : zS}
theorem M_server {a1 a2 : Int32} (h : zInv Z) : wX11_server a1 a2 Z (fun r Z1 => wX12_server a1 a2 Z1 (zD r)) := by
  obtain ⟨S, Q, h⟩ := h
  exact m_server h
theorem M_job {a1 a2 a3 : Int32} (h : zInv Z) : wX11_job a1 a2 a3 Z (fun r Z1 => wX12_job a1 a2 a3 Z1 (zD r)) := by
  obtain ⟨S, Q, h⟩ := h
  exact m_job h
theorem M_drops {a1 : Int32} (h : zInv Z) : wX11_drops a1 Z (fun r Z1 => wX12_drops a1 Z1 (zD r)) := by
  obtain ⟨S, Q, h⟩ := h
  exact m_drops h
theorem M_sends {a1 a2 a3 : Int32} (h : zInv Z) : wX11_sends a1 a2 a3 Z (fun r Z1 => wX12_sends a1 a2 a3 Z1 (zD r)) := by
  obtain ⟨S, Q, h⟩ := h
  exact m_sends h
theorem M_ticks {a1 : Int32} (h : zInv Z) : wX11_ticks a1 Z (fun r Z1 => wX12_ticks a1 Z1 (zD r)) := by
  obtain ⟨S, Q, h⟩ := h
  exact m_ticks h
theorem M_then {a1 a2 a3 : Int32} (h : zInv Z) : wX11_then a1 a2 a3 Z (fun r Z1 => wX12_then a1 a2 a3 Z1 (zD r)) := by
  obtain ⟨S, Q, h⟩ := h
  exact m_then h
theorem M_runs {a1 a2 : Int32} (h : zInv Z) : wX11_runs a1 a2 Z (fun r Z1 => wX12_runs a1 a2 Z1 (zD r)) := by
  obtain ⟨S, Q, h⟩ := h
  exact m_runs h
theorem M_quiet {a1 : Int32} (h : zInv Z) : wX11_quiet a1 Z (fun r Z1 => wX12_quiet a1 Z1 (zD r)) := by
  obtain ⟨S, Q, h⟩ := h
  exact m_quiet h
theorem M_misses {a1 : Int32} (h : zInv Z) : wX11_misses a1 Z (fun r Z1 => wX12_misses a1 Z1 (zD r)) := by
  obtain ⟨S, Q, h⟩ := h
  exact m_misses h
theorem M_ran {a1 a2 a3 : Int32} (h : zInv Z) : wX11_ran a1 a2 a3 Z (fun r Z1 => wX12_ran a1 a2 a3 Z1 (zD r)) := by
  obtain ⟨S, Q, h⟩ := h
  exact m_ran h
theorem M_load {a1 : Int32} (h : zInv Z) : wX11_load a1 Z (fun r Z1 => wX12_load_ a1 Z1 (zD r)) := by
  obtain ⟨S, Q, h⟩ := h
  exact m_load h
theorem M_admitted {a1 a2 : Int32} (h : zInv Z) : wX11_admitted a1 a2 Z (fun r Z1 => wX12_admitted a1 a2 Z1 (zD r)) := by
  obtain ⟨S, Q, h⟩ := h
  exact m_admitted h
theorem M_demand {a1 a2 : Int32} (h : zInv Z) : wX11_demand a1 a2 Z (fun r Z1 => wX12_demand a1 a2 Z1 (zD r)) := by
  obtain ⟨S, Q, h⟩ := h
  exact m_demand h
theorem M_alone {a1 a2 : Int32} (h : zInv Z) : wX11_alone a1 a2 Z (fun r Z1 => wX12_alone a1 a2 Z1 (zD r)) := by
  obtain ⟨S, Q, h⟩ := h
  exact m_alone h
theorem M_needs {a1 a2 : Int32} (h : zInv Z) : wX11_needs a1 a2 Z (fun r Z1 => wX12_needs a1 a2 Z1 (zD r)) := by
  obtain ⟨S, Q, h⟩ := h
  exact m_needs h
theorem M_kindBest {a1 a2 a3 : Int32} (h : zInv Z) : wX11_kindBest a1 a2 a3 Z (fun r Z1 => wX12_kindBest a1 a2 a3 Z1 (zD r)) := by
  obtain ⟨S, Q, h⟩ := h
  exact m_kindBest h
theorem M_send {a1 : Int32} (h : zInv Z) : wX11_send a1 Z (fun r Z1 => wX12_send a1 Z1 (zD r)) := by
  obtain ⟨S, Q, h⟩ := h
  exact m_send h
theorem M_keep {a1 a2 a3 a4 : Int32} (h : zInv Z) : wX11_keep a1 a2 a3 a4 Z (fun r Z1 => wX12_keep_ a1 a2 a3 a4 Z1 (zD r)) := by
  obtain ⟨S, Q, h⟩ := h
  exact m_keep h
theorem M_row {a1 a2 a3 : Int32} (h : zInv Z) : wX11_row a1 a2 a3 Z (fun r Z1 => wX12_row a1 a2 a3 Z1 (zD r)) := by
  obtain ⟨S, Q, h⟩ := h
  exact m_row h
theorem M_cost {a1 : Int32} (h : zInv Z) : wX11_cost a1 Z (fun r Z1 => wX12_cost a1 Z1 (zD r)) := by
  obtain ⟨S, Q, h⟩ := h
  exact m_cost h
theorem M_put {a1 a2 a3 : Int32} (h : zInv Z) : wX11_put a1 a2 a3 Z (fun r Z1 => wX12_put a1 a2 a3 Z1 (zD r)) := by
  obtain ⟨S, Q, h⟩ := h
  exact m_put h
theorem M_tray {a1 a2 a3 : Int32} (h : zInv Z) : wX11_tray a1 a2 a3 Z (fun r Z1 => wX12_tray a1 a2 a3 Z1 (zD r)) := by
  obtain ⟨S, Q, h⟩ := h
  exact m_tray h
theorem M_laid {a1 a2 : Int32} (h : zInv Z) : wX11_laid a1 a2 Z (fun r Z1 => wX12_laid a1 a2 Z1 (zD r)) := by
  obtain ⟨S, Q, h⟩ := h
  exact m_laid h
theorem M_lays {a1 a2 a3 : Int32} (h : zInv Z) : wX11_lays a1 a2 a3 Z (fun r Z1 => wX12_lays a1 a2 a3 Z1 (zD r)) := by
  obtain ⟨S, Q, h⟩ := h
  exact m_lays h
theorem M_like {a1 a2 : Int32} (h : zInv Z) : wX11_like a1 a2 Z (fun r Z1 => wX12_like a1 a2 Z1 (zD r)) := by
  obtain ⟨S, Q, h⟩ := h
  exact m_like h
theorem M_copy {a1 a2 a3 a4 a5 : Int32} (h : zInv Z) : wX11_copy a1 a2 a3 a4 a5 Z (fun r Z1 => wX12_copy a1 a2 a3 a4 a5 Z1 (zD r)) := by
  obtain ⟨S, Q, h⟩ := h
  exact m_copy h
theorem M_count {a1 : Int32} (h : zInv Z) : wX11_count a1 Z (fun r Z1 => wX12_count a1 Z1 (zD r)) := by
  obtain ⟨S, Q, h⟩ := h
  exact m_count h
theorem M_image (h : zInv Z) : wX11_image Z (fun r Z1 => wX12_image Z1 (zD r)) := by
  obtain ⟨S, Q, h⟩ := h
  exact m_image h
theorem M_restore (h : zInv Z) : wX11_restore Z (fun r Z1 => wX12_restore Z1 (zD r)) := by
  obtain ⟨S, Q, h⟩ := h
  exact m_restore h
theorem M_comes {a1 a2 a3 : Int32} (h : zInv Z) : wX11_comes a1 a2 a3 Z (fun r Z1 => wX12_comes a1 a2 a3 Z1 (zD r)) := by
  obtain ⟨S, Q, h⟩ := h
  exact m_comes h
theorem M_whoRan {a1 a2 a3 : Int32} (h : zInv Z) : wX11_whoRan a1 a2 a3 Z (fun r Z1 => wX12_whoRan a1 a2 a3 Z1 (zD r)) := by
  obtain ⟨S, Q, h⟩ := h
  exact m_whoRan h
theorem M_forged {a1 : Int32} (h : zInv Z) : wX11_forged a1 Z (fun r Z1 => wX12_forged a1 Z1 (zD r)) := by
  obtain ⟨S, Q, h⟩ := h
  exact m_forged h
theorem M_judge {a1 : Int32} (h : zInv Z) : wX11_judge a1 Z (fun r Z1 => wX12_judge a1 Z1 (zD r)) := by
  obtain ⟨S, Q, h⟩ := h
  exact m_judge h
theorem M_two {a1 a2 a3 : Int32} (h : zInv Z) : wX11_two a1 a2 a3 Z (fun r Z1 => wX12_two a1 a2 a3 Z1 (zD r)) := by
  obtain ⟨S, Q, h⟩ := h
  exact m_two h
theorem M_days {a1 a2 a3 : Int32} (h : zInv Z) : wX11_days a1 a2 a3 Z (fun r Z1 => wX12_days a1 a2 a3 Z1 (zD r)) := by
  obtain ⟨S, Q, h⟩ := h
  exact m_days h
theorem M_share {a1 a2 : Int32} (h : zInv Z) : wX11_share a1 a2 Z (fun r Z1 => wX12_share_ a1 a2 Z1 (zDL r)) := by
  obtain ⟨S, Q, h⟩ := h
  exact m_share h
theorem M_breaks {a1 a2 a3 a4 : Int32} (h : zInv Z) : wX11_breaks a1 a2 a3 a4 Z (fun r Z1 => wX12_breaks a1 a2 a3 a4 Z1 (zDL r)) := by
  obtain ⟨S, Q, h⟩ := h
  exact m_breaks h
theorem M_bits {a1 : Int32} (h : zInv Z) : wX11_bits a1 Z (fun r Z1 => wX12_bits a1 Z1 (zD r)) := by
  obtain ⟨S, Q, h⟩ := h
  exact m_bits h
theorem M_wide {a1 : Int32} (h : zInv Z) : wX11_wide a1 Z (fun r Z1 => wX12_wide a1 Z1 (zDL r)) := by
  obtain ⟨S, Q, h⟩ := h
  exact m_wide h
theorem M_text {a1 : Int32} (h : zInv Z) : wX11_text a1 Z (fun r Z1 => wX12_text a1 Z1 (zD r)) := by
  obtain ⟨S, Q, h⟩ := h
  exact m_text h
theorem M_toss {a1 : Int32} (h : zInv Z) : wX11_sortRefusal a1 Z (fun r Z1 => (r = 0 → Z1 = Z ∧ ∃ d, d < 8 ∧ a1 = nI d ∧ Z (60 + d) 0 = 1) ∧ (¬ r = 0 → wX12_toss a1 Z1 (zD r))) := by
  obtain ⟨S, Q, h⟩ := h
  exact m_toss h
theorem R_toss {d : Nat} (h : zInv Z) (hd : d < 8) (c : Z (60 + d) 0 = 1) : zKi (Z (60 + d) 1) ∧ zin (Z (60 + d) 2) 0 9 ∧ wX12_toss (nI d) Z (zD (vToss (Z (60 + d) 1) (Z (60 + d) 2))) := by
  obtain ⟨S, Q, h⟩ := h
  exact r_toss h hd c
theorem R_elem {a1 a2 : Int32} (h : zInv Z) : (¬ zOf 8 a1 → wX12_element a1 a2 Z (zDE 0 1)) ∧ (∀ d, d < 8 → a1 = nI d → (¬ Z (60 + d) 0 = 2 → wX12_element a1 a2 Z (zDE 0 2)) ∧ (Z (60 + d) 0 = 2 → ∀ g, g ≤ 100 → Z (60 + d) 4 = nI g → (¬ zOf g a2 → wX12_element a1 a2 Z (zDE 0 2)) ∧ (∀ i, i < g → a2 = nI i → wX12_element a1 a2 Z (zDE (Int32.toInt64 (Z (68 + d) i)) 0)))) := by
  obtain ⟨S, Q, h⟩ := h
  exact r_elem h
theorem zInv.row {d : Nat} (h : zInv Z) (hd : d < 8) (c : Z (60 + d) 0 = 2) : ∃ g, g ≤ 100 ∧ Z (60 + d) 4 = nI g := by
  obtain ⟨S, Q, h⟩ := h
  obtain ⟨g, hg, -, -, -, e⟩ := (h.2.2.2.2.1 d hd).isRow c
  exact ⟨g, hg, e⟩
theorem zInv.mv {Z' : zS} (h : zInv Z) (f : ∀ i, i < 111 → Z' i = Z i) : zInv Z' := by
  obtain ⟨S, Q, h⟩ := h
  exact ⟨S, Q, h.ag (fun i hi => f i (by omega)) (fun d hd => (h.2.2.2.2.1 d hd).mv (f _ (by omega)) (f _ (by omega)) (f _ (by omega)) (f _ (by omega)) (f _ (by omega)) (f _ (by omega))) (fun t ht => (h.2.2.2.2.2 t ht).mv (f _ (by omega)) (f _ (by omega)) (f _ (by omega)) (f _ (by omega)) (f _ (by omega)))⟩
end Q3
