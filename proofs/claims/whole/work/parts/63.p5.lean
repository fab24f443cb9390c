/-! FACE: text: the reference's run of a script -/
section P5
variable {S Q P : zP} {Z Z0 Z' : zS} {K : Int32 → zS → Prop} {E : Nat → Int32} {g : Nat}
def tPos (E : Nat → Int32) : Nat → Nat
  | 0 => 0
  | i + 1 => tPos E i + tLen (E (tPos E i)) + 2
def tPl (S : zP) (E : Nat → Int32) : Nat → zP
  | 0 => S
  | i + 1 => tTo (E (tPos E i)) (tDg E (tPos E i)) (tPl S E i)
def tY (S : zP) (E : Nat → Int32) (i : Nat) : Prop := tYes (E (tPos E i)) (tDg E (tPos E i)) (tPl S E i)
theorem tPos_up (E : Nat → Int32) {i k : Nat} (h : i ≤ k) : tPos E i ≤ tPos E k := by
  induction k with
  | zero => rw [show i = 0 by omega]; exact Nat.le_refl _
  | succ k ih =>
    by_cases e : i = k + 1
    · rw [e]; exact Nat.le_refl _
    · have := ih (by omega)
      show tPos E i ≤ tPos E k + tLen (E (tPos E k)) + 2
      omega
theorem tPl_wf (w : wfP 9999 S) : ∀ i, (∀ k, k < i → tY S E k) → wfP 9999 (tPl S E i) := by
  intro i
  induction i with
  | zero => intro _; exact w
  | succ i ih => intro h; exact tTo_wf (tDg_9 E _) (ih (fun k hk => h k (by omega))) (h i (by omega))
theorem r_text {d : Nat} (w : wfP 9999 S) (hd : d < 8) (hg : g ≤ 100) (e4 : Z 104 d = 2) (e5 : Z 105 d = 0) (e6 : Z 106 d = nI g) (eE : ∀ i, i < 100 → Z 107 (100 * d + i) = E i) (h : rRel S Z)
    (kA : ∀ b, b ≤ 100 → tBad E g (nI b) → ∀ Z', rRel S Z' → hFr Z Z' → K (-1000 - nI b) Z')
    (kB : tBad E g (-4) → ∀ i, (∀ k, k < i → tY S E k) → ¬ tY S E i → tPos E i < g → ∀ Z', rRel S Z' → hFr Z Z' → K (-2000 - nI (tPos E i)) Z')
    (kC : tBad E g (-4) → ∀ n, (∀ k, k < n → tY S E k ∧ tPos E k < g) → tPos E n = g → ∀ Z', rRel (tPl S E n) Z' → hFr Z Z' → K (nI n) Z') : wX12_text (nI d) Z K := by
  have in8 : vp_in (nI d) 8 := vp_in_nI hd (by decide)
  have cd : (nI d).toNatClampNeg = d := nI_clamp (by omega)
  unfold wX12_text wX12_noBytes wX12_noBytes_24 wX12_noRow
  refine r_shelf_t ⟨d, hd, rfl⟩ (br_t (by decide) ⟨in8, ?_⟩)
  rw [cd, e4, e5]
  refine br_f (fun z => z rfl) ⟨in8, br_t rfl ⟨in8, br_t (by decide) ⟨in8, br_t rfl (br_t (by decide) ?_)⟩⟩⟩
  intro Z7 e7 Z8 e8
  have h8 : hFr Z Z8 := by rw [e8, e7]; exact ⟨fun i hi => by rw [zU_r (by omega), zU_r (by omega)], by rw [zU_k (by decide), zU_k (by decide)]⟩
  have r8 : rRel S Z8 := by
    rw [e8, e7]
    exact h.mv (by rw [zU_k (by decide), zU_k (by decide)]) (by rw [zU_k (by decide), zU_k (by decide)]) (by rw [zU_r (by decide), zU_r (by decide)]) (by rw [zU_r (by decide), zU_r (by decide)]) (by rw [zU_r (by decide), zU_r (by decide)])
  refine r_keep (by decide) w.1 r8 (fun Z9 a9 f9 => ?_)
  have h9 : hFr Z Z9 := h8.tr (hFr.a f9)
  have r9 : rRel S Z9 := r8.mv (by rw [f9 97 (by decide)]) (by rw [f9 97 (by decide)]) (f9 _ (by decide)) (f9 _ (by decide)) (f9 _ (by decide))
  have p7 : Z9 97 7 = nI d := by rw [f9 97 (by decide), e8, zU_k (by decide), e7, zU_s]
  have p8 : Z9 97 8 = nI 0 := by rw [f9 97 (by decide), e8, zU_s]; rfl
  rintro _ rfl _ rfl _ rfl _ rfl
  have i4 : ∀ i, ¬ (nI i : Int32) = -4 → True := fun _ _ => trivial
  have loop : ∀ m, ∀ i x4 x6 P Y, g - tPos E i < m → tPos E i ≤ g → tUp E (tPos E i) → tSt E (tPos E i) = -1 → wfP 9999 P → rT S P Z Y → Y 97 7 = nI d → Y 97 8 = nI (tPos E i) → (∀ k, k < i → tPos E k < g) → ((x4 = -4 ∧ P = tPl S E i ∧ ∀ k, k < i → tY S E k) ∨ (∃ k, k < i ∧ (∀ l, l < k → tY S E l) ∧ ¬ tY S E k ∧ x4 = nI (tPos E k))) → ((x6 = (0 : Int32) ∧ g ≤ tPos E i ∧ ¬ g = 0) ∨ (¬ x6 = 0 ∧ (tPos E i < g ∨ g = 0))) → wX12_text_51 (nI d) K m (nI i) x4 x6 Y := by
    intro m
    induction m with
    | zero => intro i x4 x6 P Y hm; exact absurd hm (Nat.not_lt_zero _)
    | succ m ih =>
      intro i x4 x6 P Y hm hp u s wP t y7 y8 hk hx h6
      show wX12_text_51b (fun x3 x4 x6 Z => wX12_text_51 (nI d) K m x3 x4 x6 Z) (nI d) (nI i) x4 x6 Y K
      unfold wX12_text_51b
      have n4 : ∀ k, k < i → ¬ nI (tPos E k) = -4 := fun k hk' => nI_n4 (by have := hk k hk'; omega)
      have o6 : Y 106 d = nI g := by rw [t.2.2.1 106 (Or.inr (by decide))]; exact e6
      have oE : ∀ i, i < 100 → Y 107 (100 * d + i) = E i := fun i hi => by rw [t.2.2.1 107 (Or.inr (by decide))]; exact eE i hi
      refine br_c (fun z6 => ?_) (fun z6 => ?_)
      · obtain ⟨-, hge, g0⟩ := h6.resolve_right (fun z => z.1 z6)
        have pg : tPos E i = g := by omega
        have hb : tBad E g (-4) := Or.inr (Or.inr ⟨by rw [← pg]; exact u, g0, by rw [← pg]; exact s, rfl⟩)
        rcases hx with ⟨x1, x2, x3⟩ | ⟨k, k1, k2, k3, k4⟩
        · refine br_f (fun z => z x1) ?_
          subst x2
          exact kC hb i (fun k hk' => ⟨x3 k hk', hk k hk'⟩) pg Y t.2.1 t.2.2
        · refine br_t (by rw [k4]; exact n4 k k1) (rT_back w.1 t (fun Z' t' => ?_))
          rw [k4]
          exact kB hb k k2 k3 (hk k k1) Z' t'.2.1 t'.2.2
      · have hpg := (h6.resolve_left (fun z => z6 z.1)).2
        intro y17 ey
        have ey : y17 = nI (tPos E i) := ey.trans y8
        have uh : ∀ Z', uFr Y Z' → hFr Z Z' := fun Z' f => t.2.2.tr ⟨fun j hj => f.1 j (by omega), f.2 11 (by decide) (by decide) (by decide) (by decide) (by decide)⟩
        have next : tPos E i < g → tPos E i + tLen (E (tPos E i)) + 2 ≤ g → tUp E (tPos E i + tLen (E (tPos E i)) + 2) → tSt E (tPos E i + tLen (E (tPos E i)) + 2) = -1 → ∀ P' x4' r19 Z', ¬ r19 = (-1 : Int32) → wfP 9999 P' → rRel P' Z' → uFr Y Z' → Z' 97 8 = nI (tPos E i + tLen (E (tPos E i)) + 2) → ((x4' = -4 ∧ P' = tPl S E (i + 1) ∧ ∀ k, k < i + 1 → tY S E k) ∨ (∃ k, k < i + 1 ∧ (∀ l, l < k → tY S E l) ∧ ¬ tY S E k ∧ x4' = nI (tPos E k))) → wX12_text_84 (fun x3 x4 x6 Z => wX12_text_51 (nI d) K m x3 x4 x6 Z) (nI d) (nI i) x4' r19 Z' K := by
          intro hlt hle u' s' P' x4' r19 Z' hr wP' r' f' e8' hx'
          have o6' : Z' 106 d = nI g := by rw [f'.1 106 (by decide)]; exact o6
          have t' : rT S P' Z Z' := ⟨t.1.mv (f'.1 102 (by decide)), r', uh Z' f'⟩
          have y7' : Z' 97 7 = nI d := by rw [f'.2 7 (by decide) (by decide) (by decide) (by decide) (by decide)]; exact y7
          have hk' : ∀ k, k < i + 1 → tPos E k < g := fun k hk1 => by
            by_cases e : k = i
            · rw [e]; exact hlt
            · exact hk k (by omega)
          have go : ∀ s0, ((s0 = (0 : Int32) ∧ g ≤ tPos E (i + 1) ∧ ¬ g = 0) ∨ (¬ s0 = 0 ∧ (tPos E (i + 1) < g ∨ g = 0))) → wX12_text_51 (nI d) K m (nI (i + 1)) x4' s0 Z' := by
            intro s0 h0
            refine ih (i + 1) x4' s0 P' Z' ?_ hle u' s' wP' t' y7' e8' hk' hx' h0
            show g - (tPos E i + tLen (E (tPos E i)) + 2) < m
            omega
          unfold wX12_text_84 wX12_text_128
          refine br_t hr ?_
          rintro _ rfl
          rw [nI_1, cd, o6', e8']
          refine ⟨in8, br_c (fun z => go 0 (Or.inl ⟨rfl, ?_, by omega⟩)) (fun z => go 1 (Or.inr ⟨by decide, Or.inl ?_⟩))⟩
          · have z := zle.mp z
            rw [nI_toInt (by omega), nI_toInt (by omega)] at z
            show g ≤ tPos E i + tLen (E (tPos E i)) + 2
            omega
          · have z := zlt.mp (Int32.not_le.mp z)
            rw [nI_toInt (by omega), nI_toInt (by omega)] at z
            show tPos E i + tLen (E (tPos E i)) + 2 < g
            omega
        refine r_stmt wP hd hg hp hpg u s y7 y8 o6 oE t.2.1 (fun b Z' hb hb1 r' f' e8' => ?_) (fun hl hle hz u' s' y Z' r' f' e8' => ?_) (fun hl hle hz u' s' y Z' r' f' e8' => ?_)
        · refine br_t (by decide) ?_
          unfold wX12_text_84
          refine br_f (fun z => z rfl) (r_again (by decide) w.1 (t.1.mv (f'.1 102 (by decide))) (fun Z2 r2 f2 _ _ => ?_))
          rw [f2.2 8 (by decide) (by decide) (by decide) (by decide), e8']
          exact kA b hb1 hb Z2 r2 ((uh Z' f').tr (hFr.g f2))
        · refine br_t (by decide) (next (by omega) hle u' s' _ x4 1 Z' (by decide) (tTo_wf (tDg_9 E _) wP y) r' f' e8' ?_)
          rcases hx with ⟨x1, x2, x3⟩ | ⟨k, k1, k2, k3, k4⟩
          · subst x2
            refine Or.inl ⟨x1, rfl, fun k hk1 => ?_⟩
            by_cases e : k = i
            · rw [e]; exact y
            · exact x3 k (by omega)
          · exact Or.inr ⟨k, by omega, k2, k3, k4⟩
        · refine br_f (fun z => z rfl) (br_c (fun z4 => next (by omega) hle u' s' P x4 0 Z' (by decide) wP r' f' e8' ?_) (fun z4 => next (by omega) hle u' s' P y17 0 Z' (by decide) wP r' f' e8' ?_))
          · rcases hx with ⟨x1, x2, x3⟩ | ⟨k, k1, k2, k3, k4⟩
            · exact absurd x1 z4
            · exact Or.inr ⟨k, by omega, k2, k3, k4⟩
          · rcases hx with ⟨x1, x2, x3⟩ | ⟨k, k1, k2, k3, k4⟩
            · subst x2
              exact Or.inr ⟨i, by omega, x3, y, ey⟩
            · exact absurd (Classical.not_not.mp z4) (by rw [k4]; exact n4 k k1)
  refine ⟨g + 1, loop (g + 1) 0 (-4) 1 S Z9 (by show g - 0 < g + 1; omega) (Nat.zero_le _) (fun k hk => absurd hk (Nat.not_lt_zero _)) rfl w ⟨a9, r9, h9⟩ p7 p8 (fun k hk => absurd hk (Nat.not_lt_zero _)) (Or.inl ⟨rfl, rfl, fun k hk => absurd hk (Nat.not_lt_zero _)⟩) (Or.inr ⟨by decide, by show 0 < g ∨ g = 0; omega⟩)⟩
end P5
