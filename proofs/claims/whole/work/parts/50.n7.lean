/-! FACE: forged, judge -/
section N7
variable {S Q P : zP} {Z Z0 Z' : zS} {K : Int32 → zS → Prop} {T : Nat}
theorem b_row {a1 : Int32} (h : zI S Q Z) {G : (Int32 → zS → Prop) → zS → Prop} {C : Int32 → zS → Prop} (hbad : ∀ r, ¬ r = 0 → wX12_isShelf a1 Z (fun r2 Z1 => ((¬ r2 = 0 → wX12_noRow a1 Z1 (fun r5 Z4 => ((0 ≤ r5 → G (zD r) Z4) ∧ (¬ (0 ≤ r5) → zD r r5 Z4)))) ∧ (¬ (¬ r2 = 0) → zD r (-1) Z1))) → C r Z) (hgood : ∀ d, d < 8 → a1 = nI d → Z (60 + d) 0 = 2 → C 0 Z) : wX11_contentRefusal a1 2 Z C := by
  refine c_cont (fun ha => hbad _ (by decide) ?_) (fun d hd e c => hbad _ (by decide) ?_) (fun d hd e c c' => hbad _ (by decide) ?_) (fun d hd e c c' => hgood d hd e c')
  · exact r_shelf_f ha (br_f (fun x => x rfl) ⟨rfl, h.inv⟩)
  · subst e
    have hs := h.2.2.2.2.1 d hd
    have in8 : vp_in (nI d) 8 := vp_in_nI hd (by decide)
    unfold wX12_noRow
    refine r_shelf_t ⟨d, hd, rfl⟩ (br_t (by decide) ⟨in8, ?_⟩)
    rw [nI_clamp (by omega), ← hs.1]
    exact br_f (fun x => x c) (br_f (by decide) ⟨rfl, h.inv⟩)
  · subst e
    have hs := h.2.2.2.2.1 d hd
    have in8 : vp_in (nI d) 8 := vp_in_nI hd (by decide)
    unfold wX12_noRow
    refine r_shelf_t ⟨d, hd, rfl⟩ (br_t (by decide) ⟨in8, ?_⟩)
    rw [nI_clamp (by omega), ← hs.1]
    exact br_t c ⟨in8, br_f c' (br_f (by decide) ⟨rfl, h.inv⟩)⟩
theorem r_row {d : Nat} (h : zI S Q Z) (hd : d < 8) (c : Z (60 + d) 0 = 2) {G : zS → Prop} {F : Int32 → zS → Prop} (hG : G Z) : wX12_isShelf (nI d) Z (fun r2 Z1 => ((¬ r2 = 0 → wX12_noRow (nI d) Z1 (fun r5 Z4 => ((0 ≤ r5 → G Z4) ∧ (¬ (0 ≤ r5) → F r5 Z4)))) ∧ (¬ (¬ r2 = 0) → F (-1) Z1))) := by
  have hs := h.2.2.2.2.1 d hd
  have in8 : vp_in (nI d) 8 := vp_in_nI hd (by decide)
  unfold wX12_noRow
  refine r_shelf_t ⟨d, hd, rfl⟩ (br_t (by decide) ⟨in8, ?_⟩)
  rw [nI_clamp (by omega), ← hs.1]
  exact br_t (by rw [c]; decide) ⟨in8, br_t c (br_t (by decide) hG)⟩
def vFo (S : zP) (E : Nat → Int32) (i : Nat) : Prop := ¬ (i < S.1 ∧ S.2.2 i 6 = E i)
theorem m_forged {a1 : Int32} (h : zI S Q Z) : wX11_forged a1 Z (fun r Z1 => wX12_forged a1 Z1 (zD r)) := by
  obtain ⟨hw, hc, hr, -, hsh, -⟩ := id h
  have hN := hw.1
  unfold wX11_forged wX11_rowRefusal
  refine b_row h (G := fun K Z4 => ∀ y7 : Int32, y7 = 0 → ∃ n23 : Nat, wX12_forged_23 a1 K n23 y7 Z4) (fun r n0 x => br_f n0 x) (fun d hd e c => br_t rfl ?_)
  subst e
  have hs := hsh d hd
  have in8 : vp_in (nI d) 8 := vp_in_nI hd (by decide)
  have cd : (nI d).toNatClampNeg = d := nI_clamp (by omega)
  obtain ⟨g, hg, b5, e3, e6, e4⟩ := hs.isRow c
  have ref : ∀ r, zFst (vFo S (Z (68 + d))) 0 g r → wX12_forged (nI d) Z (zD r) := by
    intro r hz
    unfold wX12_forged
    refine r_row h hd c (G := fun Z4 => ∀ y7 : Int32, y7 = 0 → ∃ n23 : Nat, wX12_forged_23 (nI d) (zD r) n23 y7 Z4) ?_
    rintro _ rfl
    refine pk_loop (σ := Unit) (fun m i _ => wX12_forged_23 (nI d) (zD r) m (nI i) Z) (fun i _ => ∀ k, k < i → ¬ vFo S (Z (68 + d)) k) g 0 () (Nat.zero_le _) (fun k hk => absurd hk (Nat.not_lt_zero _)) ?_ ?_
    · rintro m - y
      show wX12_forged_23b _ (nI d) (nI g) Z _
      unfold wX12_forged_23b
      refine ⟨in8, ?_⟩
      rw [cd, e6]
      exact br_t (Int32.le_refl _) ⟨(zFst.u hz (Or.inr ⟨rfl, fun n _ hn => y n hn⟩)).symm, h.inv⟩
    · rintro m i - hi y ih
      show wX12_forged_23b (fun x3 Z => wX12_forged_23 (nI d) (zD r) m x3 Z) (nI d) (nI i) Z _
      unfold wX12_forged_23b
      refine ⟨in8, ?_⟩
      rw [cd, e6]
      have fin : vFo S (Z (68 + d)) i → zD r (nI i) Z := fun z => ⟨(zFst.u hz (Or.inl ⟨i, Nat.zero_le _, hi, rfl, z, fun k _ hk => y k hk⟩)).symm, h.inv⟩
      refine br_f (nI_ge hi (by omega)) (r_has hN hr (fun x => br_f (by decide) ?_) (fun x => br_t rfl (fin (fun z => x ⟨i, z.1, rfl⟩))))
      obtain ⟨k, hk, ek⟩ := x
      have ik : i = k := (nI_eq (a := i) (b := k) (by omega) (by omega)).mp ek
      have iS : i < S.1 := by omega
      simp (disch := omega) only [zlit_mul, zlit_add, nI_add, nI_clamp, vp_in_nI, true_and]
      obtain ⟨-, -, -, -, -, e30, -⟩ := hr.2.2 i iS
      rw [e30, ← hs.2.2 i (by omega)]
      refine br_c (fun z => ?_) (fun z => fin (fun y => z y.2.symm))
      rintro _ rfl
      rw [nI_1]
      refine ih () (fun k hk => ?_)
      by_cases e : k = i
      · rw [e]; exact fun n => n ⟨iS, z.symm⟩
      · exact y k (by omega)
  rintro _ rfl
  refine pk_loop (σ := Unit) (fun m i _ => wX11_forged_14 (nI d) (fun r Z1 => wX12_forged (nI d) Z1 (zD r)) m (nI i) Z) (fun i _ => ∀ k, k < i → ¬ vFo S (Z (68 + d)) k) g 0 () (Nat.zero_le _) (fun k hk => absurd hk (Nat.not_lt_zero _)) ?_ ?_
  · rintro m - y
    show wX11_forged_14b _ (nI d) (nI g) Z _
    unfold wX11_forged_14b
    refine ⟨in8, ?_⟩
    rw [cd, e4]
    exact br_t (Int32.le_refl _) (ref _ (Or.inr ⟨rfl, fun n _ hn => y n hn⟩))
  · rintro m i - hi y ih
    show wX11_forged_14b (fun x3 Z => wX11_forged_14 (nI d) (fun r Z1 => wX12_forged (nI d) Z1 (zD r)) m x3 Z) (nI d) (nI i) Z _
    unfold wX11_forged_14b
    refine ⟨in8, ?_⟩
    rw [cd, e4]
    have fin : vFo S (Z (68 + d)) i → wX12_forged (nI d) Z (zD (nI i)) := fun z => ref _ (Or.inl ⟨i, Nat.zero_le _, hi, rfl, z, fun k _ hk => y k hk⟩)
    refine br_f (nI_ge hi (by omega)) (c_has hN hc (fun x => br_f (by decide) ?_) (fun x => br_t rfl (fin (fun z => x ⟨i, z.1, rfl⟩))))
    obtain ⟨k, hk, ek⟩ := x
    have ik : i = k := (nI_eq (a := i) (b := k) (by omega) (by omega)).mp ek
    have iS : i < S.1 := by omega
    refine ⟨vp_in_nI (show i < 6 by omega) (by decide), in8, c_at (by omega) rfl ?_⟩
    rw [nI_clamp (by omega), (hc.2.2 i iS).f 6 (by decide)]
    refine br_c (fun z => ?_) (fun z => fin (fun y => z y.2))
    rintro _ rfl
    rw [nI_1]
    refine ih () (fun k hk => ?_)
    by_cases e : k = i
    · rw [e]; exact fun n => n ⟨iS, z⟩
    · exact y k (by omega)
def vJu (S : zP) (so : Int32) (E : Nat → Int32) (i : Nat) : Prop := ¬ E i = vSkp so ∧ ¬ E i = pLoad (pGoN i S)
theorem m_judge {a1 : Int32} (h : zI S Q Z) : wX11_judge a1 Z (fun r Z1 => wX12_judge a1 Z1 (zD r)) := by
  obtain ⟨hw, hc, hr, -, hsh, -⟩ := id h
  have hN := hw.1
  unfold wX11_judge wX11_rowRefusal
  refine b_row h (G := fun K Z4 => wX12_keep 102 122 Z4 (fun Z7 => ∀ y8 : Int32, y8 = (-4) → ∀ y9 : Int32, y9 = 0 → ∃ n35 : Nat, wX12_judge_35 a1 K n35 y8 y9 Z7)) (fun r n0 x => br_f n0 x) (fun d hd e c => br_t rfl ?_)
  subst e
  have hs := hsh d hd
  have in8 : vp_in (nI d) 8 := vp_in_nI hd (by decide)
  have cd : (nI d).toNatClampNeg = d := nI_clamp (by omega)
  obtain ⟨g, hg, b5, e3, e6, e4⟩ := hs.isRow c
  have ref : ∀ r Z2, kFr Z Z2 → zFst (vJu S (Z 105 d) (Z (68 + d))) 0 g r → wX12_judge (nI d) Z2 (zD r) := by
    intro r Z2 f2 hz
    have h2 := h.k f2
    have c2 : Z2 (60 + d) 0 = 2 := by rw [f2.o (i := 60 + d) (by omega) (by omega)]; exact c
    unfold wX12_judge
    refine r_row h2 hd c2 (G := fun Z4 => wX12_keep 102 122 Z4 (fun Z7 => ∀ y8 : Int32, y8 = (-4) → ∀ y9 : Int32, y9 = 0 → ∃ n35 : Nat, wX12_judge_35 (nI d) (zD r) n35 y8 y9 Z7)) (rT_keep h2 (fun Z3 t3 => ?_))
    rintro _ rfl _ rfl
    have k104 : ∀ x Y i, rT S (pGoN i S) Z2 Y → x = r → wX12_judge_104 (nI d) x Y (zD r) := by
      intro x Y i t e
      unfold wX12_judge_104
      exact rT_back hN t (fun Z' t' => ⟨e, (t'.I h2).inv⟩)
    refine pk_loop (σ := Int32 × zS) (fun m i s => wX12_judge_35 (nI d) (zD r) m s.1 (nI i) s.2) (fun i s => rT S (pGoN i S) Z2 s.2 ∧ ((s.1 = -4 ∧ ∀ k, k < i → ¬ vJu S (Z 105 d) (Z (68 + d)) k) ∨ (¬ s.1 = -4 ∧ s.1 = r))) g 0 (-4, Z3) (Nat.zero_le _) ⟨t3, Or.inl ⟨rfl, fun k hk => absurd hk (Nat.not_lt_zero _)⟩⟩ ?_ ?_
    · rintro m ⟨x, Y⟩ ⟨t, y⟩
      have t : rT S (pGoN g S) Z2 Y := t
      have y : (x = -4 ∧ ∀ k, k < g → ¬ vJu S (Z 105 d) (Z (68 + d)) k) ∨ (¬ x = -4 ∧ x = r) := y
      show wX12_judge_35b _ (nI d) x (nI g) Y _
      unfold wX12_judge_35b
      refine ⟨in8, ?_⟩
      rw [cd, t.2.2.1 106 (Or.inr (by decide)), f2.o (by decide) (by decide), e6]
      refine br_t (Int32.le_refl _) (k104 x Y g t ?_)
      rcases y with ⟨y1, y2⟩ | ⟨y1, y2⟩
      · exact (zFst.u hz (Or.inr ⟨y1, fun n _ hn => y2 n hn⟩)).symm
      · exact y2
    · rintro m i ⟨x, Y⟩ hi ⟨t, y⟩ ih
      have t : rT S (pGoN i S) Z2 Y := t
      have y : (x = -4 ∧ ∀ k, k < i → ¬ vJu S (Z 105 d) (Z (68 + d)) k) ∨ (¬ x = -4 ∧ x = r) := y
      show wX12_judge_35b (fun x3 x4 Z => wX12_judge_35 (nI d) (zD r) m x3 x4 Z) (nI d) x (nI i) Y _
      unfold wX12_judge_35b
      refine ⟨in8, ?_⟩
      rw [cd, t.2.2.1 106 (Or.inr (by decide)), f2.o (by decide) (by decide), e6]
      refine br_f (nI_ge hi (by omega)) (br_c (fun c => k104 x Y i t ?_) (fun c => ?_))
      · rcases y with ⟨y1, y2⟩ | ⟨y1, y2⟩
        · exact absurd y1 c
        · exact y2
      have c := Classical.not_not.mp c
      have y : ∀ k, k < i → ¬ vJu S (Z 105 d) (Z (68 + d)) k := by
        rcases y with ⟨y1, y2⟩ | ⟨y1, y2⟩
        · exact y2
        · exact absurd c y1
      have o107 : Y 107 (100 * d + i) = Z (68 + d) i := by
        rw [t.2.2.1 107 (Or.inr (by decide)), f2.o (by decide) (by decide)]; exact (hs.2.2 i (by omega)).symm
      have o105 : Y 105 d = Z 105 d := by
        rw [t.2.2.1 105 (Or.inr (by decide)), f2.o (by decide) (by decide)]
      have wi := hw.goN i (by omega)
      have k94 : ∀ x', ((x' = -4 ∧ ∀ k, k < i + 1 → ¬ vJu S (Z 105 d) (Z (68 + d)) k) ∨ (¬ x' = -4 ∧ x' = r)) → wX12_judge_94 (fun x3 x4 Z => wX12_judge_35 (nI d) (zD r) m x3 x4 Z) (nI d) x' (nI i) Y (zD r) := by
        intro x' y'
        unfold wX12_judge_94
        refine rT_go0 (by omega) wi t (fun Z5 t5 c5 c6 => ?_)
        rintro _ rfl
        rw [nI_1]
        exact ih (x', Z5) ⟨t5, y'⟩
      have go : ¬ vJu S (Z 105 d) (Z (68 + d)) i → (x = -4 ∧ ∀ k, k < i + 1 → ¬ vJu S (Z 105 d) (Z (68 + d)) k) := fun z => ⟨c, fun k hk => by
        by_cases e : k = i
        · rw [e]; exact z
        · exact y k (by omega)⟩
      simp (disch := omega) only [zlit_mul, nI_add, nI_clamp, vp_in_nI, true_and]
      rw [o107]
      refine r_skip hd (so := Z 105 d) o105 (fun z => br_t (by decide) (k94 _ (Or.inl (go (fun n => n.1 z))))) (fun z => br_f (fun x => x rfl) ?_)
      refine r_load (by rw [pGoN_1]; exact hN) t.2.1 (fun s hs => (wi.2.2 s hs).1.sh) ?_
      rw [o107]
      refine br_c (fun z' => k94 _ (Or.inl (go (fun n => n.2 z')))) (fun z' => k94 _ (Or.inr ⟨nI_n4 (by omega), ?_⟩))
      exact (zFst.u hz (Or.inl ⟨i, Nat.zero_le _, hi, rfl, ⟨z, z'⟩, fun k _ hk => y k hk⟩)).symm
  refine cT_becomes hw hc kFr.rf (fun Z1 t1 => ?_)
  rintro _ rfl
  refine pk_loop (σ := zS) (fun m i Y => wX11_judge_25 (nI d) (fun r Z1 => wX12_judge (nI d) Z1 (zD r)) m (nI i) Y) (fun i Y => cT S (pGoN i S) Z Y ∧ ∀ k, k < i → ¬ vJu S (Z 105 d) (Z (68 + d)) k) g 0 Z1 (Nat.zero_le _) ⟨t1, fun k hk => absurd hk (Nat.not_lt_zero _)⟩ ?_ ?_
  · rintro m Y ⟨t, y⟩
    show wX11_judge_25b _ (nI d) (nI g) Y _
    unfold wX11_judge_25b
    refine ⟨in8, ?_⟩
    rw [cd, t.2.2.o (i := 60 + d) (by omega) (by omega), e4]
    exact br_t (Int32.le_refl _) (ref _ Y t.2.2 (Or.inr ⟨rfl, fun n _ hn => y n hn⟩))
  · rintro m i Y hi ⟨t, y⟩ ih
    show wX11_judge_25b (fun x3 Z => wX11_judge_25 (nI d) (fun r Z1 => wX12_judge (nI d) Z1 (zD r)) m x3 Z) (nI d) (nI i) Y _
    unfold wX11_judge_25b
    refine ⟨in8, ?_⟩
    have wi := hw.goN i (by omega)
    have o3 : Y (60 + d) 3 = Z 105 d := by rw [t.2.2.o (i := 60 + d) (by omega) (by omega)]; exact e3
    have oE : Y (68 + d) i = Z (68 + d) i := by rw [t.2.2.o (i := 68 + d) (by omega) (by omega)]
    rw [cd, t.2.2.o (i := 60 + d) (by omega) (by omega), e4]
    have k73 : ¬ vJu S (Z 105 d) (Z (68 + d)) i → wX11_judge_73 (fun x3 Z => wX11_judge_25 (nI d) (fun r Z1 => wX12_judge (nI d) Z1 (zD r)) m x3 Z) (nI d) (nI i) Y (fun r Z1 => wX12_judge (nI d) Z1 (zD r)) := by
      intro z
      unfold wX11_judge_73
      refine cT_go hN (by omega) wi t (fun Z5 t5 c5 c6 => ?_)
      rintro _ rfl
      rw [nI_1]
      refine ih Z5 ⟨t5, fun k hk => ?_⟩
      by_cases e : k = i
      · rw [e]; exact z
      · exact y k (by omega)
    refine br_f (nI_ge hi (by omega)) ⟨in8, c_skip (by omega) o3 oE (fun z => br_t (by decide) (k73 (fun n => n.1 z))) (fun z => br_f (fun x => x rfl) ⟨in8, c_at (by omega) oE ?_⟩)⟩
    refine c_load (by decide) (by rw [pGoN_1]; exact hN) t.1 (br_c (fun z' => k73 (fun n => n.2 z')) (fun z' => ?_))
    exact ref _ Y t.2.2 (Or.inl ⟨i, Nat.zero_le _, hi, rfl, ⟨z, z'⟩, fun k _ hk => y k hk⟩)
end N7
