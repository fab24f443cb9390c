/-! FACE: copy -/
section N3
variable {S Q : zP} {Z Z' : zS} {K : Int32 → zS → Prop}
def zFit (a b : Int32) (g : Nat) : Prop := 0 ≤ a.toInt ∧ 0 ≤ b.toInt ∧ a.toInt + b.toInt ≤ (g : Int)
theorem c_fits {v g : Nat} {a b : Int32} (hg : g ≤ 100) (e : Z (60 + v) 4 = nI g) (h1 : zFit a b g → K 1 Z) (h0 : ¬ zFit a b g → K 0 Z) : wX6_hasPlaces v a b Z K := by
  have tg := nI_toInt (n := g) (by omega)
  unfold wX6_hasPlaces
  rw [e]
  refine c_win (fun x => br_f (by decide) ?_) (fun x => br_t rfl (h0 (fun y => x ⟨zle.mpr (by rw [zi0]; exact y.1), zle.mpr (by rw [tg]; have := y.2; omega)⟩)))
  have x1 := zle.mp x.1
  have x2 := zle.mp x.2
  rw [zi0] at x1
  rw [tg] at x2
  have ts : (nI g - a).toInt = (g : Int) - a.toInt := by rw [zsub (by omega) (by omega), tg]
  rw [e]
  refine c_win (fun y => br_f (by decide) (h1 ?_)) (fun y => br_t rfl (h0 (fun z => y ⟨zle.mpr (by rw [zi0]; exact z.2.1), zle.mpr (by rw [ts]; have := z.2; omega)⟩)))
  have y1 := zle.mp y.1
  have y2 := zle.mp y.2
  rw [zi0] at y1
  rw [ts] at y2
  exact ⟨x1, y1, by omega⟩
theorem zFit.n {a b : Int32} {g : Nat} (hg : g ≤ 100) (h : zFit a b g) : ∃ p n : Nat, a = nI p ∧ b = nI n ∧ p + n ≤ g := by
  obtain ⟨h1, h2, h3⟩ := h
  refine ⟨a.toInt.toNat, b.toInt.toNat, Int32.toInt_inj.mp ?_, Int32.toInt_inj.mp ?_, by omega⟩
  · rw [nI_toInt (by omega)]; omega
  · rw [nI_toInt (by omega)]; omega
theorem copy_inv {d1 d2 p q n : Nat} (h : zI S Q Z) (h1 : d1 < 8) (h2 : d2 < 8) (hp : p + n ≤ 100) (hq : q + n ≤ 100) {Y : zS} (y1 : ∀ c, ¬ c = 107 → Y c = va_up Z (68 + d2) (va_cpy (Z (68 + d1)) (Z (68 + d2)) p q n) c) (y2 : ∀ j, j < n → Y 107 (100 * d2 + q + j) = Z 107 (100 * d1 + p + j)) (y3 : ∀ j, ¬ (100 * d2 + q ≤ j ∧ j < 100 * d2 + q + n) → Y 107 j = Z 107 j) : zInv Y := by
  have o : ∀ c, ¬ c = 107 → ¬ c = 68 + d2 → Y c = Z c := by
    intro c c1 c2
    rw [y1 c c1]; unfold va_up; rw [if_neg c2]
  have hs := h.2.2.2.2.1 d2 h2
  have hs1 := h.2.2.2.2.1 d1 h1
  refine ⟨S, Q, h.sh (a := d2) (fun i g1 g2 g3 => o i (by omega) g2) (fun j hj => ?_) (fun j hj => ?_) (fun j hj => ?_) (fun e j _ _ _ => ?_) ⟨?_, ?_, fun i hi => ?_⟩ h2⟩
  · rw [o 104 (by omega) (by omega)]
  · rw [o 105 (by omega) (by omega)]
  · rw [o 106 (by omega) (by omega)]
  · exact y3 _ (by omega)
  · rw [o 104 (by omega) (by omega), o (60 + d2) (by omega) (by omega)]; exact hs.1
  · rw [o 104 (by omega) (by omega), o 105 (by omega) (by omega), o 106 (by omega) (by omega), o (60 + d2) (by omega) (by omega)]; exact hs.2.1
  · rw [y1 _ (by omega)]
    unfold va_up
    rw [if_pos rfl]
    unfold va_cpy
    by_cases c : q ≤ i ∧ i < q + n
    · rw [if_pos c, hs1.2.2 _ (by omega), show 100 * d2 + i = 100 * d2 + q + (i - q) by omega, y2 _ (by omega), Nat.add_assoc]
    · rw [if_neg c, hs.2.2 i hi, y3 _ (by omega)]
theorem r_up {d1 d2 p q n : Nat} {Y : zS} (h1 : d1 < 8) (h2 : d2 < 8) (hp : p + n ≤ 100) (hq : q + n ≤ 100) (hd : ¬ d1 = d2 ∨ q ≤ p) (hk : ∀ Y', (∀ c, ¬ c = 107 → Y' c = Y c) → (∀ j, j < n → Y' 107 (100 * d2 + q + j) = Y 107 (100 * d1 + p + j)) → (∀ j, ¬ (100 * d2 + q ≤ j ∧ j < 100 * d2 + q + n) → Y' 107 j = Y 107 j) → K (nI n) Y') : wX12_copy_187 (nI d1) (nI p) (nI d2) (nI q) (nI n) Y K := by
  unfold wX12_copy_187
  rintro _ rfl
  refine pk_loop (σ := zS) (fun m i W => wX12_copy_190 (nI d1) (nI p) (nI d2) (nI q) (nI n) K m (nI i) W) (fun i W => (∀ c, ¬ c = 107 → W c = Y c) ∧ (∀ j, j < i → W 107 (100 * d2 + q + j) = Y 107 (100 * d1 + p + j)) ∧ ∀ j, ¬ (100 * d2 + q ≤ j ∧ j < 100 * d2 + q + i) → W 107 j = Y 107 j) n 0 Y (Nat.zero_le _) ⟨fun _ _ => rfl, fun j hj => absurd hj (Nat.not_lt_zero _), fun _ _ => rfl⟩ ?_ ?_
  · rintro m W ⟨w1, w2, w3⟩
    show wX12_copy_190b _ (nI d1) (nI p) (nI d2) (nI q) (nI n) (nI n) W _
    unfold wX12_copy_190b
    exact br_t (Int32.le_refl _) (hk W w1 w2 w3)
  · rintro m i W hi ⟨w1, w2, w3⟩ ih
    show wX12_copy_190b (fun x Z => wX12_copy_190 (nI d1) (nI p) (nI d2) (nI q) (nI n) K m x Z) (nI d1) (nI p) (nI d2) (nI q) (nI n) (nI i) W _
    unfold wX12_copy_190b
    refine br_f (nI_ge hi (by omega)) ?_
    simp (disch := omega) only [zlit_mul, nI_add, nI_clamp, vp_in_nI, true_and]
    rintro _ rfl _ rfl
    rw [nI_1, w3 (100 * d1 + p + i) (by omega)]
    refine ih _ ⟨fun c hc => (zU_r hc).trans (w1 c hc), fun j hj => ?_, fun j hj => ?_⟩
    · by_cases e : j = i
      · rw [e, zU_s]
      · rw [zU_k (by omega)]; exact w2 j (by omega)
    · rw [zU_k (by omega)]; exact w3 j (by omega)
theorem nI_dec {i : Nat} (h : 0 < i) : nI i - 1 = nI (i - 1) := by
  obtain ⟨k, rfl⟩ : ∃ k, i = k + 1 := ⟨i - 1, by omega⟩
  rw [← nI_1, Int32.add_sub_cancel]; rfl
theorem r_down {d1 d2 p q n : Nat} {Y : zS} (h1 : d1 < 8) (h2 : d2 < 8) (hp : p + n ≤ 100) (hq : q + n ≤ 100) (hd : d1 = d2 ∧ p < q) (hk : ∀ Y', (∀ c, ¬ c = 107 → Y' c = Y c) → (∀ j, j < n → Y' 107 (100 * d2 + q + j) = Y 107 (100 * d1 + p + j)) → (∀ j, ¬ (100 * d2 + q ≤ j ∧ j < 100 * d2 + q + n) → Y' 107 j = Y 107 j) → K (nI n) Y') : ∀ y27 : Int32, y27 = (nI n - 1) → ∃ n144 : Nat, wX12_copy_144 (nI d1) (nI p) (nI d2) (nI q) (nI n) K n144 y27 Y := by
  rintro _ rfl
  refine pk_loop (σ := zS) (fun m i W => wX12_copy_144 (nI d1) (nI p) (nI d2) (nI q) (nI n) K m (nI (n - i) - 1) W) (fun i W => (∀ c, ¬ c = 107 → W c = Y c) ∧ (∀ j, n - i ≤ j → j < n → W 107 (100 * d2 + q + j) = Y 107 (100 * d1 + p + j)) ∧ ∀ j, ¬ (100 * d2 + q + (n - i) ≤ j ∧ j < 100 * d2 + q + n) → W 107 j = Y 107 j) n 0 Y (Nat.zero_le _) ⟨fun _ _ => rfl, fun j h1 h2 => absurd h1 (by omega), fun _ _ => rfl⟩ ?_ ?_
  · rintro m W ⟨w1, w2, w3⟩
    show wX12_copy_144b _ (nI d1) (nI p) (nI d2) (nI q) (nI n) (nI (n - n) - 1) W _
    unfold wX12_copy_144b
    rw [Nat.sub_self]
    refine br_t (by decide) (hk W w1 (fun j hj => w2 j (by omega) hj) (fun j hj => w3 j (by omega)))
  · rintro m i W hi ⟨w1, w2, w3⟩ ih
    show wX12_copy_144b (fun x Z => wX12_copy_144 (nI d1) (nI p) (nI d2) (nI q) (nI n) K m x Z) (nI d1) (nI p) (nI d2) (nI q) (nI n) (nI (n - i) - 1) W _
    unfold wX12_copy_144b
    rw [nI_dec (i := n - i) (by omega)]
    have ng : ¬ nI (n - i - 1) < 0 := fun x => by
      have x := zlt.mp x
      rw [zi0, nI_toInt (by omega)] at x
      omega
    refine br_f ng ?_
    simp (disch := omega) only [zlit_mul, nI_add, nI_clamp, vp_in_nI, true_and]
    rintro _ rfl _ rfl
    rw [← Int32.sub_eq_add_neg, show n - i - 1 = n - (i + 1) by omega, w3 (100 * d1 + p + (n - (i + 1))) (by omega)]
    refine ih _ ⟨fun c hc => (zU_r hc).trans (w1 c hc), fun j hj1 hj => ?_, fun j hj => ?_⟩
    · by_cases e : j = n - (i + 1)
      · rw [e, zU_s]
      · rw [zU_k (by omega)]; exact w2 j (by omega) hj
    · rw [zU_k (by omega)]; exact w3 j (by omega)
theorem m_copy {a1 a2 a3 a4 a5 : Int32} (h : zI S Q Z) : wX11_copy a1 a2 a3 a4 a5 Z (fun r Z1 => wX12_copy a1 a2 a3 a4 a5 Z1 (zD r)) := by
  unfold wX11_copy
  refine c_shelf (fun ha => br_f (by decide) (c_shelf (fun hb => ?_) (fun hb => ?_))) (fun ha => ?_)
  · obtain ⟨d1, h1, rfl⟩ := id ha
    obtain ⟨d2, h2, rfl⟩ := id hb
    have in8 : vp_in (nI d1) 8 := vp_in_nI h1 (by decide)
    have in8' : vp_in (nI d2) 8 := vp_in_nI h2 (by decide)
    have cd1 : (nI d1).toNatClampNeg = d1 := nI_clamp (by omega)
    have cd2 : (nI d2).toNatClampNeg = d2 := nI_clamp (by omega)
    have hs1 := h.2.2.2.2.1 d1 h1
    have hs2 := h.2.2.2.2.1 d2 h2
    refine br_t (by decide) ⟨in8, ?_⟩
    rw [cd1, cd2]
    intro v e
    have e := e.symm
    subst e
    refine ⟨in8', ?_⟩
    intro v e
    have e := e.symm
    subst e
    have ref : ∀ r Y, Y 104 = Z 104 → Y 105 = Z 105 → Y 106 = Z 106 → (Z (60 + d1) 0 = 0 → zD r (-11) Y) → (¬ Z (60 + d1) 0 = 0 → (Z (60 + d2) 0 = 0 → zD r (-11) Y) ∧ (¬ Z (60 + d2) 0 = 0 → (¬ Z (60 + d1) 0 = 2 → zD r (-12) Y) ∧ (Z (60 + d1) 0 = 2 → (¬ Z (60 + d2) 0 = 2 → zD r (-12) Y) ∧ (Z (60 + d2) 0 = 2 → (¬ Z 105 d1 = Z 105 d2 → zD r (-12) Y) ∧ (Z 105 d1 = Z 105 d2 → ∀ g1 g2, g1 ≤ 100 → g2 ≤ 100 → Z 106 d1 = nI g1 → Z 106 d2 = nI g2 → (¬ (zFit a2 a5 g1 ∧ zFit a4 a5 g2) → zD r (-13) Y) ∧ (zFit a2 a5 g1 ∧ zFit a4 a5 g2 → ((¬ nI d1 = nI d2 → wX12_copy_187 (nI d1) a2 (nI d2) a4 a5 Y (zD r)) ∧ (¬ (¬ nI d1 = nI d2) → ((a4 ≤ a2 → wX12_copy_187 (nI d1) a2 (nI d2) a4 a5 Y (zD r)) ∧ (¬ (a4 ≤ a2) → ∀ y27 : Int32, y27 = (a5 - 1) → ∃ n144 : Nat, wX12_copy_144 (nI d1) a2 (nI d2) a4 a5 (zD r) n144 y27 Y)))))))))) → wX12_copy (nI d1) a2 (nI d2) a4 a5 Y (zD r) := by
      intro r Y y4 y5 y6 p q
      unfold wX12_copy
      refine r_shelf_t ha (br_f (by decide) (r_shelf_t hb (br_t (by decide) ⟨in8, ?_⟩)))
      rw [cd1, cd2, y4, y5, y6, ← hs1.1, ← hs2.1]
      refine br_c p (fun c1 => ⟨in8', ?_⟩)
      obtain ⟨q1, q2⟩ := q c1
      refine br_c (fun c2 => ⟨in8, ?_⟩) (fun c2 => q1 (Classical.not_not.mp c2))
      obtain ⟨q3, q4⟩ := q2 c2
      refine br_c q3 (fun c3 => ⟨in8', ?_⟩)
      have c3 := Classical.not_not.mp c3
      obtain ⟨q5, q6⟩ := q4 c3
      refine br_c q5 (fun c4 => ⟨in8, in8', ?_⟩)
      have c4 := Classical.not_not.mp c4
      obtain ⟨q7, q8⟩ := q6 c4
      refine br_c (fun c5 => ?_) q7
      obtain ⟨g1, hg1, -, -, e1, -⟩ := hs1.isRow c3
      obtain ⟨g2, hg2, -, -, e2, -⟩ := hs2.isRow c4
      obtain ⟨q9, q0⟩ := q8 c5 g1 g2 hg1 hg2 e1 e2
      have no : ∀ P : Prop, (P → zFit a2 a5 g1 ∧ zFit a4 a5 g2) → ¬ P → ¬ (zFit a2 a5 g1 ∧ zFit a4 a5 g2) → zD r (-13) Y := fun P _ _ x => q9 x
      rw [e1, e2]
      have t1 := nI_toInt (n := g1) (by omega)
      have t2 := nI_toInt (n := g2) (by omega)
      refine br_c (fun x => q9 (fun y => ?_)) (fun x5 => br_c (fun x => q9 (fun y => ?_)) (fun x2 => br_c (fun x => q9 (fun y => ?_)) (fun x4 => ⟨in8, br_c (fun x => q9 (fun y => ?_)) (fun x25 => ⟨in8', br_c (fun x45 => q0 ?_) (fun x => q9 (fun y => ?_))⟩)⟩)))
      · have x := zlt.mp x; rw [zi0] at x; have := y.1.2.1; omega
      · have x := zlt.mp x; rw [zi0] at x; have := y.1.1; omega
      · have x := zlt.mp x; rw [zi0] at x; have := y.2.1; omega
      · have x := Int64.lt_iff_toInt_lt.mp ((lg_cmp_gt _ _).mp x)
        rw [lg_i2l_add, Int32.toInt_toInt64, t1] at x
        have := y.1.2.2; omega
      · have x5 := Int32.not_lt.mp x5
        have x2 := Int32.not_lt.mp x2
        have x4 := Int32.not_lt.mp x4
        have x5 := zle.mp x5
        have x2 := zle.mp x2
        have x4 := zle.mp x4
        rw [zi0] at x5 x2 x4
        have x45 := Int64.le_iff_toInt_le.mp ((lg_cmp_le _ _).mp x45)
        rw [lg_i2l_add, Int32.toInt_toInt64, t2] at x45
        have x25 : ¬ (nI g1).toInt64 < a2.toInt64 + a5.toInt64 := fun z => x25 ((lg_cmp_gt _ _).mpr z)
        rw [Int64.lt_iff_toInt_lt, lg_i2l_add, Int32.toInt_toInt64, t1] at x25
        exact ⟨⟨x2, x5, by omega⟩, x4, x5, by omega⟩
      · have x : ¬ a4.toInt64 + a5.toInt64 ≤ (nI g2).toInt64 := fun z => x ((lg_cmp_le _ _).mpr z)
        rw [Int64.le_iff_toInt_le, lg_i2l_add, Int32.toInt_toInt64, t2] at x
        have := y.2.2.2; omega
    have no : ∀ r, zInv Z → (r = -13 ∨ r = -12 ∨ r = -11) → True := fun _ _ _ => trivial
    refine br_c (fun c1 => ref _ Z rfl rfl rfl (fun _ => ⟨rfl, h.inv⟩) (fun x => absurd c1 x)) (fun c1 => ?_)
    refine br_c (fun c2 => ?_) (fun c2 => ref _ Z rfl rfl rfl (fun x => absurd x c1) (fun _ => ⟨fun _ => ⟨rfl, h.inv⟩, fun x => absurd (Classical.not_not.mp c2) x⟩))
    refine br_c (fun c3 => ref _ Z rfl rfl rfl (fun x => absurd x c1) (fun _ => ⟨fun x => absurd x c2, fun _ => ⟨fun _ => ⟨rfl, h.inv⟩, fun x => absurd x c3⟩⟩)) (fun c3 => ?_)
    have c3 := Classical.not_not.mp c3
    refine br_c (fun c4 => ref _ Z rfl rfl rfl (fun x => absurd x c1) (fun _ => ⟨fun x => absurd x c2, fun _ => ⟨fun _ => ⟨rfl, h.inv⟩, fun _ => ⟨fun _ => ⟨rfl, h.inv⟩, fun x => absurd x c4⟩⟩⟩)) (fun c4 => ?_)
    have c4 := Classical.not_not.mp c4
    obtain ⟨g1, hg1, -, s1, e1, f1⟩ := hs1.isRow c3
    obtain ⟨g2, hg2, -, s2, e2, f2⟩ := hs2.isRow c4
    rw [s1, s2]
    have ref2 : ∀ r Y, Y 104 = Z 104 → Y 105 = Z 105 → Y 106 = Z 106 → Z 105 d1 = Z 105 d2 → (¬ (zFit a2 a5 g1 ∧ zFit a4 a5 g2) → zD r (-13) Y) → (zFit a2 a5 g1 ∧ zFit a4 a5 g2 → ((¬ nI d1 = nI d2 → wX12_copy_187 (nI d1) a2 (nI d2) a4 a5 Y (zD r)) ∧ (¬ (¬ nI d1 = nI d2) → ((a4 ≤ a2 → wX12_copy_187 (nI d1) a2 (nI d2) a4 a5 Y (zD r)) ∧ (¬ (a4 ≤ a2) → ∀ y27 : Int32, y27 = (a5 - 1) → ∃ n144 : Nat, wX12_copy_144 (nI d1) a2 (nI d2) a4 a5 (zD r) n144 y27 Y))))) → wX12_copy (nI d1) a2 (nI d2) a4 a5 Y (zD r) := by
      intro r Y y4 y5 y6 ss p q
      refine ref r Y y4 y5 y6 (fun x => absurd x c1) (fun _ => ⟨fun x => absurd x c2, fun _ => ⟨fun x => absurd c3 x, fun _ => ⟨fun x => absurd c4 x, fun _ => ⟨fun x => absurd ss x, fun _ k1 k2 l1 l2 m1 m2 => ?_⟩⟩⟩⟩)
      have j1 : k1 = g1 := (nI_eq (a := k1) (b := g1) (by omega) (by omega)).mp (m1.symm.trans e1)
      have j2 : k2 = g2 := (nI_eq (a := k2) (b := g2) (by omega) (by omega)).mp (m2.symm.trans e2)
      rw [j1, j2]
      exact ⟨p, q⟩
    refine br_c (fun c5 => ?_) (fun c5 => ref _ Z rfl rfl rfl (fun x => absurd x c1) (fun _ => ⟨fun x => absurd x c2, fun _ => ⟨fun x => absurd c3 x, fun _ => ⟨fun x => absurd c4 x, fun _ => ⟨fun _ => ⟨rfl, h.inv⟩, fun x => absurd x c5⟩⟩⟩⟩))
    refine c_fits hg1 f1 (fun k1 => br_f (by decide) (c_fits hg2 f2 (fun k2 => br_t (by decide) ?_) (fun k2 => br_f (fun x => x rfl) (ref2 _ Z rfl rfl rfl c5 (fun _ => ⟨rfl, h.inv⟩) (fun x => absurd x.2 k2))))) (fun k1 => br_t rfl (ref2 _ Z rfl rfl rfl c5 (fun _ => ⟨rfl, h.inv⟩) (fun x => absurd x.1 k1)))
    obtain ⟨p, n, rfl, rfl, hpn⟩ := k1.n hg1
    obtain ⟨q, n', rfl, en, hqn⟩ := k2.n hg2
    have ln : n' < 2 ^ 31 := by omega
    have en : n = n' := (nI_eq (a := n) (b := n') (by omega) ln).mp en
    subst en
    have zn : ∀ k, k < 2 ^ 31 → ¬ nI k < 0 := fun k hk x => by
      have x := zlt.mp x
      rw [zi0, nI_toInt hk] at x
      omega
    rw [nI_clamp (n := p) (by omega), nI_clamp (n := q) (by omega), nI_clamp (n := n) (by omega)]
    refine ⟨⟨zn p (by omega), zn q (by omega), zn n (by omega), by omega, by omega⟩, ?_⟩
    intro Z1 e
    have o : ∀ c, ¬ c = 68 + d2 → Z1 c = Z c := by
      intro c hc; rw [e]; unfold va_up; rw [if_neg hc]
    have fin : ∀ Y', (∀ c, ¬ c = 107 → Y' c = Z1 c) → (∀ j, j < n → Y' 107 (100 * d2 + q + j) = Z1 107 (100 * d1 + p + j)) → (∀ j, ¬ (100 * d2 + q ≤ j ∧ j < 100 * d2 + q + n) → Y' 107 j = Z1 107 j) → zD (nI n) (nI n) Y' := by
      intro Y' y1 y2 y3
      refine ⟨rfl, copy_inv h h1 h2 (p := p) (q := q) (n := n) (by omega) (by omega) (fun c hc => by rw [y1 c hc, e]) (fun j hj => ?_) (fun j hj => ?_)⟩
      · rw [y2 j hj, o 107 (by omega)]
      · rw [y3 j hj, o 107 (by omega)]
    refine ref2 _ Z1 (o _ (by omega)) (o _ (by omega)) (o _ (by omega)) c5 (fun x => absurd ⟨k1, k2⟩ x) (fun _ => br_c (fun c => r_up h1 h2 (by omega) (by omega) (Or.inl (fun x => c (by rw [x]))) fin) (fun c => br_c (fun c' => r_up h1 h2 (by omega) (by omega) (Or.inr ?_) fin) (fun c' => r_down h1 h2 (by omega) (by omega) ⟨?_, ?_⟩ fin)))
    · have c' := zle.mp c'
      rw [nI_toInt (by omega), nI_toInt (by omega)] at c'
      omega
    · exact (nI_eq (a := d1) (b := d2) (by omega) (by omega)).mp (Classical.not_not.mp c)
    · have c' := zlt.mp (Int32.not_le.mp c')
      rw [nI_toInt (by omega), nI_toInt (by omega)] at c'
      omega
  · refine br_f (fun x => x rfl) ?_
    unfold wX12_copy
    exact r_shelf_t ha (br_f (by decide) (r_shelf_f hb (br_f (fun x => x rfl) ⟨rfl, h.inv⟩)))
  · refine br_t rfl ?_
    unfold wX12_copy
    exact r_shelf_f ha (br_t rfl ⟨rfl, h.inv⟩)
end N3
