/-! CLASS AND REFERENCE SIDE BY SIDE: what holds between calls; what thinking leaves; the first checks -/
section TP
variable {S Q : zP} {Z Z' : zS} {K : Int32 → zS → Prop}
def shRel (d : Nat) (Z : zS) : Prop := Z (60 + d) 0 = Z 104 d ∧ (Z 104 d = 0 ∨ (Z 104 d = 1 ∧ zKi (Z 105 d) ∧ Z (60 + d) 1 = Z 105 d ∧ zin (Z 106 d) 0 9 ∧ Z (60 + d) 2 = Z 106 d) ∨ (Z 104 d = 2 ∧ (Z 105 d = 0 ∨ Z 105 d = 1 ∨ Z 105 d = 2) ∧ Z (60 + d) 3 = Z 105 d ∧ zin (Z 106 d) 0 100 ∧ Z (60 + d) 4 = Z 106 d)) ∧ ∀ i, i < 100 → Z (68 + d) i = Z 107 (100 * d + i)
def trRel (t : Nat) (Z : zS) : Prop := (Z (76 + t) 0 = 0 ∧ Z 108 t = -4) ∨ (Z (76 + t) 0 = 1 ∧ zKi (Z 108 t) ∧ Z (76 + t) 1 = Z 108 t ∧ zin (Z 109 t) 0 20 ∧ Z (76 + t) 2 = Z 109 t ∧ ∀ i, i < 20 → (Z (80 + t) i = -4 ∧ Z 110 (20 * t + i) = 0) ∨ (zKi (Z (80 + t) i) ∧ Z 110 (20 * t + i) = Z (80 + t) i + 1))
def imRel (Q : zP) (Z : zS) : Prop := Z 97 11 = Z 96 4 ∧ (Z 96 4 = 0 ∨ (Z 96 4 = 1 ∧ wfP 9999 Q ∧ cRel 2 Q Z ∧ aRel 103 Q Z))
def zI (S Q : zP) (Z : zS) : Prop := wfP 9999 S ∧ cRel 0 S Z ∧ rRel S Z ∧ imRel Q Z ∧ (∀ d, d < 8 → shRel d Z) ∧ ∀ t, t < 4 → trRel t Z
def zInv (Z : zS) : Prop := ∃ S Q : zP, zI S Q Z
def kFr (Z Z' : zS) : Prop := (∀ i, ¬ cOwn i = 1 → ¬ (93 ≤ i ∧ i ≤ 96) → Z' i = Z i) ∧ Z' 96 4 = Z 96 4
def hFr (Z Z' : zS) : Prop := (∀ i, i < 97 ∨ 102 < i → Z' i = Z i) ∧ Z' 97 11 = Z 97 11
theorem kFr.rf : kFr Z Z := ⟨fun _ _ _ => rfl, rfl⟩
theorem hFr.rf : hFr Z Z := ⟨fun _ _ => rfl, rfl⟩
theorem kFr.tr {Z1 : zS} (a : kFr Z Z1) (b : kFr Z1 Z') : kFr Z Z' := ⟨fun i h1 h2 => (b.1 i h1 h2).trans (a.1 i h1 h2), b.2.trans a.2⟩
theorem hFr.tr {Z1 : zS} (a : hFr Z Z1) (b : hFr Z1 Z') : hFr Z Z' := ⟨fun i h1 => (b.1 i h1).trans (a.1 i h1), b.2.trans a.2⟩
theorem kFr.c (f : cFr 1 Z Z') : kFr Z Z' := ⟨fun i h _ => f i h, by rw [f 96 (by decide)]⟩
theorem hFr.g (f : gFr Z Z') : hFr Z Z' := ⟨fun i h => f.1 i (by omega), f.2 11 (by decide) (by decide) (by decide) (by decide)⟩
theorem hFr.a (f : ∀ i, ¬ i = 102 → Z' i = Z i) : hFr Z Z' := ⟨fun i h => f i (by omega), by rw [f 97 (by decide)]⟩
theorem shRel.mv {d : Nat} (h : shRel d Z) (e1 : Z' (60 + d) = Z (60 + d)) (e2 : Z' (68 + d) = Z (68 + d)) (e4 : Z' 104 = Z 104) (e5 : Z' 105 = Z 105) (e6 : Z' 106 = Z 106) (e7 : Z' 107 = Z 107) : shRel d Z' := by
  unfold shRel at h ⊢
  rw [e1, e2, e4, e5, e6, e7]
  exact h
theorem trRel.mv {t : Nat} (h : trRel t Z) (e1 : Z' (76 + t) = Z (76 + t)) (e2 : Z' (80 + t) = Z (80 + t)) (e8 : Z' 108 = Z 108) (e9 : Z' 109 = Z 109) (e0 : Z' 110 = Z 110) : trRel t Z' := by
  unfold trRel at h ⊢
  rw [e1, e2, e8, e9, e0]
  exact h
theorem rRel.mv (h : rRel S Z) (e0 : Z' 97 0 = Z 97 0) (e1 : Z' 97 1 = Z 97 1) (e8 : Z' 98 = Z 98) (e9 : Z' 99 = Z 99) (e10 : Z' 100 = Z 100) : rRel S Z' := by
  unfold rRel at h ⊢
  rw [e0, e1, e8, e9, e10]
  exact h
theorem aRel.mv {a : Nat} (h : aRel a S Z) (e : Z' a = Z a) : aRel a S Z' := by
  unfold aRel at h ⊢
  rw [e]
  exact h
theorem kFr.o (f : kFr Z Z') {i : Nat} (h : 57 ≤ i) (h2 : ¬ (93 ≤ i ∧ i ≤ 96)) : Z' i = Z i := f.1 i (by rw [cOwn_e h]; decide) h2
theorem cRel.kf {p : Nat} (hp : p < 3) (hp1 : ¬ p = 1) (hN : S.1 ≤ 6) (h : cRel p S Z) (f : kFr Z Z') : cRel p S Z' := by
  refine ⟨?_, ?_, fun s hs => ?_⟩
  · rw [f.1 (54 + p) (by rw [cOwn_d hp]; exact hp1) (by omega)]; exact h.1
  · rw [f.1 (54 + p) (by rw [cOwn_d hp]; exact hp1) (by omega)]; exact h.2.1
  · exact (h.2.2 s hs).mv (f.1 _ (by rw [cOwn_a hp (by omega)]; exact hp1) (by omega)) (f.1 _ (by rw [cOwn_b hp (by omega)]; exact hp1) (by omega)) (f.1 _ (by rw [cOwn_c hp (by omega)]; exact hp1) (by omega))
theorem zI.k (h : zI S Q Z) (f : kFr Z Z') : zI S Q Z' := by
  obtain ⟨hw, hc, hr, hi, hs, ht⟩ := h
  refine ⟨hw, hc.kf (by decide) (by decide) hw.1 f, ?_, ?_, fun d hd => ?_, fun t h4 => ?_⟩
  · exact hr.mv (by rw [f.o (by decide) (by decide)]) (by rw [f.o (by decide) (by decide)]) (f.o (by decide) (by decide)) (f.o (by decide) (by decide)) (f.o (by decide) (by decide))
  · refine ⟨by rw [f.o (i := 97) (by decide) (by decide), f.2]; exact hi.1, ?_⟩
    rcases hi.2 with a | ⟨a, b, c, d⟩
    · exact Or.inl (f.2.trans a)
    · exact Or.inr ⟨f.2.trans a, b, c.kf (by decide) (by decide) b.1 f, d.mv (f.o (by decide) (by decide))⟩
  · exact (hs d hd).mv (f.o (by omega) (by omega)) (f.o (by omega) (by omega)) (f.o (by decide) (by decide)) (f.o (by decide) (by decide)) (f.o (by decide) (by decide)) (f.o (by decide) (by decide))
  · exact (ht t h4).mv (f.o (by omega) (by omega)) (f.o (by omega) (by omega)) (f.o (by decide) (by decide)) (f.o (by decide) (by decide)) (f.o (by decide) (by decide))
theorem cRel.hf {p : Nat} (hp : p < 3) (hN : S.1 ≤ 6) (h : cRel p S Z) (f : ∀ i, i < 97 → Z' i = Z i) : cRel p S Z' := by
  refine ⟨?_, ?_, fun s hs => ?_⟩
  · rw [f (54 + p) (by omega)]; exact h.1
  · rw [f (54 + p) (by omega)]; exact h.2.1
  · exact (h.2.2 s hs).mv (f _ (by omega)) (f _ (by omega)) (f _ (by omega))
theorem zI.h (h : zI S Q Z) (f : hFr Z Z') (r : rRel S Z') : zI S Q Z' := by
  obtain ⟨hw, hc, hr, hi, hs, ht⟩ := h
  have f1 : ∀ i, i < 97 → Z' i = Z i := fun i hi => f.1 i (Or.inl hi)
  refine ⟨hw, hc.hf (by decide) hw.1 f1, r, ?_, fun d hd => ?_, fun t h4 => ?_⟩
  · refine ⟨by rw [f.2, f1 96 (by decide)]; exact hi.1, ?_⟩
    rcases hi.2 with a | ⟨a, b, c, d⟩
    · exact Or.inl (by rw [f1 96 (by decide)]; exact a)
    · exact Or.inr ⟨by rw [f1 96 (by decide)]; exact a, b, c.hf (by decide) b.1 f1, d.mv (f.1 103 (by decide))⟩
  · exact (hs d hd).mv (f1 _ (by omega)) (f1 _ (by omega)) (f.1 _ (by decide)) (f.1 _ (by decide)) (f.1 _ (by decide)) (f.1 _ (by decide))
  · exact (ht t h4).mv (f1 _ (by omega)) (f1 _ (by omega)) (f.1 _ (by decide)) (f.1 _ (by decide)) (f.1 _ (by decide))
/-! checks -/
abbrev zW (a lo hi : Int32) : Prop := lo ≤ a ∧ a ≤ hi
theorem c_win {a lo hi : Int32} (h1 : zW a lo hi → K 1 Z) (h0 : ¬ zW a lo hi → K 0 Z) : wX11_within a lo hi Z K := by
  unfold wX11_within
  exact br_c (fun x => h0 (fun y => Int32.not_le.mpr x y.1)) (fun x => br_c (fun y => h0 (fun z => Int32.not_le.mpr y z.2)) (fun y => h1 ⟨Int32.not_lt.mp x, Int32.not_lt.mp y⟩))
theorem r_win {a lo hi : Int32} (h1 : zW a lo hi → K 1 Z) (h0 : ¬ zW a lo hi → K 0 Z) : wX12_within a lo hi Z K := by
  unfold wX12_within
  exact br_c (fun x => h0 (fun y => Int32.not_le.mpr x y.1)) (fun x => br_c (fun y => h0 (fun z => Int32.not_le.mpr y z.2)) (fun y => h1 ⟨Int32.not_lt.mp x, Int32.not_lt.mp y⟩))
theorem r_win_t {a lo hi : Int32} (h : zW a lo hi) (hk : K 1 Z) : wX12_within a lo hi Z K := r_win (fun _ => hk) (fun x => absurd h x)
theorem r_win_f {a lo hi : Int32} (h : ¬ zW a lo hi) (hk : K 0 Z) : wX12_within a lo hi Z K := r_win (fun x => absurd x h) (fun _ => hk)
/-- one of n: a is the number of one of them -/
def zOf (n : Nat) (a : Int32) : Prop := ∃ j : Nat, j < n ∧ a = nI j
theorem zW_of {n : Nat} {a m : Int32} (hm : m.toInt = (n : Int) - 1) (hn : n < 2 ^ 31) : zW a 0 m ↔ zOf n a := by
  refine ⟨fun ⟨x, y⟩ => ?_, fun ⟨j, hj, e⟩ => ?_⟩
  · have x := zle.mp x
    have y := zle.mp y
    rw [zi0] at x
    refine ⟨a.toInt.toNat, by omega, Int32.toInt_inj.mp ?_⟩
    rw [nI_toInt (by omega)]
    omega
  · rw [e]
    have := nI_toInt (n := j) (by omega)
    exact ⟨zle.mpr (by rw [zi0, this]; omega), zle.mpr (by rw [this, hm]; omega)⟩
theorem zN1 {n : Nat} (h : n ≤ 6) : (nI n - 1).toInt = (n : Int) - 1 := by
  have := nI_toInt (n := n) (by omega)
  rw [zsub (by rw [zi1]; omega) (by rw [zi1]; omega), zi1, this]
theorem c_has {p : Nat} {a : Int32} (hN : S.1 ≤ 6) (h : cRel p S Z) (h1 : zOf S.1 a → K 1 Z) (h0 : ¬ zOf S.1 a → K 0 Z) : wX3_has p a Z K := by
  unfold wX3_has
  rw [h.1]
  exact c_win (fun x => ⟨Or.inr rfl, h1 ((zW_of (zN1 hN) (by omega)).mp x)⟩) (fun x => ⟨Or.inl rfl, h0 (fun y => x ((zW_of (zN1 hN) (by omega)).mpr y))⟩)
theorem r_has {a : Int32} (hN : S.1 ≤ 6) (h : rRel S Z) (h1 : zOf S.1 a → K 1 Z) (h0 : ¬ zOf S.1 a → K 0 Z) : wX12_isServer a Z K := by
  unfold wX12_isServer
  rw [h.1]
  exact r_win (fun x => ⟨Or.inr rfl, h1 ((zW_of (zN1 hN) (by omega)).mp x)⟩) (fun x => ⟨Or.inl rfl, h0 (fun y => x ((zW_of (zN1 hN) (by omega)).mpr y))⟩)
theorem r_has_t {a : Int32} (hN : S.1 ≤ 6) (h : rRel S Z) (ha : zOf S.1 a) (hk : K 1 Z) : wX12_isServer a Z K := r_has hN h (fun _ => hk) (fun x => absurd ha x)
theorem r_has_f {a : Int32} (hN : S.1 ≤ 6) (h : rRel S Z) (ha : ¬ zOf S.1 a) (hk : K 0 Z) : wX12_isServer a Z K := r_has hN h (fun x => absurd x ha) (fun _ => hk)
theorem c_shelf {a : Int32} (h1 : zOf 8 a → K 1 Z) (h0 : ¬ zOf 8 a → K 0 Z) : wX11_isShelf a Z K := by
  unfold wX11_isShelf
  exact c_win (fun x => ⟨Or.inr rfl, h1 ((zW_of (n := 8) rfl (by decide)).mp x)⟩) (fun x => ⟨Or.inl rfl, h0 (fun y => x ((zW_of (n := 8) rfl (by decide)).mpr y))⟩)
theorem r_shelf {a : Int32} (h1 : zOf 8 a → K 1 Z) (h0 : ¬ zOf 8 a → K 0 Z) : wX12_isShelf a Z K := by
  unfold wX12_isShelf
  exact r_win (fun x => ⟨Or.inr rfl, h1 ((zW_of (n := 8) rfl (by decide)).mp x)⟩) (fun x => ⟨Or.inl rfl, h0 (fun y => x ((zW_of (n := 8) rfl (by decide)).mpr y))⟩)
theorem r_shelf_t {a : Int32} (ha : zOf 8 a) (hk : K 1 Z) : wX12_isShelf a Z K := r_shelf (fun _ => hk) (fun x => absurd ha x)
theorem r_shelf_f {a : Int32} (ha : ¬ zOf 8 a) (hk : K 0 Z) : wX12_isShelf a Z K := r_shelf (fun x => absurd x ha) (fun _ => hk)
theorem c_tray {a : Int32} (h1 : zOf 4 a → K 1 Z) (h0 : ¬ zOf 4 a → K 0 Z) : wX11_isTray a Z K := by
  unfold wX11_isTray
  exact c_win (fun x => ⟨Or.inr rfl, h1 ((zW_of (n := 4) rfl (by decide)).mp x)⟩) (fun x => ⟨Or.inl rfl, h0 (fun y => x ((zW_of (n := 4) rfl (by decide)).mpr y))⟩)
theorem r_tray {a : Int32} (h1 : zOf 4 a → K 1 Z) (h0 : ¬ zOf 4 a → K 0 Z) : wX12_isTray a Z K := by
  unfold wX12_isTray
  exact r_win (fun x => ⟨Or.inr rfl, h1 ((zW_of (n := 4) rfl (by decide)).mp x)⟩) (fun x => ⟨Or.inl rfl, h0 (fun y => x ((zW_of (n := 4) rfl (by decide)).mpr y))⟩)
theorem r_tray_t {a : Int32} (ha : zOf 4 a) (hk : K 1 Z) : wX12_isTray a Z K := r_tray (fun _ => hk) (fun x => absurd ha x)
theorem r_tray_f {a : Int32} (ha : ¬ zOf 4 a) (hk : K 0 Z) : wX12_isTray a Z K := r_tray (fun x => absurd x ha) (fun _ => hk)
end TP
