/-! FACE: whoRan -/
section N6
variable {S Q P : zP} {Z Z0 Z' : zS} {K : Int32 → zS → Prop} {T : Nat}
def vTk (P : zP) : Int32 := if pRn 0 P = -4 then 6 else pRn 0 P
def vSkp (so : Int32) : Int32 := if so = 0 then -128 else if so = 1 then -32768 else -2147483648
def vTold_ (so : Int32) (E : Nat → Int32) (P : zP) : Nat → Int32
  | 0 => 1
  | i + 1 => if vTold_ so E P i = 0 then 0 else if E i = vSkp so then 1 else if E i = vTk (pGoN i P) then 1 else 0
theorem vTold_01 (so : Int32) (E : Nat → Int32) (P : zP) (i : Nat) : zBo (vTold_ so E P i) := by
  cases i with
  | zero => exact Or.inr rfl
  | succ i =>
    show zBo (if vTold_ so E P i = 0 then 0 else if E i = vSkp so then 1 else if E i = vTk (pGoN i P) then 1 else 0)
    repeat' split
    all_goals first | exact Or.inl rfl | exact Or.inr rfl
theorem vTold_0 (so : Int32) (E : Nat → Int32) (P : zP) (i : Nat) (h : vTold_ so E P i = 0) : ∀ k, i ≤ k → vTold_ so E P k = 0 := by
  intro k hk
  induction k with
  | zero =>
    have : i = 0 := by omega
    rw [← this]; exact h
  | succ k ih =>
    by_cases e : i = k + 1
    · rw [← e]; exact h
    · show (if vTold_ so E P k = 0 then 0 else if E k = vSkp so then 1 else if E k = vTk (pGoN k P) then 1 else 0) = (0 : Int32)
      rw [if_pos (ih (by omega))]
theorem c_skip {d i : Nat} {so x : Int32} (hi : i < 100) (e3 : Z (60 + d) 3 = so) (eE : Z (68 + d) i = x) (h1 : x = vSkp so → K 1 Z) (h0 : ¬ x = vSkp so → K 0 Z) : wX6_isSkipped d (nI i) Z K := by
  unfold wX6_isSkipped wX6_at
  refine c_win (fun _ => br_f (by decide) ⟨vp_in_nI hi (by decide), ?_⟩) (fun z => absurd ((zW_of (n := 100) rfl (by decide)).mpr ⟨i, hi, rfl⟩) z)
  rw [nI_clamp (by omega), eE]
  show (¬ Z (60 + d) 3 = 0 → _) ∧ _
  rw [e3]
  have k : ∀ s0, s0 = vSkp so → wX6_isSkipped_33 d (nI i) s0 x Z K := by
    intro s0 e
    unfold wX6_isSkipped_33
    exact br_c (fun c => h0 (fun y => c (by rw [e]; exact y))) (fun c => h1 (by rw [← e]; exact Classical.not_not.mp c))
  refine br_c (fun c0 => br_c (fun c1 => k _ ?_) (fun c1 => k _ ?_)) (fun c0 => k _ ?_)
  · unfold vSkp; rw [if_neg c0, if_neg c1]
  · unfold vSkp; rw [if_neg c0, if_pos (Classical.not_not.mp c1)]
  · unfold vSkp; rw [if_pos (Classical.not_not.mp c0)]
theorem c_at {d i : Nat} {x : Int32} (hi : i < 100) (eE : Z (68 + d) i = x) (hk : K x Z) : wX6_at d (nI i) Z K := by
  unfold wX6_at
  refine c_win (fun _ => br_f (by decide) ⟨vp_in_nI hi (by decide), ?_⟩) (fun z => absurd ((zW_of (n := 100) rfl (by decide)).mpr ⟨i, hi, rfl⟩) z)
  rw [nI_clamp (by omega), eE]
  exact hk
theorem c_told {d g : Nat} {so : Int32} {E : Nat → Int32} (hN : S.1 ≤ 6) (hT : T + g ≤ 20000) (w : wfP T P) (h : cT S P Z0 Z) (e3 : Z0 (60 + d) 3 = so) (e4 : Z0 (60 + d) 4 = nI g) (hd : d < 8) (hg : g ≤ 100) (eE : ∀ i, i < 100 → Z0 (68 + d) i = E i) (hk : ∀ Z', cRel 0 S Z' → kFr Z0 Z' → K (vTold_ so E P g) Z') : wX11_goesOnAsTold d Z K := by
  unfold wX11_goesOnAsTold
  rintro _ rfl
  refine pk_loop (σ := zS) (fun m i Y => wX11_goesOnAsTold_2 d K m (nI i) Y) (fun i Y => cT S (pGoN i P) Z0 Y ∧ vTold_ so E P i = 1) g 0 Z (Nat.zero_le _) ⟨h, rfl⟩ ?_ ?_
  · rintro m Y ⟨t, e⟩
    show wX11_goesOnAsTold_2b _ d (nI g) Y K
    unfold wX11_goesOnAsTold_2b
    rw [t.2.2.o (i := 60 + d) (by omega) (by omega), e4]
    have := hk Y t.2.1 t.2.2
    rw [e] at this
    exact br_t (Int32.le_refl _) this
  · rintro m i Y hi ⟨t, e⟩ ih
    show wX11_goesOnAsTold_2b (fun x2 Z => wX11_goesOnAsTold_2 d K m x2 Z) d (nI i) Y K
    unfold wX11_goesOnAsTold_2b
    rw [t.2.2.o (i := 60 + d) (by omega) (by omega), e4]
    refine br_f (nI_ge hi (by omega)) ?_
    have wi := w.goN i (by omega)
    refine cT_go hN (by omega) wi t (fun Z5 t5 c5 c6 => ?_)
    have o3 : Z5 (60 + d) 3 = so := by rw [t5.2.2.o (i := 60 + d) (by omega) (by omega)]; exact e3
    have oE : Z5 (68 + d) i = E i := by rw [t5.2.2.o (i := 68 + d) (by omega) (by omega)]; exact eE i (by omega)
    have n0 : ¬ vTold_ so E P i = 0 := by rw [e]; decide
    have eN : vTold_ so E P (i + 1) = if E i = vSkp so then 1 else if E i = vTk (pGoN i P) then 1 else 0 := by
      show (if vTold_ so E P i = 0 then 0 else _) = _
      rw [if_neg n0]
    have k62 : vTold_ so E P (i + 1) = 1 → wX11_goesOnAsTold_62 (fun x2 Z => wX11_goesOnAsTold_2 d K m x2 Z) d (nI i) Z5 K := by
      intro e'
      unfold wX11_goesOnAsTold_62
      rintro _ rfl
      rw [nI_1]
      exact ih Z5 ⟨t5, e'⟩
    have k42 : ∀ s0, s0 = vTk (pGoN i P) → wX11_goesOnAsTold_42 (fun x2 Z => wX11_goesOnAsTold_2 d K m x2 Z) d (nI i) s0 Z5 K := by
      intro s0 es
      unfold wX11_goesOnAsTold_42
      refine c_skip (by omega) o3 oE (fun c => br_t (by decide) (k62 ?_)) (fun c => br_f (fun x => x rfl) (c_at (by omega) oE (br_c (fun c' => k62 ?_) (fun c' => ?_))))
      · rw [eN, if_pos c]
      · rw [eN, if_neg c, if_pos (by rw [← es]; exact c')]
      · have z : vTold_ so E P (i + 1) = 0 := by rw [eN, if_neg c, if_neg (by rw [← es]; exact c')]
        have := hk Z5 t5.2.1 t5.2.2
        rw [vTold_0 so E P _ z g (by omega)] at this
        exact this
    rw [c6]
    exact br_c (fun c => k42 _ (if_neg c).symm) (fun c => k42 _ (if_pos (Classical.not_not.mp c)).symm)
theorem r_skip {d : Nat} {so x : Int32} (hd : d < 8) (e3 : Z 105 d = so) (h1 : x = vSkp so → K 1 Z) (h0 : ¬ x = vSkp so → K 0 Z) : wX12_isSkipped (nI d) x Z K := by
  have in8 : vp_in (nI d) 8 := vp_in_nI hd (by decide)
  unfold wX12_isSkipped
  rw [nI_clamp (by omega), e3]
  have k : ∀ s0, s0 = vSkp so → wX12_isSkipped_33 (nI d) x s0 x Z K := by
    intro s0 e
    unfold wX12_isSkipped_33
    exact br_c (fun c => h0 (fun y => c (by rw [e]; exact y))) (fun c => h1 (by rw [← e]; exact Classical.not_not.mp c))
  refine ⟨in8, br_c (fun c0 => ⟨in8, br_c (fun c1 => k _ ?_) (fun c1 => k _ ?_)⟩) (fun c0 => k _ ?_)⟩
  · unfold vSkp; rw [if_neg c0, if_neg c1]
  · unfold vSkp; rw [if_neg c0, if_pos (Classical.not_not.mp c1)]
  · unfold vSkp; rw [if_pos (Classical.not_not.mp c0)]
theorem r_isSo {d g : Nat} {so : Int32} {E : Nat → Int32} (hN : S.1 ≤ 6) (hT : T + g ≤ 20000) (w : wfP T P) (h : rT S P Z0 Z) (e5 : Z0 105 d = so) (e6 : Z0 106 d = nI g) (hd : d < 8) (hg : g ≤ 100) (eE : ∀ i, i < 100 → Z0 107 (100 * d + i) = E i) (hk : ∀ Z', rT S S Z0 Z' → K (vTold_ so E P g) Z') : wX12_isSo (nI d) Z K := by
  have in8 : vp_in (nI d) 8 := vp_in_nI hd (by decide)
  have cd : (nI d).toNatClampNeg = d := nI_clamp (by omega)
  unfold wX12_isSo
  rintro _ rfl _ rfl
  have k80 : ∀ x Y i, rT S (pGoN i P) Z0 Y → x = vTold_ so E P g → wX12_isSo_80 (nI d) x Y K := by
    intro x Y i t e
    unfold wX12_isSo_80
    exact rT_back hN t (fun Z' t' => ⟨by rw [e]; exact vTold_01 so E P g, by rw [e]; exact hk Z' t'⟩)
  refine pk_loop (σ := Int32 × zS) (fun m i s => wX12_isSo_4 (nI d) K m s.1 (nI i) s.2) (fun i s => rT S (pGoN i P) Z0 s.2 ∧ s.1 = vTold_ so E P i) g 0 (1, Z) (Nat.zero_le _) ⟨h, rfl⟩ ?_ ?_
  · rintro m ⟨x, Y⟩ ⟨t, e⟩
    have t : rT S (pGoN g P) Z0 Y := t
    show wX12_isSo_4b _ (nI d) x (nI g) Y K
    unfold wX12_isSo_4b
    refine ⟨in8, ?_⟩
    rw [cd, t.2.2.1 106 (Or.inr (by decide)), e6]
    exact br_t (Int32.le_refl _) (k80 x Y g t e)
  · rintro m i ⟨x, Y⟩ hi ⟨t, e⟩ ih
    have t : rT S (pGoN i P) Z0 Y := t
    have e : x = vTold_ so E P i := e
    show wX12_isSo_4b (fun x2 x3 Z => wX12_isSo_4 (nI d) K m x2 x3 Z) (nI d) x (nI i) Y K
    unfold wX12_isSo_4b
    refine ⟨in8, ?_⟩
    rw [cd, t.2.2.1 106 (Or.inr (by decide)), e6]
    refine br_f (nI_ge hi (by omega)) (br_c (fun c => k80 x Y i t ?_) (fun c => ?_))
    · rw [c, vTold_0 so E P i (e.symm.trans c) g (by omega)]
    have wi := w.goN i (by omega)
    refine rT_go0 (by omega) wi t (fun Z5 t5 c5 c6 => ?_)
    simp (disch := omega) only [zlit_mul, nI_add, nI_clamp, vp_in_nI, true_and]
    rw [t5.2.2.1 107 (Or.inr (by decide)), eE i (by omega)]
    rintro _ rfl
    have n0 : ¬ vTold_ so E P i = 0 := by rw [← e]; exact c
    have eN : vTold_ so E P (i + 1) = if E i = vSkp so then 1 else if E i = vTk (pGoN i P) then 1 else 0 := by
      show (if vTold_ so E P i = 0 then 0 else _) = _
      rw [if_neg n0]
    have k73 : ∀ s0, s0 = vTold_ so E P (i + 1) → wX12_isSo_73 (fun x2 x3 Z => wX12_isSo_4 (nI d) K m x2 x3 Z) (nI d) (nI i) s0 Z5 K := by
      intro s0 e'
      unfold wX12_isSo_73
      rintro _ rfl
      rw [nI_1]
      exact ih (s0, Z5) ⟨t5, e'⟩
    have k65 : ∀ s0, s0 = vTk (pGoN i P) → ¬ E i = vSkp so → wX12_isSo_65 (fun x2 x3 Z => wX12_isSo_4 (nI d) K m x2 x3 Z) (nI d) (nI i) s0 (E i) Z5 K := by
      intro s0 es c
      unfold wX12_isSo_65 wX12_isSo_68
      refine br_c (fun c' => k73 _ ?_) (fun c' => k73 _ ?_)
      · rw [eN, if_neg c, if_neg (fun y => c' (by rw [es]; exact y))]
      · rw [eN, if_neg c, if_pos (by rw [← es]; exact Classical.not_not.mp c')]
    refine r_skip hd (so := so) (by rw [t5.2.2.1 105 (Or.inr (by decide))]; exact e5) (fun c => br_t (by decide) ?_) (fun c => br_f (fun x => x rfl) ?_)
    · unfold wX12_isSo_68
      exact k73 _ (by rw [eN, if_pos c])
    · rw [c6]
      exact br_c (fun z => k65 _ (if_neg z).symm c) (fun z => k65 _ (if_pos (Classical.not_not.mp z)).symm c)
def pWho (S : zP) (j k : Nat) (a : Int32) : zP := pSet S j (upd (S.2.2 j) (if a = 0 then 0 else 1) (nI k))
def vWho (S : zP) (j g : Nat) (so : Int32) (E : Nat → Int32) (a : Int32) : Nat → Int32
  | 0 => 0
  | k + 1 => if vTold_ so E (pWho S j k a) g = 0 then vWho S j g so E a k else vWho S j g so E a k ||| (1 <<< (nI k &&& 31))
theorem wfP.who {j k : Nat} {a : Int32} (w : wfP 9999 S) (hj : j < S.1) (hk : k < (if a = 0 then 6 else 10)) : wfP 9999 (pWho S j k a) := by
  unfold pWho
  by_cases c : a = 0
  · rw [if_pos c] at hk ⊢
    exact w.set ((w.2.2 j hj).kd (zKi_of hk))
  · rw [if_neg c] at hk ⊢
    exact w.set ((w.2.2 j hj).fg (zin_of (n := 9) (by omega) (by decide)))
theorem m_whoRan {a1 a2 a3 : Int32} (h : zI S Q Z) : wX11_whoRan a1 a2 a3 Z (fun r Z1 => wX12_whoRan a1 a2 a3 Z1 (zD r)) := by
  obtain ⟨hw, hc, hr, -, hsh, -⟩ := id h
  have hN := hw.1
  unfold wX11_whoRan wX11_rowRefusal
  refine c_shelf (fun ha => br_f (by decide) ?_) (fun ha => ?_)
  · refine c_has hN hc (fun hb => br_f (by decide) ?_) (fun hb => ?_)
    · refine c_win (fun hd => br_t (by decide) ?_) (fun hd => ?_)
      · obtain ⟨j, hj, rfl⟩ := id hb
        have hj6 : j < 6 := Nat.lt_of_lt_of_le hj hN
        have in6 : vp_in (nI j) 6 := vp_in_nI hj6 (by decide)
        have cj : (nI j).toNatClampNeg = j := nI_clamp (by omega)
        refine c_cont (fun x => absurd ha x) (fun d hd8 e c => ?_) (fun d hd8 e c c' => ?_) (fun d hd8 e c c' => ?_)
        · refine br_f (by decide) ?_
          subst e
          have hs := hsh d hd8
          have in8 : vp_in (nI d) 8 := vp_in_nI hd8 (by decide)
          unfold wX12_whoRan wX12_noRow
          refine r_shelf_t ha (br_f (by decide) (r_has_t hN hr hb (br_f (by decide) (r_win_t hd (br_t (by decide) ⟨in8, ?_⟩)))))
          rw [nI_clamp (by omega), ← hs.1]
          exact br_f (fun x => x c) (br_f (by decide) ⟨rfl, h.inv⟩)
        · refine br_f (by decide) ?_
          subst e
          have hs := hsh d hd8
          have in8 : vp_in (nI d) 8 := vp_in_nI hd8 (by decide)
          unfold wX12_whoRan wX12_noRow
          refine r_shelf_t ha (br_f (by decide) (r_has_t hN hr hb (br_f (by decide) (r_win_t hd (br_t (by decide) ⟨in8, ?_⟩)))))
          rw [nI_clamp (by omega), ← hs.1]
          exact br_t c ⟨in8, br_f c' (br_f (by decide) ⟨rfl, h.inv⟩)⟩
        · subst e
          have hs := hsh d hd8
          have in8 : vp_in (nI d) 8 := vp_in_nI hd8 (by decide)
          have cd : (nI d).toNatClampNeg = d := nI_clamp (by omega)
          obtain ⟨g, hg, b5, e3, e6, e4⟩ := hs.isRow c'
          obtain ⟨M, eM, hM⟩ : ∃ M : Nat, M = (if a3 = 0 then 6 else 10) ∧ M ≤ 10 := ⟨_, rfl, by split <;> decide⟩
          have wK : ∀ k, k < M → wfP 9999 (pWho S j k a3) := fun k hk => hw.who hj (by rw [← eM]; exact hk)
          have ref : ∀ r Z2, kFr Z Z2 → r = vWho S j g (Z 105 d) (Z (68 + d)) a3 M → wX12_whoRan (nI d) (nI j) a3 Z2 (zD r) := by
            intro r Z2 f2 er
            have h2 := h.k f2
            have hs2 := h2.2.2.2.2.1 d hd8
            unfold wX12_whoRan wX12_noRow
            refine r_shelf_t ha (br_f (by decide) (r_has_t hN h2.2.2.1 hb (br_f (by decide) (r_win_t hd (br_t (by decide) ⟨in8, ?_⟩)))))
            have o104 : Z2 104 = Z 104 := f2.o (by decide) (by decide)
            rw [cd, o104, ← hs.1]
            refine br_t c ⟨in8, br_t c' (br_t (by decide) (rT_keep h2 (fun Z3 t3 => ?_)))⟩
            rintro _ rfl _ rfl
            refine pk_loop (σ := Int32 × zS) (fun m i s => wX12_whoRan_55 (nI d) (nI j) a3 (zD r) m s.1 (nI i) s.2) (fun i s => rT S S Z2 s.2 ∧ s.1 = vWho S j g (Z 105 d) (Z (68 + d)) a3 i) M 0 (0, Z3) (Nat.zero_le _) ⟨t3, rfl⟩ ?_ ?_
            · rintro m ⟨x, Y⟩ ⟨t, e⟩
              have t : rT S S Z2 Y := t
              have e : x = vWho S j g (Z 105 d) (Z (68 + d)) a3 M := e
              show wX12_whoRan_55b _ (nI d) (nI j) a3 x (nI M) Y _
              unfold wX12_whoRan_55b wX12_whoRan_68
              refine br_c (fun z => br_t ?_ ⟨e.trans er.symm, (t.I h2).inv⟩) (fun z => br_t ?_ ⟨e.trans er.symm, (t.I h2).inv⟩)
              · rw [eM, if_neg z]; exact Int32.le_refl _
              · rw [eM, if_pos (Classical.not_not.mp z)]; exact Int32.le_refl _
            · rintro m i ⟨x, Y⟩ hi ⟨t, e⟩ ih
              have t : rT S S Z2 Y := t
              have e : x = vWho S j g (Z 105 d) (Z (68 + d)) a3 i := e
              show wX12_whoRan_55b (fun x5 x6 Z => wX12_whoRan_55 (nI d) (nI j) a3 (zD r) m x5 x6 Z) (nI d) (nI j) a3 x (nI i) Y _
              have eN : vWho S j g (Z 105 d) (Z (68 + d)) a3 (i + 1) = if vTold_ (Z 105 d) (Z (68 + d)) (pWho S j i a3) g = 0 then vWho S j g (Z 105 d) (Z (68 + d)) a3 i else vWho S j g (Z 105 d) (Z (68 + d)) a3 i ||| (1 <<< (nI i &&& 31)) := rfl
              have k107 : ∀ x' Y', rT S S Z2 Y' → x' = vWho S j g (Z 105 d) (Z (68 + d)) a3 (i + 1) → wX12_whoRan_107 (fun x5 x6 Z => wX12_whoRan_55 (nI d) (nI j) a3 (zD r) m x5 x6 Z) (nI d) (nI j) a3 x' (nI i) Y' (zD r) := by
                intro x' Y' t' e'
                unfold wX12_whoRan_107
                rintro _ rfl
                rw [nI_1]
                exact ih (x', Y') ⟨t', e'⟩
              have k85 : ∀ b : Nat, b = (if a3 = 0 then 0 else 1) → wX12_whoRan_85 (fun x5 x6 Z => wX12_whoRan_55 (nI d) (nI j) a3 (zD r) m x5 x6 Z) (nI d) (nI j) a3 x (nI i) (nI (6 * b)) Y (zD r) := by
                intro b eb
                have b1 : b ≤ 1 := by rw [eb]; split <;> decide
                unfold wX12_whoRan_85
                simp (disch := omega) only [nI_add, nI_clamp, vp_in_nI, true_and]
                rintro Z20 rfl
                have hat := t.2.1.2.2 j hj
                have t20 : rT S (pWho S j i a3) Z2 (zU Y 98 (6 * b + j) (nI i)) := by
                  unfold pWho
                  rw [← eb]
                  rcases (show b = 0 ∨ b = 1 by omega) with z | z <;> subst z
                  · rw [show 6 * 0 + j = j by omega]
                    exact rT.set (P := S) hN hj t (rAt.kd hat) (rFr.u _ _ (by omega))
                  · exact rT.set (P := S) hN hj t (rAt.fg hat) (rFr.u _ _ (by omega))
                refine r_isSo (so := Z 105 d) (E := Z (68 + d)) (g := g) hN (by omega) (wK i hi) t20 (by rw [f2.o (by decide) (by decide)]) (by rw [f2.o (by decide) (by decide)]; exact e6) hd8 hg (fun i hi => by rw [f2.o (by decide) (by decide)]; exact (hs.2.2 i hi).symm) (fun Z' t' => br_c (fun z => k107 _ _ t' ?_) (fun z => ?_))
                · rw [eN, if_pos z]; exact e
                · rintro _ rfl
                  exact k107 _ _ t' (by rw [eN, if_neg z, e])
              unfold wX12_whoRan_55b wX12_whoRan_68
              refine br_c (fun z => br_f ?_ (br_t z (k85 1 (if_neg z).symm))) (fun z => br_f ?_ (br_f z (k85 0 (if_pos (Classical.not_not.mp z)).symm)))
              · rw [if_neg z] at eM
                exact nI_ge (b := 10) (by omega) (by decide)
              · rw [if_pos (Classical.not_not.mp z)] at eM
                exact nI_ge (b := 6) (by omega) (by decide)
          refine br_t rfl ?_
          rintro _ rfl
          have k58 : wX11_whoRan_58 (nI d) (nI j) a3 0 (nI M) Z (fun r Z1 => wX12_whoRan (nI d) (nI j) a3 Z1 (zD r)) := by
            unfold wX11_whoRan_58
            rintro _ rfl
            refine pk_loop (σ := Int32 × zS) (fun m i s => wX11_whoRan_63 (nI d) (nI j) a3 (fun r Z1 => wX12_whoRan (nI d) (nI j) a3 Z1 (zD r)) m s.1 (nI M) (nI i) s.2) (fun i s => (cRel 0 S s.2 ∧ kFr Z s.2) ∧ s.1 = vWho S j g (Z 105 d) (Z (68 + d)) a3 i) M 0 (0, Z) (Nat.zero_le _) ⟨⟨hc, kFr.rf⟩, rfl⟩ ?_ ?_
            · rintro m ⟨x, Y⟩ ⟨⟨c0, f0⟩, e⟩
              have e : x = vWho S j g (Z 105 d) (Z (68 + d)) a3 M := e
              show wX11_whoRan_63b _ (nI d) (nI j) a3 x (nI M) (nI M) Y _
              unfold wX11_whoRan_63b
              exact br_t (Int32.le_refl _) (ref _ Y f0 e)
            · rintro m i ⟨x, Y⟩ hi ⟨⟨c0, f0⟩, e⟩ ih
              have e : x = vWho S j g (Z 105 d) (Z (68 + d)) a3 i := e
              have f0 : kFr Z Y := f0
              have c0 : cRel 0 S Y := c0
              show wX11_whoRan_63b (fun x5 x6 x7 Z => wX11_whoRan_63 (nI d) (nI j) a3 (fun r Z1 => wX12_whoRan (nI d) (nI j) a3 Z1 (zD r)) m x5 x6 x7 Z) (nI d) (nI j) a3 x (nI M) (nI i) Y _
              have eN : vWho S j g (Z 105 d) (Z (68 + d)) a3 (i + 1) = if vTold_ (Z 105 d) (Z (68 + d)) (pWho S j i a3) g = 0 then vWho S j g (Z 105 d) (Z (68 + d)) a3 i else vWho S j g (Z 105 d) (Z (68 + d)) a3 i ||| (1 <<< (nI i &&& 31)) := rfl
              unfold wX11_whoRan_63b
              refine br_f (nI_ge hi (by omega)) (cT_becomes hw c0 f0 (fun Z15 t15 => ?_))
              rw [cj]
              have k143 : ∀ x' Y', cRel 0 S Y' → kFr Z Y' → x' = vWho S j g (Z 105 d) (Z (68 + d)) a3 (i + 1) → wX11_whoRan_143 (fun x5 x6 x7 Z => wX11_whoRan_63 (nI d) (nI j) a3 (fun r Z1 => wX12_whoRan (nI d) (nI j) a3 Z1 (zD r)) m x5 x6 x7 Z) (nI d) (nI j) a3 x' (nI M) (nI i) Y' (fun r Z1 => wX12_whoRan (nI d) (nI j) a3 Z1 (zD r)) := by
                intro x' Y' c' f' e'
                unfold wX11_whoRan_143
                rintro _ rfl
                rw [nI_1]
                exact ih (x', Y') ⟨⟨c', f'⟩, e'⟩
              have k121 : ∀ Y', cT S (pWho S j i a3) Z Y' → wX11_whoRan_121 (fun x5 x6 x7 Z => wX11_whoRan_63 (nI d) (nI j) a3 (fun r Z1 => wX12_whoRan (nI d) (nI j) a3 Z1 (zD r)) m x5 x6 x7 Z) (nI d) (nI j) a3 x (nI M) (nI i) Y' (fun r Z1 => wX12_whoRan (nI d) (nI j) a3 Z1 (zD r)) := by
                intro Y' t'
                unfold wX11_whoRan_121
                refine ⟨in8, ?_⟩
                rw [cd]
                refine c_told (so := Z 105 d) (E := Z (68 + d)) (g := g) hN (by omega) (wK i hi) t' e3 e4 hd8 hg (fun _ _ => rfl) (fun Z' c' f' => br_c (fun z => k143 _ _ c' f' ?_) (fun z => ?_))
                · rw [eN, if_pos z]; exact e
                · rintro _ rfl
                  exact k143 _ _ c' f' (by rw [eN, if_neg z, e])
              refine br_c (fun z => ⟨in6, ?_⟩) (fun z => ⟨in6, vp_in_nI (show i < 6 by rw [eM, if_pos (Classical.not_not.mp z)] at hi; exact hi) (by decide), ?_⟩)
              · rintro _ rfl
                refine k121 _ ?_
                unfold pWho
                rw [if_neg z]
                exact cT.set (P := S) hN hN hj t15 ((t15.1.2.2 j hj).u (by decide) (by decide)) (sFr.u _ _)
              · rintro _ rfl
                refine k121 _ ?_
                unfold pWho
                rw [if_pos (Classical.not_not.mp z)]
                exact cT.set (P := S) hN hN hj t15 ((t15.1.2.2 j hj).u (by decide) (by decide)) (sFr.u _ _)
          refine br_c (fun z => ?_) (fun z => ?_)
          · rw [eM, if_neg z] at k58; exact k58
          · rw [eM, if_pos (Classical.not_not.mp z)] at k58; exact k58
      · refine br_f (fun x => x rfl) ?_
        unfold wX12_whoRan
        exact r_shelf_t ha (br_f (by decide) (r_has_t hN hr hb (br_f (by decide) (r_win_f hd (br_f (fun x => x rfl) ⟨rfl, h.inv⟩)))))
    · refine br_t rfl ?_
      unfold wX12_whoRan
      exact r_shelf_t ha (br_f (by decide) (r_has_f hN hr hb (br_t rfl ⟨rfl, h.inv⟩)))
  · refine br_t rfl ?_
    unfold wX12_whoRan
    exact r_shelf_f ha (br_t rfl ⟨rfl, h.inv⟩)
end N6
