/-! FACE: text -/
section P6
variable {S Q P : zP} {Z Z0 Z' : zS} {K : Int32 → zS → Prop} {E : Nat → Int32} {g : Nat}
theorem t_full {p : Nat} (hg : g ≤ 100) (u : tUp E g) (s : tSt E g = -1) (hp : p < g) (sp : tSt E p = -1) : tLet (E p) ∧ (∀ k, k < tLen (E p) → zW (E (p + 1 + k)) 48 57) ∧ p + tLen (E p) + 2 ≤ g ∧ tSt E (p + tLen (E p) + 2) = -1 := by
  have n6 : tLen (E p) ≤ 6 := by unfold tLen; split <;> (try split) <;> decide
  have hl : tLet (E p) := Classical.byContradiction (fun z => by
    have := u p hp
    unfold tOk at this
    rw [if_pos sp, tDb_not z] at this
    exact this rfl)
  have up : ∀ i, i ≤ g → tUp E i := fun i hi k hk => u k (by omega)
  obtain ⟨u1, s1⟩ := t_let (up p (by omega)) sp hl
  have td := t_dig (L := tLen (E p)) (by omega) u1 s1
  have dig : ∀ i, i ≤ tLen (E p) → (∀ k, k < i → zW (E (p + 1 + k)) 48 57) ∧ p + 1 + i < g := by
    intro i
    induction i with
    | zero =>
      intro _
      refine ⟨fun k hk => absurd hk (Nat.not_lt_zero _), ?_⟩
      by_cases e : p + 1 = g
      · rw [← e, s1] at s; exact absurd s (nI_nm1 (by omega))
      · show p + 1 < g; omega
    | succ i ih =>
      intro hi
      obtain ⟨d1, d2⟩ := ih (by omega)
      obtain ⟨-, s2⟩ := td i (by omega) d1
      have n1 : ¬ nI (tLen (E p) - i) = -1 := nI_nm1 (by omega)
      have n0 : ¬ nI (tLen (E p) - i) ≤ 0 := fun z => by
        have z := zle.mp z
        rw [zi0, nI_toInt (by omega)] at z
        omega
      have ok := u _ d2
      unfold tOk at ok
      rw [s2, if_neg n1, if_neg n0] at ok
      have d3 : ∀ k, k < i + 1 → zW (E (p + 1 + k)) 48 57 := fun k hk => by
        by_cases e : k = i
        · rw [e]; exact ok
        · exact d1 k (by omega)
      obtain ⟨-, s3⟩ := td (i + 1) hi d3
      refine ⟨d3, ?_⟩
      by_cases e : p + 1 + (i + 1) = g
      · rw [← e, s3] at s; exact absurd s (nI_nm1 (by omega))
      · omega
  obtain ⟨d1, d2⟩ := dig (tLen (E p)) (Nat.le_refl _)
  obtain ⟨-, s2⟩ := td (tLen (E p)) (Nat.le_refl _) d1
  rw [Nat.sub_self] at s2
  refine ⟨hl, d1, by omega, ?_⟩
  rw [show p + tLen (E p) + 2 = p + 1 + tLen (E p) + 1 by omega]
  show tNx (tSt E (p + 1 + tLen (E p))) _ = _
  unfold tNx
  rw [s2, if_neg (by decide), if_pos (by decide)]
theorem tPos_ge (E : Nat → Int32) (i : Nat) : i ≤ tPos E i := by
  induction i with
  | zero => exact Nat.le_refl _
  | succ i ih => show i + 1 ≤ tPos E i + tLen (E (tPos E i)) + 2; omega
theorem m_text {a1 : Int32} (h : zI S Q Z) : wX11_text a1 Z (fun r Z1 => wX12_text a1 Z1 (zD r)) := by
  obtain ⟨hw, hc, hr, -, hsh, -⟩ := id h
  have hN := hw.1
  unfold wX11_text wX11_rowRefusal
  refine c_cont (fun ha => ?_) (fun d hd e c => ?_) (fun d hd e c c' => ?_) (fun d hd e c c' => br_t rfl ?_)
  · refine br_f (by decide) ?_
    unfold wX12_text
    exact r_shelf_f ha (br_f (fun x => x rfl) ⟨rfl, h.inv⟩)
  · refine br_f (by decide) ?_
    subst e
    have hs := hsh d hd
    have in8 : vp_in (nI d) 8 := vp_in_nI hd (by decide)
    unfold wX12_text wX12_noBytes wX12_noBytes_24 wX12_noRow
    refine r_shelf_t ⟨d, hd, rfl⟩ (br_t (by decide) ⟨in8, ?_⟩)
    rw [nI_clamp (by omega), ← hs.1]
    exact br_t (by rw [c]; decide) ⟨in8, br_f (fun x => x c) (br_f (by decide) ⟨rfl, h.inv⟩)⟩
  · refine br_f (by decide) ?_
    subst e
    have hs := hsh d hd
    have in8 : vp_in (nI d) 8 := vp_in_nI hd (by decide)
    unfold wX12_text wX12_noBytes wX12_noBytes_24 wX12_noRow
    refine r_shelf_t ⟨d, hd, rfl⟩ (br_t (by decide) ⟨in8, ?_⟩)
    rw [nI_clamp (by omega), ← hs.1]
    exact br_t c' ⟨in8, br_t c ⟨in8, br_f c' (br_f (by decide) ⟨rfl, h.inv⟩)⟩⟩
  · subst e
    have hs := hsh d hd
    have in8 : vp_in (nI d) 8 := vp_in_nI hd (by decide)
    have cd : (nI d).toNatClampNeg = d := nI_clamp (by omega)
    obtain ⟨g, hg, b5, e3, e6, e4⟩ := hs.isRow c'
    refine ⟨in8, ?_⟩
    intro v ev
    rw [cd] at ev
    have ev := ev.symm
    subst ev
    rw [e3]
    refine br_c (fun c5 => ?_) (fun c5 => ?_)
    · have e104 : Z 104 d = 2 := hs.1.symm.trans c'
      refine c_bad (E := Z (68 + d)) hg e4 (fun _ _ => rfl) (fun r hb => br_c (fun r4 => ?_) (fun r4 => ?_))
      · rw [r4] at hb
        obtain ⟨u, g0, s⟩ : tUp (Z (68 + d)) g ∧ ¬ g = 0 ∧ tSt (Z (68 + d)) g = -1 := by
          rcases hb with ⟨i, a1, -, -, a4⟩ | ⟨-, -, a3⟩ | ⟨a1, a2, a3, -⟩
          · exact absurd a4.symm (nI_n4 (by omega))
          · exact absurd a3.symm (nI_n4 (by omega))
          · exact ⟨a1, a2, a3⟩
        have nA : ∀ b, b ≤ 100 → tBad (Z (68 + d)) g (nI b) → False := fun b hb1 hb' => nI_n4 (by omega) (tBad.u hb' hb)
        refine cT_becomes hw hc kFr.rf (fun Z1 t1 => ?_)
        rintro _ rfl _ rfl _ rfl
        have loop : ∀ m, ∀ i Y, g - tPos (Z (68 + d)) i < m → tPos (Z (68 + d)) i ≤ g → tSt (Z (68 + d)) (tPos (Z (68 + d)) i) = -1 → (∀ k, k < i → tY S (Z (68 + d)) k ∧ tPos (Z (68 + d)) k < g) → cT S (tPl S (Z (68 + d)) i) Z Y → wX11_text_69 (nI d) (fun r Z1 => wX12_text (nI d) Z1 (zD r)) m d (nI i) (nI (tPos (Z (68 + d)) i)) (nI i) Y := by
          intro m
          induction m with
          | zero => intro i Y hm; exact absurd hm (Nat.not_lt_zero _)
          | succ m ih =>
            intro i Y hm hp sp hk t
            show wX11_text_69b (fun v3 x5 x6 x7 Z => wX11_text_69 (nI d) (fun r Z1 => wX12_text (nI d) Z1 (zD r)) m v3 x5 x6 x7 Z) (nI d) d (nI i) (nI (tPos (Z (68 + d)) i)) (nI i) Y _
            unfold wX11_text_69b
            have hi := tPos_ge (Z (68 + d)) i
            have oE : ∀ k, Y (68 + d) k = Z (68 + d) k := fun k => by rw [t.2.2.o (i := 68 + d) (by omega) (by omega)]
            rw [t.2.2.o (i := 60 + d) (by omega) (by omega), e4]
            have wP := tPl_wf (E := Z (68 + d)) hw i (fun k hk' => (hk k hk').1)
            have hY := h.k t.2.2
            have out : tPos (Z (68 + d)) i = g → wX11_text_134 (nI d) (nI i) Y (fun r Z1 => wX12_text (nI d) Z1 (zD r)) := by
              intro pg
              unfold wX11_text_134
              refine c_becomes (by decide) (by decide) (by decide) wP.1 (fun s hs => (wP.2.2 s hs).1) t.1 (fun Z2 r2 f2 => ?_)
              have j := hY.c f2 r2 wP
              have o : ∀ k, 57 ≤ k → ¬ (93 ≤ k ∧ k ≤ 96) → Z2 k = Z k := fun k h1 h2 => (f2.o (by decide) h1).trans (t.2.2.o h1 h2)
              refine r_text (S := S) (E := Z (68 + d)) (g := g) hw hd hg (by rw [o _ (by decide) (by decide)]; exact e104) (by rw [o _ (by decide) (by decide)]; exact c5) (by rw [o _ (by decide) (by decide)]; exact e6) (fun k hk' => by rw [o _ (by decide) (by decide)]; exact (hs.2.2 k hk').symm) j.2.2.2.1 (fun b hb1 hb' => (nA b hb1 hb').elim) (fun _ k hk1 hk2 hk3 => ?_) (fun _ n hn1 hn2 Z' r' f' => ?_)
              · exfalso
                rcases Nat.lt_or_ge k i with z | z
                · exact hk2 (hk k z).1
                · have := tPos_up (Z (68 + d)) z
                  omega
              · have en : n = i := by
                  rcases Nat.lt_trichotomy n i with z | z | z
                  · have := (hk n z).2; omega
                  · exact z
                  · have := (hn1 i z).2; omega
                subst en
                exact ⟨rfl, (j.r f' r').inv⟩
            refine br_c (fun c7 => out ?_) (fun _ => br_c (fun c6 => out ?_) (fun c6 => ?_))
            · have c7 := zle.mp c7
              rw [nI_toInt (by omega), nI_toInt (by omega)] at c7
              omega
            · have c6 := zle.mp c6
              rw [nI_toInt (by omega), nI_toInt (by omega)] at c6
              omega
            have hlt : tPos (Z (68 + d)) i < g := by
              have c6 := zlt.mp (Int32.not_le.mp c6)
              rw [nI_toInt (by omega), nI_toInt (by omega)] at c6
              omega
            obtain ⟨hl, hz, hle, s'⟩ := t_full hg u s hlt sp
            have n6 : tLen (Z (68 + d) (tPos (Z (68 + d)) i)) ≤ 6 := by unfold tLen; split <;> (try split) <;> decide
            refine c_do (E := Z (68 + d)) (c := Z (68 + d) (tPos (Z (68 + d)) i)) (D := tDg (Z (68 + d)) (tPos (Z (68 + d)) i)) wP (tDg_9 _ _) hl ?_ (fun k _ => oE k) rfl (fun k hk' => tDg_e (hz k hk')) t.1 (fun y Z2 r2 f2 => br_t (by decide) ?_) (fun y => br_f (fun z => z rfl) ?_)
            · rcases hl with z | z | z
              · unfold tLen at hle; rw [if_pos z] at hle; exact Or.inl (by omega)
              · unfold tLen at hle; rw [if_neg (by rw [z]; decide), if_pos z] at hle; exact Or.inr (Or.inl ⟨z, by omega⟩)
              · unfold tLen at hle; rw [if_neg (by rw [z]; decide), if_neg (by rw [z]; decide)] at hle; exact Or.inr (Or.inr ⟨z, by omega⟩)
            · rintro _ rfl
              have t2 : cT S (tPl S (Z (68 + d)) (i + 1)) Z Z2 := ⟨r2, t.2.1.fr (by decide) hN (by decide) f2, t.2.2.tr (kFr.c f2)⟩
              refine c_at (x := Z (68 + d) (tPos (Z (68 + d)) i)) (by omega) (by rw [t2.2.2.o (i := 68 + d) (by omega) (by omega)]) ?_
              unfold wX8_lengthFrom
              refine c_db ?_
              rw [tDb_len hl]
              rintro _ rfl _ rfl
              have e2 : (nI (tLen (Z (68 + d) (tPos (Z (68 + d)) i))) + 2 : Int32) = nI (tLen (Z (68 + d) (tPos (Z (68 + d)) i)) + 2) := nI_add _ 2
              rw [nI_1, e2, nI_add]
              refine ih (i + 1) Z2 ?_ hle s' (fun k hk' => ?_) t2
              · show g - (tPos (Z (68 + d)) i + tLen (Z (68 + d) (tPos (Z (68 + d)) i)) + 2) < m
                omega
              · by_cases e : k = i
                · rw [e]; exact ⟨y, hlt⟩
                · exact hk k (by omega)
            · have o : ∀ k, 57 ≤ k → ¬ (93 ≤ k ∧ k ≤ 96) → Y k = Z k := fun k h1 h2 => t.2.2.o h1 h2
              refine r_text (S := S) (E := Z (68 + d)) (g := g) hw hd hg (by rw [o _ (by decide) (by decide)]; exact e104) (by rw [o _ (by decide) (by decide)]; exact c5) (by rw [o _ (by decide) (by decide)]; exact e6) (fun k hk' => by rw [o _ (by decide) (by decide)]; exact (hs.2.2 k hk').symm) hY.2.2.1 (fun b hb1 hb' => (nA b hb1 hb').elim) (fun _ k hk1 hk2 hk3 Z' r' f' => ?_) (fun _ n hn1 hn2 Z' r' f' => ?_)
              · have en : k = i := by
                  rcases Nat.lt_trichotomy k i with z | z | z
                  · exact absurd (hk k z).1 hk2
                  · exact z
                  · exact absurd (hk1 i z) y
                subst en
                exact ⟨rfl, (hY.h f' r').inv⟩
              · exfalso
                rcases Nat.lt_or_ge i n with z | z
                · exact y (hn1 i z).1
                · have := tPos_up (Z (68 + d)) z
                  omega
        exact ⟨g + 1, loop (g + 1) 0 Z1 (by show g - 0 < g + 1; omega) (Nat.zero_le _) rfl (fun k hk => absurd hk (Nat.not_lt_zero _)) t1⟩
      · refine r_text (S := S) (E := Z (68 + d)) (g := g) hw hd hg e104 c5 e6 (fun k hk' => (hs.2.2 k hk').symm) hr (fun b hb1 hb' Z' r' f' => ⟨by rw [tBad.u hb' hb], (h.h f' r').inv⟩) (fun hb' => absurd (tBad.u hb hb') r4) (fun hb' => absurd (tBad.u hb hb') r4)
    · have e104 : Z 104 d = 2 := hs.1.symm.trans c'
      unfold wX12_text wX12_noBytes wX12_noBytes_24 wX12_noRow
      refine r_shelf_t ⟨d, hd, rfl⟩ (br_t (by decide) ⟨in8, ?_⟩)
      rw [cd, e104]
      exact br_f (fun x => x rfl) ⟨in8, br_f c5 (br_f (by decide) ⟨rfl, h.inv⟩)⟩
end P6
