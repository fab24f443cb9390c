/-! FACE: days: six times, and all days -/
section O1
variable {S Q P : zP} {Z Z0 Z' : zS} {K : Int32 → zS → Prop} {M : zS → Prop} {T : Nat}
def dC (S P : zP) (s : Int32) (Z0 Z : zS) : Prop := cRel 1 P Z ∧ cRel 0 S Z ∧ kFr Z0 Z ∧ Z 96 10 = s
def dR (S P : zP) (s : Int32) (Z0 Z : zS) : Prop := rT S P Z0 Z ∧ Z 97 13 = s
theorem dC.sd {s x : Int32} (h : dC S P s Z0 Z) (hN : S.1 ≤ 6) (hP : P.1 ≤ 6) : dC S P x Z0 (zU Z 96 10 x) := by
  obtain ⟨h1, h2, h3, h4⟩ := h
  refine ⟨h1.lo (by decide) hP (fun i hi => zU_r (by omega)), h2.lo (by decide) hN (fun i hi => zU_r (by omega)), h3.tr ⟨fun i _ hi => zU_r (by omega), zU_k (by decide)⟩, zU_s _ _ _ _⟩
theorem dC.fr {s : Int32} {P' : zP} (h : dC S P s Z0 Z) (hN : S.1 ≤ 6) (r : cRel 1 P' Z') (f : cFr 1 Z Z') : dC S P' s Z0 Z' :=
  ⟨r, h.2.1.fr (by decide) hN (by decide) f, h.2.2.1.tr (kFr.c f), by rw [f.o (by decide) (i := 96) (by decide)]; exact h.2.2.2⟩
theorem dR.sd {s x : Int32} (h : dR S P s Z0 Z) : dR S P x Z0 (zU Z 97 13 x) := by
  obtain ⟨⟨h1, h2, h3⟩, h4⟩ := h
  refine ⟨⟨h1.mv (zU_r (by decide)), h2.mv (zU_k (by decide)) (zU_k (by decide)) (zU_r (by decide)) (zU_r (by decide)) (zU_r (by decide)), h3.tr ⟨fun i hi => zU_r (by omega), zU_k (by decide)⟩⟩, zU_s _ _ _ _⟩
theorem dR.fr {s : Int32} {P' : zP} (h : dR S P s Z0 Z) (r : rRel P' Z') (f : gFr Z Z') : dR S P' s Z0 Z' :=
  ⟨⟨h.1.1.mv (f.1 102 (by decide)), r, h.1.2.2.tr (hFr.g f)⟩, by rw [f.2 13 (by decide) (by decide) (by decide) (by decide)]; exact h.2⟩
theorem c_send1 {j : Nat} {w l : Int32} (hw : wfP T P) (hj : j < P.1) (hW : zin w 1 9) (hL : zin l 0 3) (h : cRel 1 P Z) (h0 : ¬ P.2.2 j 10 = 4 → K 0 Z) (h2 : P.2.2 j 10 = 4 → K (-2) Z) : wX3_sendingRefusal 1 (nI j) w l Z K := by
  have hj6 : j < 6 := Nat.lt_of_lt_of_le hj hw.1
  obtain ⟨c, hc, ec⟩ := zin_nI (n := 4) (hw.2.2 j hj).jobs (by decide)
  unfold wX3_sendingRefusal
  refine c_has hw.1 h (fun _ => br_f (by decide) ?_) (fun x => absurd ⟨j, hj, rfl⟩ x)
  refine c_win (fun _ => br_f (by decide) ?_) (fun x => absurd ⟨zle.mpr (by rw [zi1]; exact hW.1), zle.mpr hW.2⟩ x)
  refine c_win (fun _ => br_t (by decide) ⟨vp_in_nI hj6 (by decide), ?_⟩) (fun x => absurd ⟨zle.mpr (by rw [zi0]; exact hL.1), zle.mpr hL.2⟩ x)
  unfold wX5_isFull
  rw [nI_clamp (by omega), (h.2.2 j hj).f 10 (by decide), ec]
  refine br_c (fun x => br_t rfl (h0 (fun y => ?_))) (fun x => br_f (by decide) (h2 ?_))
  · rw [ec] at y; rw [y] at x; exact absurd x (by decide)
  · rw [ec]
    rcases Nat.lt_or_ge c 4 with z | z
    · exact absurd (nI_lt (b := 4) z (by decide)) x
    · have : c = 4 := by omega
      rw [this]; rfl
theorem c_live {s : Int32} (hw : wfP 9999 S) (h0 : 1 ≤ S.1) (h : dC S S s Z0 Z) (hk : ∀ Z', dC S (pSix S s 6).1 (pSix S s 6).2 Z0 Z' → M Z') : wX11_liveOneDay Z M := by
  have hN := hw.1
  unfold wX11_liveOneDay
  rintro _ rfl
  refine pk_loop (σ := zS) (fun m i Y => wX11_liveOneDay_2 M m (nI i) Y) (fun i Y => dC S (pSix S s i).1 (pSix S s i).2 Z0 Y) 6 0 Z (Nat.zero_le _) h ?_ ?_
  · rintro m Y t
    show wX11_liveOneDay_2b _ 6 Y M
    unfold wX11_liveOneDay_2b
    exact br_t (Int32.le_refl _) (hk Y t)
  · rintro m i Y hi t ih
    show wX11_liveOneDay_2b (fun x1 Z => wX11_liveOneDay_2 M m x1 Z) (nI i) Y M
    unfold wX11_liveOneDay_2b
    refine br_f (nI_ge (b := 6) hi (by decide)) ?_
    have w := hw.six (s := s) h0 i (by omega)
    have p1 : (pSix S s i).1.1 = S.1 := pSix_1 S s i
    have hP : (pSix S s i).1.1 ≤ 6 := by rw [p1]; exact hN
    generalize eP : (pSix S s i).1 = P at t w p1 hP
    generalize es : (pSix S s i).2 = s0 at t
    have eN : pSix S s (i + 1) = (pStep P s0, vS3 s0) := by rw [← eP, ← es]; rfl
    refine c_draw (n := 9) (by decide) (by decide) t.2.2.2 (fun Z3 e3 => ?_)
    rintro _ rfl
    have t3 : dC S P (vSd s0) Z0 Z3 := by rw [e3]; exact t.sd hN hP
    refine c_draw (n := 4) (by decide) (by decide) t3.2.2.2 (fun Z6 e6 => ?_)
    have t6 : dC S P (vSd (vSd s0)) Z0 Z6 := by rw [e6]; exact t3.sd hN hP
    rw [t6.1.1]
    refine c_draw (by omega) (by omega) t6.2.2.2 (fun Z8 e8 => ?_)
    have t8 : dC S P (vS3 s0) Z0 Z8 := by rw [e8]; exact t6.sd hN hP
    obtain ⟨hj, ej⟩ := vJ_lt (P := P) (s := s0) (by omega) hP
    have ej' : vDr (vSd (vSd (vSd s0))) (nI P.1) = nI (vJ P s0) := ej
    rw [ej']
    have in6 : vp_in (nI (vJ P s0)) 6 := vp_in_nI (by omega) (by decide)
    have k72 : ∀ Y', dC S (pGet P s0) (vS3 s0) Z0 Y' → wX11_liveOneDay_72 (fun x1 Z => wX11_liveOneDay_2 M m x1 Z) (nI i) Y' M := by
      intro Y' t'
      unfold wX11_liveOneDay_72
      refine c_goOnFor (n := 5) (by decide) (by omega) (w.get (s := s0) (by omega) (by omega)) t'.1 (fun Z5 r5 f5 _ => ?_)
      rintro _ rfl
      rw [nI_1]
      refine ih Z5 ?_
      rw [eN]
      exact t'.fr hN r5 f5
    refine c_send1 w hj (vW_in s0) (vL_in s0) t8.1 (fun c => br_f (fun x => x rfl) ⟨in6, ?_⟩) (fun c => br_t (by decide) (k72 Z8 ?_))
    · have wq := w.2.2 _ hj
      obtain ⟨c4, hc, ec⟩ := zin_nI (n := 4) wq.jobs (by decide)
      have hc4 : c4 < 4 := Nat.lt_of_le_of_ne hc (fun e => c (by rw [ec, e]; rfl))
      rw [nI_clamp (by omega), t8.1.2.1]
      refine c_take (t8.1.2.2 _ hj) ec hc4 wq.st wq.idle (fun Z' r f => k72 Z' ?_)
      unfold pGet
      rw [if_neg c]
      exact t8.fr hN (cRel.set (by decide) hP hj t8.1 r f) (cFr.s (p := 1) (by decide) (by omega) f)
    · unfold pGet
      rw [if_pos c]
      exact t8
theorem r_live {s : Int32} (hw : wfP 9999 S) (h0 : 1 ≤ S.1) (h : dR S S s Z0 Z) (hk : ∀ Z', dR S (pSix S s 6).1 (pSix S s 6).2 Z0 Z' → M Z') : wX12_sixTimes Z M := by
  have hN := hw.1
  unfold wX12_sixTimes
  rintro _ rfl
  refine pk_loop (σ := zS) (fun m i Y => wX12_sixTimes_2 M m (nI i) Y) (fun i Y => dR S (pSix S s i).1 (pSix S s i).2 Z0 Y) 6 0 Z (Nat.zero_le _) h ?_ ?_
  · rintro m Y t
    show wX12_sixTimes_2b _ 6 Y M
    unfold wX12_sixTimes_2b
    exact br_t (Int32.le_refl _) (hk Y t)
  · rintro m i Y hi t ih
    show wX12_sixTimes_2b (fun x1 Z => wX12_sixTimes_2 M m x1 Z) (nI i) Y M
    unfold wX12_sixTimes_2b
    refine br_f (nI_ge (b := 6) hi (by decide)) ?_
    have w := hw.six (s := s) h0 i (by omega)
    have p1 : (pSix S s i).1.1 = S.1 := pSix_1 S s i
    have hP : (pSix S s i).1.1 ≤ 6 := by rw [p1]; exact hN
    generalize eP : (pSix S s i).1 = P at t w p1 hP
    generalize es : (pSix S s i).2 = s0 at t
    have eN : pSix S s (i + 1) = (pStep P s0, vS3 s0) := by rw [← eP, ← es]; rfl
    refine r_draw (n := 9) (by decide) (by decide) t.2 (fun Z3 e3 => ?_)
    rintro _ rfl
    have t3 : dR S P (vSd s0) Z0 Z3 := by rw [e3]; exact t.sd
    refine r_draw (n := 4) (by decide) (by decide) t3.2 (fun Z6 e6 => ?_)
    have t6 : dR S P (vSd (vSd s0)) Z0 Z6 := by rw [e6]; exact t3.sd
    rw [t6.1.2.1.1]
    refine r_draw (by omega) (by omega) t6.2 (fun Z8 e8 => ?_)
    have t8 : dR S P (vS3 s0) Z0 Z8 := by rw [e8]; exact t6.sd
    obtain ⟨hj, ej⟩ := vJ_lt (P := P) (s := s0) (by omega) hP
    have ej' : vDr (vSd (vSd (vSd s0))) (nI P.1) = nI (vJ P s0) := ej
    rw [ej']
    have hj6 : vJ P s0 < 6 := by omega
    have e10 : Z8 98 (42 + vJ P s0) = P.2.2 (vJ P s0) 10 := (t8.1.2.1.2.2 _ hj).2.2.2.2.2.2.2.1
    have wq := w.2.2 _ hj
    obtain ⟨c4, hc, ec⟩ := zin_nI (n := 4) wq.jobs (by decide)
    have k55 : ∀ Y', dR S (pGet P s0) (vS3 s0) Z0 Y' → wX12_sixTimes_55 (fun x1 Z => wX12_sixTimes_2 M m x1 Z) (nI i) Y' M := by
      intro Y' t'
      unfold wX12_sixTimes_55
      refine r_goesOn (n := 5) (by omega) (w.get (s := s0) (by omega) (by omega)) t'.1.2.1 (fun Z5 r5 f5 _ => ?_)
      rintro _ rfl
      rw [nI_1]
      refine ih Z5 ?_
      rw [eN]
      exact t'.fr r5 f5
    simp (disch := omega) only [zlit_add, nI_clamp, vp_in_nI, true_and]
    rw [e10]
    refine br_c (fun c => k55 Z8 ?_) (fun c => ?_)
    · have c := zle.mp c
      rw [ec, nI_toInt (by omega)] at c
      have c : (4 : Int) ≤ (c4 : Int) := c
      unfold pGet
      rw [if_pos (by rw [ec, show c4 = 4 by omega]; rfl)]
      exact t8
    · have hc4 : c4 < 4 := Nat.lt_of_le_of_ne hc (fun e => c (by rw [ec, e]; decide))
      have t1 := w.2.1.1
      have t2 := w.2.1.2
      refine r_take hj6 (t8.1.2.1.2.2 _ hj) t8.1.2.1.2.1 wq.1 t1 (by omega) ec hc4 (fun Z' r f => k55 Z' ?_)
      unfold pGet
      rw [if_neg (fun e => by rw [ec] at e; have := (nI_eq (a := c4) (b := 4) (by omega) (by decide)).mp e; omega)]
      exact t8.fr (t8.1.2.1.set hP hj r f) (gFr.s f)
def vSum (a : Int32) (P : zP) : Int32 := if a = 0 then pLate P else pDone P
def vDay (S : zP) (a s : Int32) : Nat → Int32 × Int32
  | 0 => (0, s)
  | n + 1 => ((vDay S a s n).1 + (vSum a (pSix S (vDay S a s n).2 6).1 - vSum a S), (pSix S (vDay S a s n).2 6).2)
theorem m_days {a1 a2 a3 : Int32} (h : zI S Q Z) : wX11_days a1 a2 a3 Z (fun r Z1 => wX12_days a1 a2 a3 Z1 (zD r)) := by
  obtain ⟨hw, hc, hr, -⟩ := id h
  have hN := hw.1
  unfold wX11_days
  refine c_win (fun hb => br_f (by decide) ?_) (fun hb => ?_)
  · refine c_win (fun hd => br_t (by decide) ?_) (fun hd => br_f (fun x => x rfl) ?_)
    · obtain ⟨n, -, hn, rfl⟩ := zW_n 1 20 rfl rfl (by decide) hb
      rw [hc.1]
      refine br_c (fun c => ?_) (fun c => ?_)
      · have h0 : 1 ≤ S.1 := Nat.pos_of_ne_zero (fun z => c (by rw [z]; rfl))
        have ref : ∀ Z2, kFr Z Z2 → wX12_days (nI n) a2 a3 Z2 (zD (vDay S a3 a2 n).1) := by
          intro Z2 f2
          have h2 := h.k f2
          unfold wX12_days
          refine r_win_t hb (br_f (by decide) (r_win_t hd (br_t (by decide) ?_)))
          rw [h2.2.2.1.1]
          refine br_t c (rT_keep h2 (fun Z3 t3 => ?_))
          intro Z9 e9
          have t9 : dR S S a2 Z2 Z9 := by
            rw [e9]
            exact dR.sd (s := Z3 97 13) ⟨t3, rfl⟩
          rintro _ rfl _ rfl
          refine pk_loop (σ := Int32 × zS) (fun m i s => wX12_days_49 (nI n) a2 a3 (zD (vDay S a3 a2 n).1) m s.1 (nI i) s.2) (fun i s => dR S S (vDay S a3 a2 i).2 Z2 s.2 ∧ s.1 = (vDay S a3 a2 i).1) n 0 (0, Z9) (Nat.zero_le _) ⟨t9, rfl⟩ ?_ ?_
          · rintro m ⟨x, Y⟩ ⟨t, e⟩
            have t : dR S S (vDay S a3 a2 n).2 Z2 Y := t
            have e : x = (vDay S a3 a2 n).1 := e
            show wX12_days_49b _ (nI n) a2 a3 x (nI n) Y _
            unfold wX12_days_49b
            exact br_t (Int32.le_refl _) ⟨e, (t.1.I h2).inv⟩
          · rintro m i ⟨x, Y⟩ hi ⟨t, e⟩ ih
            have t : dR S S (vDay S a3 a2 i).2 Z2 Y := t
            have e : x = (vDay S a3 a2 i).1 := e
            show wX12_days_49b (fun x4 x5 Z => wX12_days_49 (nI n) a2 a3 (zD (vDay S a3 a2 n).1) m x4 x5 Z) (nI n) a2 a3 x (nI i) Y _
            unfold wX12_days_49b
            have k70 : wX12_days_70 (fun x4 x5 Z => wX12_days_49 (nI n) a2 a3 (zD (vDay S a3 a2 n).1) m x4 x5 Z) (nI n) a2 a3 x (nI i) (vSum a3 S) Y (zD (vDay S a3 a2 n).1) := by
              unfold wX12_days_70
              refine r_live hw h0 t (fun Z8 t8 => ?_)
              have hP : (pSix S (vDay S a3 a2 i).2 6).1.1 ≤ 6 := by rw [pSix_1]; exact hN
              have k93 : wX12_days_93 (fun x4 x5 Z => wX12_days_49 (nI n) a2 a3 (zD (vDay S a3 a2 n).1) m x4 x5 Z) (nI n) a2 a3 (nI i) (vSum a3 S) (vSum a3 (pSix S (vDay S a3 a2 i).2 6).1) x Z8 (zD (vDay S a3 a2 n).1) := by
                unfold wX12_days_93
                rintro _ rfl
                refine r_again (by decide) hN t8.1.1 (fun Z' r f _ _ => ?_)
                rintro _ rfl
                rw [nI_1]
                refine ih (_, Z') ⟨t8.fr r f, ?_⟩
                show x + _ = _
                rw [e]; rfl
              unfold vSum at k93
              refine br_c (fun c => ?_) (fun c => ?_)
              · rw [if_neg c] at k93
                exact r_allDone hP t8.1.2.1 (by simpa only [vSum, if_neg c] using k93)
              · have c := Classical.not_not.mp c
                rw [if_pos c] at k93
                exact r_allLate hP t8.1.2.1 (by simpa only [vSum, if_pos c] using k93)
            refine br_f (nI_ge hi (by omega)) (br_c (fun c => ?_) (fun c => ?_))
            · refine r_allDone hN t.1.2.1 ?_
              unfold vSum at k70
              rw [if_neg c] at k70
              exact k70
            · have c := Classical.not_not.mp c
              refine r_allLate hN t.1.2.1 ?_
              unfold vSum at k70
              rw [if_pos c] at k70
              exact k70
        intro Z8 e8
        have f8 : kFr Z Z8 := by rw [e8]; exact ⟨fun i _ hi => zU_r (by omega), zU_k (by decide)⟩
        have c8 : cRel 0 S Z8 := by rw [e8]; exact hc.lo (by decide) hN (fun i hi => zU_r (by omega))
        have s8 : Z8 96 10 = a2 := by rw [e8, zU_s]
        rintro _ rfl _ rfl
        refine pk_loop (σ := Int32 × zS) (fun m i s => wX11_days_44 (nI n) a2 a3 (fun r Z1 => wX12_days (nI n) a2 a3 Z1 (zD r)) m s.1 (nI i) s.2) (fun i s => (cRel 0 S s.2 ∧ kFr Z s.2 ∧ s.2 96 10 = (vDay S a3 a2 i).2) ∧ s.1 = (vDay S a3 a2 i).1) n 0 (0, Z8) (Nat.zero_le _) ⟨⟨c8, f8, s8⟩, rfl⟩ ?_ ?_
        · rintro m ⟨x, Y⟩ ⟨⟨y0, yf, ys⟩, e⟩
          have e : x = (vDay S a3 a2 n).1 := e
          show wX11_days_44b _ (nI n) a2 a3 x (nI n) Y _
          unfold wX11_days_44b
          rw [e]
          exact br_t (Int32.le_refl _) (ref Y yf)
        · rintro m i ⟨x, Y⟩ hi ⟨⟨y0, yf, ys⟩, e⟩ ih
          have e : x = (vDay S a3 a2 i).1 := e
          have y0 : cRel 0 S Y := y0
          have yf : kFr Z Y := yf
          have ys : Y 96 10 = (vDay S a3 a2 i).2 := ys
          show wX11_days_44b (fun x4 x5 Z => wX11_days_44 (nI n) a2 a3 (fun r Z1 => wX12_days (nI n) a2 a3 Z1 (zD r)) m x4 x5 Z) (nI n) a2 a3 x (nI i) Y _
          unfold wX11_days_44b
          refine br_f (nI_ge hi (by omega)) (c_becomes (by decide) (by decide) (by decide) hN (fun s hs => (hw.2.2 s hs).1) y0 (fun Z12 r12 f12 => ?_))
          have t12 : dC S S (vDay S a3 a2 i).2 Z Z12 := ⟨r12, y0.fr (by decide) hN (by decide) f12, yf.tr (kFr.c f12), by rw [f12.o (by decide) (i := 96) (by decide)]; exact ys⟩
          refine c_live hw h0 t12 (fun Z13 t13 => ?_)
          have hP : (pSix S (vDay S a3 a2 i).2 6).1.1 ≤ 6 := by rw [pSix_1]; exact hN
          have k104 : wX11_days_104 (fun x4 x5 Z => wX11_days_44 (nI n) a2 a3 (fun r Z1 => wX12_days (nI n) a2 a3 Z1 (zD r)) m x4 x5 Z) (nI n) a2 a3 (nI i) (vSum a3 (pSix S (vDay S a3 a2 i).2 6).1 - vSum a3 S) x Z13 (fun r Z1 => wX12_days (nI n) a2 a3 Z1 (zD r)) := by
            unfold wX11_days_104
            rintro _ rfl _ rfl
            rw [nI_1]
            refine ih (_, Z13) ⟨⟨t13.2.1, t13.2.2.1, t13.2.2.2⟩, ?_⟩
            show x + _ = _
            rw [e]; rfl
          refine br_c (fun c => c_doneOfAll hP t13.1 (c_doneOfAll hN t13.2.1 ?_)) (fun c => c_lateOfAll hP t13.1 (c_lateOfAll hN t13.2.1 ?_))
          · unfold vSum at k104
            rw [if_neg c, if_neg c] at k104
            exact k104
          · have c := Classical.not_not.mp c
            unfold vSum at k104
            rw [if_pos c, if_pos c] at k104
            exact k104
      · unfold wX12_days
        refine r_win_t hb (br_f (by decide) (r_win_t hd (br_t (by decide) ?_)))
        rw [hr.1]
        exact br_f c ⟨rfl, h.inv⟩
    · unfold wX12_days
      exact r_win_t hb (br_f (by decide) (r_win_f hd (br_f (fun x => x rfl) ⟨rfl, h.inv⟩)))
  · refine br_t rfl ?_
    unfold wX12_days
    exact r_win_f hb (br_t rfl ⟨rfl, h.inv⟩)
end O1
