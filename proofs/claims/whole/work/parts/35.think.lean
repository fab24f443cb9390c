/-! THINKING: the class in its second plant, the reference in its live arrays, kept ahead -/
section TK
variable {S Q P P' : zP} {Z Z0 Z' : zS} {M : zS → Prop} {T : Nat}
def rT (S P : zP) (Z0 Z : zS) : Prop := aRel 102 S Z ∧ rRel P Z ∧ hFr Z0 Z
def cT (S P : zP) (Z0 Z : zS) : Prop := cRel 1 P Z ∧ cRel 0 S Z ∧ kFr Z0 Z
theorem rT_keep (h : zI S Q Z) (hk : ∀ Z', rT S S Z Z' → M Z') : wX12_keep 102 122 Z M := by
  refine r_keep (by decide) h.1.1 h.2.2.1 (fun Z' a f => hk Z' ⟨a, ?_, hFr.a f⟩)
  exact h.2.2.1.mv (by rw [f 97 (by decide)]) (by rw [f 97 (by decide)]) (f _ (by decide)) (f _ (by decide)) (f _ (by decide))
theorem rT_go (hT : T ≤ 20000) (w : wfP T P) {b : Int32} (h : rT S P Z0 Z) (hk : ∀ Z', rT S (pGo b P) Z0 Z' → Z' 97 5 = pCh b P → Z' 97 6 = pRn b P → M Z') : wX12_goesBy b Z M := by
  refine r_goesBy hT w h.2.1 (fun Z' r f c5 c6 => hk Z' ⟨h.1.mv (f.1 102 (by decide)), r, h.2.2.tr (hFr.g f)⟩ c5 c6)
theorem rT_go0 (hT : T ≤ 20000) (w : wfP T P) (h : rT S P Z0 Z) (hk : ∀ Z', rT S (pGo 0 P) Z0 Z' → Z' 97 5 = pCh 0 P → Z' 97 6 = pRn 0 P → M Z') : wX12_goes Z M := by
  unfold wX12_goes
  exact rT_go hT w h hk
theorem rT_goN {n : Nat} (hT : T + n ≤ 20000) (w : wfP T P) (h : rT S P Z0 Z) (hk : ∀ Z', rT S (pGoN n P) Z0 Z' → (0 < n → Z' 97 5 = pCh 0 (pGoN (n - 1) P) ∧ Z' 97 6 = pRn 0 (pGoN (n - 1) P)) → M Z') : wX12_goesOn (nI n) Z M := by
  refine r_goesOn hT w h.2.1 (fun Z' r f c => hk Z' ⟨h.1.mv (f.1 102 (by decide)), r, h.2.2.tr (hFr.g f)⟩ c)
theorem rT_back (hN : S.1 ≤ 6) (h : rT S P Z0 Z) (hk : ∀ Z', rT S S Z0 Z' → M Z') : wX12_again 102 122 Z M := by
  refine r_again (by decide) hN h.1 (fun Z' r f _ _ => hk Z' ⟨h.1.mv (f.1 102 (by decide)), r, h.2.2.tr (hFr.g f)⟩)
theorem rT.I (h : rT S S Z0 Z) (hI : zI S Q Z0) : zI S Q Z := hI.h h.2.2 h.2.1
theorem rT.set {s : Nat} {q : zQ} (hN : P.1 ≤ 6) (hs : s < P.1) (h : rT S P Z0 Z) (r : rAt s q Z') (f : rFr s Z Z') : rT S (pSet P s q) Z0 Z' := ⟨h.1.mv (f.1 102 (by decide) (by decide) (by decide)), h.2.1.set hN hs r f, h.2.2.tr (hFr.g (gFr.s f))⟩
theorem cT_becomes (hw : wfP T S) (h0 : cRel 0 S Z) (f0 : kFr Z0 Z) (hk : ∀ Z', cT S S Z0 Z' → M Z') : wX3_becomes 1 0 Z M := by
  refine c_becomes (by decide) (by decide) (by decide) hw.1 (fun s hs => (hw.2.2 s hs).1) h0 (fun Z' r f => hk Z' ⟨r, h0.fr (by decide) hw.1 (by decide) f, f0.tr (kFr.c f)⟩)
theorem cT_go (hN : S.1 ≤ 6) (hT : T ≤ 20000) (w : wfP T P) {b : Int32} (h : cT S P Z0 Z) (hk : ∀ Z', cT S (pGo b P) Z0 Z' → Z' (54 + 1) 3 = pCh b P → Z' (54 + 1) 4 = pRn b P → M Z') : wX3_goOn 1 b Z M := by
  refine c_goOn (by decide) hT w h.1 (fun Z' r f c3 c4 => hk Z' ⟨r, h.2.1.fr (by decide) hN (by decide) f, h.2.2.tr (kFr.c f)⟩ c3 c4)
theorem cT_goN (hN : S.1 ≤ 6) {n : Nat} (hT : T + n ≤ 20000) (w : wfP T P) (h : cT S P Z0 Z) (hk : ∀ Z', cT S (pGoN n P) Z0 Z' → (0 < n → Z' (54 + 1) 3 = pCh 0 (pGoN (n - 1) P) ∧ Z' (54 + 1) 4 = pRn 0 (pGoN (n - 1) P)) → M Z') : wX3_goOnFor 1 (nI n) Z M := by
  refine c_goOnFor (by decide) hT w h.1 (fun Z' r f c => hk Z' ⟨r, h.2.1.fr (by decide) hN (by decide) f, h.2.2.tr (kFr.c f)⟩ c)
theorem cT.set {s : Nat} {q : zQ} (hNS : S.1 ≤ 6) (hN : P.1 ≤ 6) (hs : s < P.1) (h : cT S P Z0 Z) (r : sRel (6 * 1 + s) q Z') (f : sFr (6 * 1 + s) Z Z') : cT S (pSet P s q) Z0 Z' := by
  have f' : cFr 1 Z Z' := cFr.s (p := 1) (by decide) (by omega) f
  exact ⟨cRel.set (by decide) hN hs h.1 r f, h.2.1.fr (by decide) hNS (by decide) f', h.2.2.tr (kFr.c f')⟩
theorem cT.cg (h : cT S P Z0 Z) (h1 : P'.1 = P.1) (h2 : P'.2.1 = P.2.1) (h3 : ∀ s, s < P.1 → P'.2.2 s = P.2.2 s) : cT S P' Z0 Z := ⟨h.1.cg h1 h2 h3, h.2.1, h.2.2⟩
theorem rT.cg (h : rT S P Z0 Z) (h1 : P'.1 = P.1) (h2 : P'.2.1 = P.2.1) (h3 : ∀ s, s < P.1 → P'.2.2 s = P.2.2 s) : rT S P' Z0 Z := ⟨h.1, h.2.1.cg h1 h2 h3, h.2.2⟩
/-- the first of lo .. hi - 1 of which it holds; -4 -/
def zFst (R : Nat → Prop) (lo hi : Nat) (r : Int32) : Prop := (∃ n, lo ≤ n ∧ n < hi ∧ r = nI n ∧ R n ∧ ∀ m, lo ≤ m → m < n → ¬ R m) ∨ (r = -4 ∧ ∀ n, lo ≤ n → n < hi → ¬ R n)
theorem zFst.u {R : Nat → Prop} {lo hi : Nat} {r r' : Int32} (a : zFst R lo hi r) (b : zFst R lo hi r') : r = r' := by
  rcases a with ⟨n, h1, h2, e, h3, h4⟩ | ⟨e, h⟩ <;> rcases b with ⟨n', h1', h2', e', h3', h4'⟩ | ⟨e', h'⟩
  · rcases Nat.lt_trichotomy n n' with x | x | x
    · exact absurd h3 (h4' n h1 x)
    · rw [e, e', x]
    · exact absurd h3' (h4 n' h1' x)
  · exact absurd h3 (h' n h1 h2)
  · exact absurd h3' (h n' h1' h2')
  · rw [e, e']
/-- the work of a server's jobs -/
def qWork (q : zQ) : Int32 := zsum (fun i => q (20 + i)) (q 10).toNatClampNeg
theorem c_workOf {v j : Nat} {q : zQ} {K : Int32 → zS → Prop} (h : sRel v q Z) (hj : q 10 = nI j) (hj4 : j ≤ 4) (hk : K (qWork q) Z) : wX5_workOfAll v Z K := by
  have ec : (q 10).toNatClampNeg = j := by rw [hj]; exact nI_clamp (by omega)
  unfold qWork at hk
  rw [ec] at hk
  unfold wX5_workOfAll
  rintro _ rfl _ rfl
  have e10 : Z v 10 = nI j := (h.f 10 (by decide)).trans hj
  refine pk_loop (σ := Int32) (fun n i x => wX5_workOfAll_4 v K n x (nI i) Z) (fun i x => x = zsum (fun i => q (20 + i)) i) j 0 0 (Nat.zero_le _) rfl ?_ ?_
  · rintro n x rfl
    show wX5_workOfAll_4b _ v _ (nI j) Z K
    unfold wX5_workOfAll_4b
    rw [e10]
    exact br_t (Int32.le_refl _) hk
  · rintro n i x hi rfl ih
    show wX5_workOfAll_4b (fun x1 x2 Z => wX5_workOfAll_4 v K n x1 x2 Z) v _ (nI i) Z K
    unfold wX5_workOfAll_4b
    rw [e10]
    refine br_f (nI_ge hi (by omega)) ⟨vp_in_nI (by omega) (by decide), ?_⟩
    rw [nI_clamp (by omega), (h.j i (by rw [ec]; exact hi)).1]
    rintro _ rfl _ rfl
    rw [nI_1]
    exact ih _ rfl
theorem r_workOf {s j : Nat} {q : zQ} {K : Int32 → zS → Prop} (hs : s < 6) (h : rAt s q Z) (hj : q 10 = nI j) (hj4 : j ≤ 4) (hk : K (qWork q) Z) : wX12_workOf (nI s) Z K := by
  have ec : (q 10).toNatClampNeg = j := by rw [hj]; exact nI_clamp (by omega)
  unfold qWork at hk
  rw [ec] at hk
  obtain ⟨e0, e1, e2, e3, e5, e6, e7, e10, e8, e9, e13, e14, ej⟩ := h
  rw [ec] at ej
  rw [hj] at e10
  unfold wX12_workOf
  rintro _ rfl _ rfl
  refine pk_loop (σ := Int32) (fun n i x => wX12_workOf_4 (nI s) K n x (nI i) Z) (fun i x => x = zsum (fun i => q (20 + i)) i) j 0 0 (Nat.zero_le _) rfl ?_ ?_
  · rintro n x rfl
    show wX12_workOf_4b _ (nI s) _ (nI j) Z K
    unfold wX12_workOf_4b
    simp (disch := omega) only [zlit_add, nI_clamp, vp_in_nI, true_and]
    rw [e10]
    exact br_t (Int32.le_refl _) hk
  · rintro n i x hi rfl ih
    show wX12_workOf_4b (fun x1 x2 Z => wX12_workOf_4 (nI s) K n x1 x2 Z) (nI s) _ (nI i) Z K
    unfold wX12_workOf_4b
    simp (disch := omega) only [zlit_add, zlit_mul, nI_add, nI_clamp, vp_in_nI, true_and]
    rw [e10]
    refine br_f (nI_ge hi (by omega)) ?_
    rw [(ej i (by omega) hi).1]
    rintro _ rfl _ rfl
    rw [nI_1]
    exact ih _ rfl
/-- what then() tells of a server -/
def vTold (q : zQ) (what : Int32) : Int32 := if what = 0 then qWork q else if what = 1 then q 5 + 10000 else if what = 2 then q 6 else if what = 3 then q 7 else if what = 4 then q 8 else q 9
theorem r_told {s : Nat} {t : Int32} {q : zQ} {a : Int32} {K : Int32 → zS → Prop} (hs : s < 6) (h : rAt s q Z) (w : wf0 t q) (hk : K (vTold q a) Z) : wX12_told (nI s) a Z K := by
  obtain ⟨j, hj, ej'⟩ := zin_nI (n := 4) w.jobs (by decide)
  obtain ⟨e0, e1, e2, e3, e5, e6, e7, e10, e8, e9, e13, e14, ej⟩ := id h
  unfold wX12_told
  simp (disch := omega) only [zlit_add, nI_clamp, vp_in_nI, true_and]
  rw [e5, e6, e7, e8, e9]
  unfold vTold at hk
  rintro _ rfl
  refine br_c (fun c => ?_) (fun c => br_c (fun d => ?_) (fun d => br_c (fun e => ?_) (fun e => br_c (fun f => ?_) (fun f => br_c (fun g => ?_) (fun g => ?_)))))
  · rw [if_pos c] at hk; exact r_workOf hs h ej' hj hk
  · rw [if_neg c, if_pos d] at hk; exact hk
  · rw [if_neg c, if_neg d, if_pos e] at hk; exact hk
  · rw [if_neg c, if_neg d, if_neg e, if_pos f] at hk; exact hk
  · rw [if_neg c, if_neg d, if_neg e, if_neg f, if_pos g] at hk; exact hk
  · rw [if_neg c, if_neg d, if_neg e, if_neg f, if_neg g] at hk; exact hk
theorem m_then {a1 a2 a3 : Int32} (h : zI S Q Z) : wX11_then a1 a2 a3 Z (fun r Z1 => wX12_then a1 a2 a3 Z1 (zD r)) := by
  obtain ⟨hw, hc, hr, -⟩ := id h
  have hN := hw.1
  unfold wX11_then
  refine c_has hN hc (fun ha => ?_) (fun ha => ?_)
  · refine br_f (by decide) (c_win (fun hb => ?_) (fun hb => ?_))
    · refine br_f (by decide) (c_win (fun hd => ?_) (fun hd => ?_))
      · refine br_t (by decide) ?_
        obtain ⟨j, hj, rfl⟩ := id ha
        obtain ⟨n, -, hn, rfl⟩ := zW_n 0 99 rfl rfl (by decide) hb
        have hj6 : j < 6 := Nat.lt_of_lt_of_le hj hN
        have hjn : j < (pGoN n S).1 := by rw [pGoN_1]; exact hj
        have wn := hw.goN n (by omega)
        have wq := wn.2.2 j hjn
        obtain ⟨c, hc4, ec⟩ := zin_nI (n := 4) wq.jobs (by decide)
        refine cT_becomes hw hc kFr.rf (fun Z1 t1 => cT_goN hN (by omega) hw t1 (fun Z2 t2 _ => ⟨vp_in_nI hj6 (by decide), ?_⟩))
        rw [nI_clamp (by omega)]
        rintro _ rfl a3 rfl
        have hs := t2.1.2.2 j hjn
        have h2 := h.k t2.2.2
        have ref : ∀ r, r = vTold ((pGoN n S).2.2 j) a3 → wX12_then (nI j) (nI n) a3 Z2 (zD r) := by
          rintro _ rfl
          unfold wX12_then
          refine r_has_t hN h2.2.2.1 ha (br_f (by decide) (r_win_t hb (br_f (by decide) (r_win_t hd (br_t (by decide) ?_)))))
          refine rT_keep h2 (fun Z3 t3 => rT_goN (by omega) hw t3 (fun Z4 t4 _ => ?_))
          exact r_told hj6 (t4.2.1.2.2 j hjn) wq.1 (rT_back hN t4 (fun Z5 t5 => ⟨rfl, (t5.I h2).inv⟩))
        unfold vTold at ref
        rw [hs.f 5 (by decide), hs.f 6 (by decide), hs.f 7 (by decide), hs.f 8 (by decide), hs.f 9 (by decide)]
        refine br_c (fun c => ?_) (fun c => br_c (fun d => ?_) (fun d => br_c (fun e => ?_) (fun e => br_c (fun f => ?_) (fun f => br_c (fun g => ?_) (fun g => ?_)))))
        · exact c_workOf hs ec hc4 (ref _ (by rw [if_pos c]))
        · exact ref _ (by rw [if_neg c, if_pos d])
        · exact ref _ (by rw [if_neg c, if_neg d, if_pos e])
        · exact ref _ (by rw [if_neg c, if_neg d, if_neg e, if_pos f])
        · exact ref _ (by rw [if_neg c, if_neg d, if_neg e, if_neg f, if_pos g])
        · exact ref _ (by rw [if_neg c, if_neg d, if_neg e, if_neg f, if_neg g])
      · refine br_f (fun x => x rfl) ?_
        unfold wX12_then
        exact r_has_t hN hr ha (br_f (by decide) (r_win_t hb (br_f (by decide) (r_win_f hd (br_f (fun x => x rfl) ⟨rfl, h.inv⟩)))))
    · refine br_t rfl ?_
      unfold wX12_then
      exact r_has_t hN hr ha (br_f (by decide) (r_win_f hb (br_t rfl ⟨rfl, h.inv⟩)))
  · refine br_t rfl ?_
    unfold wX12_then
    exact r_has_f hN hr ha (br_t rfl ⟨rfl, h.inv⟩)
theorem m_runs {a1 a2 : Int32} (h : zI S Q Z) : wX11_runs a1 a2 Z (fun r Z1 => wX12_runs a1 a2 Z1 (zD r)) := by
  obtain ⟨hw, hc, hr, -⟩ := id h
  have hN := hw.1
  unfold wX11_runs
  refine c_win (fun hb => ?_) (fun hb => ?_)
  · refine br_f (by decide) (c_win (fun hd => ?_) (fun hd => ?_))
    · refine br_t (by decide) ?_
      obtain ⟨n, hn1, hn, rfl⟩ := zW_n 1 99 rfl rfl (by decide) hb
      refine cT_becomes hw hc kFr.rf (fun Z1 t1 => cT_goN hN (by omega) hw t1 (fun Z2 t2 c34 => ?_))
      obtain ⟨c3, c4⟩ := c34 (by omega)
      have h2 := h.k t2.2.2
      have ref : ∀ r, r = (if a2 = 0 then pCh 0 (pGoN (n - 1) S) else pRn 0 (pGoN (n - 1) S)) → wX12_runs (nI n) a2 Z2 (zD r) := by
        rintro _ rfl
        unfold wX12_runs wX12_runs_49
        refine r_win_t hb (br_f (by decide) (r_win_t hd (br_t (by decide) ?_)))
        refine rT_keep h2 (fun Z3 t3 => rT_goN (by omega) hw t3 (fun Z4 t4 c56 => ?_))
        obtain ⟨c5, c6⟩ := c56 (by omega)
        rw [c5, c6]
        refine br_c (fun x => rT_back hN t4 (fun Z5 t5 => ⟨(if_neg x).symm, (t5.I h2).inv⟩)) (fun x => rT_back hN t4 (fun Z5 t5 => ⟨(if_pos (Classical.not_not.mp x)).symm, (t5.I h2).inv⟩))
      rw [c3, c4]
      exact br_c (fun x => ref _ (if_neg x).symm) (fun x => ref _ (if_pos (Classical.not_not.mp x)).symm)
    · refine br_f (fun x => x rfl) ?_
      unfold wX12_runs
      exact r_win_t hb (br_f (by decide) (r_win_f hd (br_f (fun x => x rfl) ⟨rfl, h.inv⟩)))
  · refine br_t rfl ?_
    unfold wX12_runs
    exact r_win_f hb (br_t rfl ⟨rfl, h.inv⟩)
end TK
