/-! THE CLASS: a tick -/
section CG
variable {p : Nat} {S : zP} {Z : zS}
theorem c_load {K : Int32 → zS → Prop} (hp : p < 3) (hN : S.1 ≤ 6) (h : cRel p S Z) (hk : K (pLoad S) Z) : wX3_loadOfAll p Z K := by
  unfold wX3_loadOfAll
  rintro _ rfl _ rfl
  refine pk_loop (σ := Int32) (fun n i x => wX3_loadOfAll_4 p K n x (nI i) Z) (fun i x => x = zsum (fun s => if S.2.2 s 7 = 0 then 0 else S.2.2 s 4) i) S.1 0 0 (Nat.zero_le _) rfl ?_ ?_
  · rintro n x rfl
    show wX3_loadOfAll_4b _ p _ (nI S.1) Z K
    unfold wX3_loadOfAll_4b
    rw [h.1]
    exact br_t (nI_le (Nat.le_refl _) (by omega)) hk
  · rintro n i x hi rfl ih
    show wX3_loadOfAll_4b (fun x1 x2 Z => wX3_loadOfAll_4 p K n x1 x2 Z) p _ (nI i) Z K
    unfold wX3_loadOfAll_4b
    have hin : vp_in (nI i) 6 := vp_in_nI (by omega) (by decide)
    have k : ∀ x, x = zsum (fun s => if S.2.2 s 7 = 0 then 0 else S.2.2 s 4) (i + 1) → wX3_loadOfAll_36 (fun x1 x2 Z => wX3_loadOfAll_4 p K n x1 x2 Z) p x (nI i) Z K := by
      intro x e
      unfold wX3_loadOfAll_36
      rintro _ rfl
      rw [nI_1]
      exact ih x e
    rw [h.1]
    refine br_f (nI_ge hi (by omega)) ⟨hin, ?_⟩
    rw [nI_clamp (by omega), (h.2.2 i hi).f 7 (by decide), (h.2.2 i hi).f 4 (by decide)]
    refine br_c (fun c => k _ ?_) (fun c => ⟨hin, ?_⟩)
    · show _ = _ + (if S.2.2 i 7 = 0 then 0 else S.2.2 i 4)
      rw [if_pos c]; exact (Int32.add_zero _).symm
    · rintro _ rfl
      refine k _ ?_
      show _ = _ + (if S.2.2 i 7 = 0 then 0 else S.2.2 i 4)
      rw [if_neg c]
theorem c_set {s : Nat} {q : zQ} {k : Nat} {x : Int32} (hp : p < 3) (hN : S.1 ≤ 6) (hs : s < S.1) (h : cRel p S Z) (hk : k < 11) (h10 : ¬ k = 10) (e : q = upd (S.2.2 s) k x) : cRel p (pSet S s q) (zU Z (6 * p + s) k x) := by
  have r := h.2.2 s hs
  refine cRel.set hp hN hs h ?_ (sFr.u _ _)
  rw [e]
  refine r.of (fun j hj => ?_) ?_ ?_ ?_ ?_ ?_ ?_
  · simp [zU_ap, upd_ap, r.f, hj]
  · simp [zU_ap, upd_ap, r.h, show ¬ 13 = k by omega]
  · have e10 : upd (S.2.2 s) k x 10 = S.2.2 s 10 := if_neg (by omega)
    rw [e10]
    intro a
    simp [zU_ap, upd_ap, r.2 a, show ¬ 14 = k by omega]
  · funext i; simp [zU_ap]
  · funext i; simp [zU_ap]
  · rw [show upd (S.2.2 s) k x 10 = S.2.2 s 10 from if_neg (by omega)]; exact Nat.le_refl _
  · intro i hi; exact ⟨upd20 (by omega), upd30 (by omega)⟩
theorem c_runChosen {c : Nat} {K : zS → Prop} (hp : p < 3) (hN : S.1 ≤ 6) (hc : c < S.1) (h7 : S.2.2 c 7 = 1) (hw : ∀ s, s < S.1 → wfQ S.2.1 (S.2.2 s)) (h : cRel p S Z) (h3 : Z (54 + p) 3 = nI c) (hk : ∀ Z', cRel p (pRun (nI c) S) Z' → cFr p Z Z' → Z' (54 + p) 3 = nI c → Z' (54 + p) 4 = pRnr (nI c) S → K Z') : wX3_runChosen p Z K := by
  obtain ⟨r, hr, er, hrc⟩ := pRnr_in (S := S) hc hN
  have nc : ¬ S.2.2 c 10 = 0 := fun a => by rcases (hw c hc).idle.mp a with b | b <;> rw [h7] at b <;> exact absurd b (by decide)
  have nr : ¬ S.2.2 r 10 = 0 := by
    rcases hrc with a | a
    · rw [a]; exact nc
    · intro b; rw [b] at a; exact a (Int32.le_refl _)
  have ec : (nI c).toNatClampNeg = c := nI_clamp (by omega)
  have er2 : (nI r).toNatClampNeg = r := nI_clamp (by omega)
  obtain ⟨jc, hjc, ejc⟩ := zin_nI (n := 4) (hw c hc).jobs (by decide)
  obtain ⟨jr, hjr, ejr⟩ := zin_nI (n := 4) (hw r hr).jobs (by decide)
  have jc0 : 0 < jc := Nat.pos_of_ne_zero (fun z => nc (by rw [ejc, z]; rfl))
  have jr0 : 0 < jr := Nat.pos_of_ne_zero (fun z => nr (by rw [ejr, z]; rfl))
  have lk := ((h.2.2 c hc).j 0 (by rw [ejc, nI_clamp (by omega)]; exact jc0)).2
  have k36 : ∀ Z7 : zS, Z7 = zU Z (54 + p) 4 (nI r) → wX3_runChosen_36 p (6 * p + c) (nI r) Z K := by
    rintro Z7 hZ7
    unfold wX3_runChosen_36
    rintro Z7 rfl
    have f7 : cFr p Z (zU Z (54 + p) 4 (nI r)) := cFr.p hp _ _
    have h7' : cRel p S (zU Z (54 + p) 4 (nI r)) := h.pl hp hN (by simp [zU_ap, h.1]) (by simp [zU_ap, h.2.1]) rfl rfl (fun i hi => zU_r hi)
    have g3 : zU Z (54 + p) 4 (nI r) (54 + p) 3 = nI c := by simp [zU_ap, h3]
    have g4 : zU Z (54 + p) 4 (nI r) (54 + p) 4 = nI r := zU_s _ _ _ _
    generalize zU Z (54 + p) 4 (nI r) = Z7 at f7 h7' g3 g4 ⊢
    have wc := hw c hc
    refine c_load hp hN h7' ?_
    refine c_pays (h7'.2.2 c hc) wc.kind ?_
    rintro Z12 hZ12
    rw [(h7'.2.2 c hc).f 5 (by decide)] at hZ12
    have h12 : cRel p (pPay c S) Z12 := by
      rw [hZ12]
      exact c_set hp hN hc h7' (by decide) (by decide) rfl
    have f12 : cFr p Z Z12 := f7.tr (by rw [hZ12]; exact cFr.s hp (by omega) (sFr.u _ _))
    have a3 : Z12 (54 + p) 3 = nI c := by rw [hZ12, zU_i (by omega)]; exact g3
    have a4 : Z12 (54 + p) 4 = nI r := by rw [hZ12, zU_i (by omega)]; exact g4
    clear hZ12
    rw [a4, h12.2.1, er2]
    refine ⟨vp_in_nI (by omega) (by decide), ?_⟩
    have x10 : ∀ z, (pPay c S).2.2 z 10 = S.2.2 z 10 := by
      intro z
      unfold pPay
      rw [pSet_at]
      by_cases b : z = c
      · rw [if_pos b, b]; rfl
      · rw [if_neg b]
    have w10 : wf0 S.2.1 ((pPay c S).2.2 r) := by
      unfold pPay
      rw [pSet_at]
      by_cases b : r = c
      · rw [if_pos b]; exact wc.pay h7 (pLoad S)
      · rw [if_neg b]; exact (hw r hr).1
    refine c_run (h12.2.2 r hr) ((x10 r).trans ejr) jr0 (by omega) w10.late w10.done (w10.job 0 (by rw [x10, ejr, nI_clamp (by omega)]; exact jr0)).1 (fun Z14 r14 s14 => ?_)
    have h14 : cRel p (pWork r (pPay c S)) Z14 := cRel.set hp hN hr h12 r14 s14
    have f14 : cFr p Z Z14 := f12.tr (cFr.s hp (by omega) s14)
    have b3 : Z14 (54 + p) 3 = nI c := by rw [s14 _ (by omega) (by omega) (by omega)]; exact a3
    have b4 : Z14 (54 + p) 4 = nI r := by rw [s14 _ (by omega) (by omega) (by omega)]; exact a4
    have w14 : wf0 S.2.1 ((pWork r (pPay c S)).2.2 c) := by
      unfold pWork
      rw [pSet_at]
      by_cases b : c = r
      · rw [if_pos b]; exact w10.run (by rw [x10]; exact nr)
      · rw [if_neg b]
        unfold pPay
        rw [pSet_at, if_pos rfl]
        exact wc.pay h7 (pLoad S)
    have eR : pRun (nI c) S = pFill c (pWork r (pPay c S)) := by
      unfold pRun
      rw [ec, er, er2]
    rw [eR] at hk
    unfold pFill at hk
    have q14 := h14.2.2 c hc
    rw [q14.f 7 (by decide), q14.f 5 (by decide)]
    refine br_c (fun b => hk Z14 ?_ f14 b3 (b4.trans er.symm)) (fun b => br_c (fun d => hk Z14 ?_ f14 b3 (b4.trans er.symm)) (fun d => ?_))
    · rw [if_neg (fun x => b x.1)]; exact h14
    · rw [if_neg (fun x => Int32.not_le.mpr d x.2)]; exact h14
    · have b := Classical.not_not.mp b
      have d := Int32.not_lt.mp d
      rw [if_pos ⟨b, d⟩] at hk
      have e60 := z60b w14.bud
      have l1 := w14.left.1
      have l2 := w14.left.2
      have b1 := w14.bud.1
      have b2 := w14.bud.2
      refine c_refill q14 w14.kind d ?_ (fun Z' r' s' => hk Z' (cRel.set hp hN hc h14 r' s') (f14.tr (cFr.s hp (by omega) s')) ?_ ?_)
      · refine zlt.mpr ?_
        rw [zadd (by omega) (by omega), e60, zi0]
        omega
      · rw [s' _ (by omega) (by omega) (by omega)]; exact b3
      · rw [s' _ (by omega) (by omega) (by omega), b4]; exact er.symm
  unfold wX3_runChosen
  rw [h3, ec]
  refine ⟨vp_in_nI (by omega) (by decide), ?_⟩
  rintro _ rfl
  have z0 : (0 : Int32).toNatClampNeg = 0 := rfl
  rw [z0, lk]
  refine ⟨vp_in_nI (n := 0) (by decide) (by decide), c_holder hp hN h ?_⟩
  have e : pRnr (nI c) S = if pHold S (S.2.2 c 30) = -4 then nI c else pHold S (S.2.2 c 30) := by
    unfold pRnr
    rw [ec]
  refine br_c (fun a => ?_) (fun a => ?_)
  · have e2 : pHold S (S.2.2 c (30 + 0)) = nI r := by rw [← er, e, if_neg a]
    rw [e2]
    exact k36 _ rfl
  · have e2 : nI c = nI r := by rw [← er, e, if_pos (Classical.not_not.mp a)]
    rw [h3, e2]
    exact k36 _ rfl
theorem c_goOn {T : Nat} {b : Int32} {K : zS → Prop} (hp : p < 3) (hT : T ≤ 20000) (w : wfP T S) (h : cRel p S Z) (hk : ∀ Z', cRel p (pGo b S) Z' → cFr p Z Z' → Z' (54 + p) 3 = pCh b S → Z' (54 + p) 4 = pRn b S → K Z') : wX3_goOn p b Z K := by
  obtain ⟨hN, ht, hw⟩ := w
  have t0 := ht.1
  have t1 := ht.2
  have hb : ∀ s, s < S.1 → wfQ S.2.1 ((pBegin S).2.2 s) := fun s hs => (hw s hs).begin_ t0 (by omega)
  unfold wX3_goOn
  refine c_begin hp hN hw h (fun Z1 h1 f1 => ?_)
  have k40 : ∀ Z8 S', cRel p S' Z8 → S'.1 = S.1 → S'.2.1 = S.2.1 → cFr p Z Z8 → pTick S' = pGo b S → Z8 (54 + p) 3 = pCh b S → Z8 (54 + p) 4 = pRn b S → wX3_goOn_40 p b Z8 K := by
    intro Z8 S' h8 e1 e2 f8 eG c3 c4
    unfold wX3_goOn_40
    rintro Z9 rfl
    refine hk _ ?_ (f8.tr (cFr.p hp _ _)) (by simp [zU_ap, c3]) (by simp [zU_ap, c4])
    rw [← eG]
    exact h8.pl hp (by rw [e1]; exact hN) (by simp [zU_ap, h8.1]) (by simp [zU_ap, h8.2.1, pTick]) rfl rfl (fun i hi => zU_r hi)
  have k18 : ∀ ch, ch = pCh b S → wX3_goOn_18 p b ch Z1 K := by
    intro ch ech
    unfold wX3_goOn_18
    rintro Z5 hZ5 Z6 hZ6
    have h6 : cRel p (pBegin S) Z6 := cRel.pl (S := pBegin S) hp hN h1 (by rw [hZ6, hZ5]; simp [zU_ap, h1.1]) (by rw [hZ6, hZ5]; simp [zU_ap, h1.2.1]) rfl rfl (fun i hi => by rw [hZ6, hZ5, zU_r hi, zU_r hi])
    have f6 : cFr p Z Z6 := f1.tr (by rw [hZ6, hZ5]; exact (cFr.p hp _ _).tr (cFr.p hp _ _))
    have a3 : Z6 (54 + p) 3 = ch := by rw [hZ6, hZ5]; simp [zU_ap]
    have a4 : Z6 (54 + p) 4 = -4 := by rw [hZ6]; exact zU_s _ _ _ _
    rw [a3]
    refine br_c (fun c => ?_) (fun c => ?_)
    · refine k40 Z6 (pBegin S) h6 rfl rfl f6 ?_ (a3.trans ech) ?_
      · unfold pGo; rw [if_pos (ech.symm.trans c)]
      · unfold pRn; rw [if_pos (ech.symm.trans c)]; exact a4
    · rw [ech] at c a3
      obtain ⟨m, hm, em, h7⟩ := pCh_in c
      refine c_runChosen (S := pBegin S) hp hN hm h7 hb h6 (a3.trans em) (fun Z8 h8 f8 b3 b4 => ?_)
      refine k40 Z8 _ h8 (pRun_1 _).1 (pRun_1 _).2 (f6.tr f8) ?_ (b3.trans em.symm) ?_
      · unfold pGo; rw [if_neg c, em]
      · unfold pRn; rw [if_neg c, em]; exact b4
  refine br_c (fun c => ?_) (fun c => ?_)
  · refine c_earliest (S := pBegin S) hp hN h1 (k18 _ ?_)
    unfold pCh; rw [if_pos c]; rfl
  · refine k18 _ ?_
    unfold pCh; rw [if_neg c]
theorem c_goOnFor {T n : Nat} {K : zS → Prop} (hp : p < 3) (hT : T + n ≤ 20000) (w : wfP T S) (h : cRel p S Z) (hk : ∀ Z', cRel p (pGoN n S) Z' → cFr p Z Z' → (0 < n → Z' (54 + p) 3 = pCh 0 (pGoN (n - 1) S) ∧ Z' (54 + p) 4 = pRn 0 (pGoN (n - 1) S)) → K Z') : wX3_goOnFor p (nI n) Z K := by
  unfold wX3_goOnFor
  rintro _ rfl
  refine pk_loop (σ := zS) (fun m i Y => wX3_goOnFor_2 p (nI n) K m (nI i) Y) (fun i Y => cRel p (pGoN i S) Y ∧ cFr p Z Y ∧ (0 < i → Y (54 + p) 3 = pCh 0 (pGoN (i - 1) S) ∧ Y (54 + p) 4 = pRn 0 (pGoN (i - 1) S))) n 0 Z (Nat.zero_le _) ⟨h, cFr.rf, fun a => absurd a (Nat.lt_irrefl _)⟩ ?_ ?_
  · rintro m Y ⟨y, f, e⟩
    show wX3_goOnFor_2b _ p (nI n) (nI n) Y K
    unfold wX3_goOnFor_2b
    exact br_t (Int32.le_refl _) (hk Y y f e)
  · rintro m i Y hi ⟨y, f, e⟩ ih
    show wX3_goOnFor_2b (fun x2 Z => wX3_goOnFor_2 p (nI n) K m x2 Z) p (nI n) (nI i) Y K
    unfold wX3_goOnFor_2b
    refine br_f (nI_ge hi (by omega)) ?_
    refine c_goOn hp (by omega) (w.goN i (by omega)) y (fun Z' y' f' c3 c4 => ?_)
    rintro _ rfl
    rw [nI_1]
    exact ih Z' ⟨y', f.tr f', fun _ => ⟨c3, c4⟩⟩
end CG
