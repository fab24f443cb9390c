/-! THE REFERENCE: a tick goes on -/
section RH
variable {s : Nat} {q : zQ} {Z Z' : zS} {t : Int32} {S S' : zP}
theorem lock3 {x : Int32} (h : zin x 0 3) : 3 ≤ x ↔ x = 3 := by
  refine ⟨fun a => ?_, fun a => by rw [a]; exact Int32.le_refl _⟩
  have a : (3 : Int) ≤ x.toInt := zle.mp a
  have := h.2
  refine Int32.toInt_inj.mp ?_
  show x.toInt = 3
  omega
/-- one written field of the live array -/
theorem rAt.u {k m : Nat} {x : Int32} (hs : s < 6) (h : rAt s q Z) (hk : (k, m) ∈ [(5, 24), (8, 48), (13, 66)]) : rAt s (upd q k x) (zU Z 98 (m + s) x) := by
  obtain ⟨e0, e1, e2, e3, e5, e6, e7, e10, e8, e9, e13, e14, ej⟩ := h
  simp only [List.mem_cons, Prod.mk.injEq, List.not_mem_nil, or_false] at hk
  rcases hk with ⟨rfl, rfl⟩ | ⟨rfl, rfl⟩ | ⟨rfl, rfl⟩
  all_goals
    refine ⟨?_, ?_, ?_, ?_, ?_, ?_, ?_, ?_, ?_, ?_, ?_, ?_, ?_⟩
    case refine_12 => intro a; simpa [zU_ap, upd_ap] using e14 (by simpa [upd_ap] using a)
    case refine_13 => intro i h4 hi; simpa [zU_ap, upd20, upd30] using ej i h4 (by simpa [upd_ap] using hi)
    all_goals simp [zU_ap, upd_ap, e0, e1, e2, e3, e5, e6, e7, e10, e8, e9, e13]
theorem rAt.w {x : Int32} (h : rAt s q Z) : rAt s (upd q 20 x) (zU Z 99 (4 * s) x) := by
  obtain ⟨e0, e1, e2, e3, e5, e6, e7, e10, e8, e9, e13, e14, ej⟩ := h
  refine ⟨?_, ?_, ?_, ?_, ?_, ?_, ?_, ?_, ?_, ?_, ?_, ?_, fun i h4 hi => ?_⟩
  case refine_12 => intro a; simpa [zU_ap, upd_ap] using e14 (by simpa [upd_ap] using a)
  case refine_13 =>
    have e := ej i h4 (by simpa [upd_ap] using hi)
    by_cases i0 : i = 0
    · subst i0
      simp [zU_ap, upd_ap]
      exact e.2
    · simp [zU_ap, upd_ap, i0, e, show ¬ 20 + i = 20 by omega, show ¬ 30 + i = 20 by omega]
  all_goals simp [zU_ap, upd_ap, e0, e1, e2, e3, e5, e6, e7, e10, e8, e9, e13]
theorem r_min (x : Int32) : (if x + 1 < 999 then x + 1 else 999) = qMore x := rfl
theorem r_goesRun {c : Nat} {b : Int32} {K : zS → Prop} (hN : S.1 ≤ 6) (hc : c < S.1) (h7 : S.2.2 c 7 = 1) (hw : ∀ s, s < S.1 → wfQ S.2.1 (S.2.2 s)) (h : rRel S Z) (h5 : Z 97 5 = nI c) (h6 : Z 97 6 = pRnr (nI c) S) (hk : ∀ Z', rRel (pRun (nI c) S) Z' → gFr Z Z' → Z' 97 5 = nI c → Z' 97 6 = pRnr (nI c) S → wX12_goesBy_259 b Z' K) : wX12_goesBy_77 b Z K := by
  obtain ⟨r, hr, er, hrc⟩ := pRnr_in (S := S) hc hN
  have nc : ¬ S.2.2 c 10 = 0 := fun a => by rcases (hw c hc).idle.mp a with b | b <;> rw [h7] at b <;> exact absurd b (by decide)
  have nr : ¬ S.2.2 r 10 = 0 := by
    rcases hrc with a | a
    · rw [a]; exact nc
    · intro b; rw [b] at a; exact a (Int32.le_refl _)
  have ec : (nI c).toNatClampNeg = c := nI_clamp (by omega)
  have er2 : (nI r).toNatClampNeg = r := nI_clamp (by omega)
  obtain ⟨jr, hjr, ejr⟩ := zin_nI (n := 4) (hw r hr).jobs (by decide)
  have jr0 : 0 < jr := Nat.pos_of_ne_zero (fun z => nr (by rw [ejr, z]; rfl))
  have hj0 : 0 < (S.2.2 r 10).toNatClampNeg := by rw [ejr, nI_clamp (by omega)]; exact jr0
  have wr := hw r hr
  have wc := hw c hc
  have l3 := lock3 (wr.job 0 hj0).2
  have rr := h.2.2 r hr
  have rj := rr.2.2.2.2.2.2.2.2.2.2.2.2 0 (by decide) hj0
  have ew : Z 99 (4 * r) = S.2.2 r 20 := rj.1
  have el : Z 100 (4 * r) = S.2.2 r 30 := rj.2
  rw [er] at h6
  -- the work, the hold
  unfold wX12_goesBy_77
  simp (disch := omega) only [h6, zlit_mul, nI_clamp, vp_in_nI, true_and]
  rintro Z17 hZ17
  have g6 : Z17 97 6 = nI r := by rw [hZ17, zU_r (by decide)]; exact h6
  have gl : Z17 100 (4 * r) = S.2.2 r 30 := by rw [hZ17, zU_r (by decide)]; exact el
  have k123 : ∀ x, x = (if S.2.2 r 30 = 3 then 0 else 1) → wX12_goesBy_123 b x (nI (66 + r)) Z17 K := by
    intro x ex
    unfold wX12_goesBy_123
    simp (disch := omega) only [nI_clamp, vp_in_nI, true_and]
    rintro Z21 hZ21
    have r21 : rAt r (upd (upd (S.2.2 r) 20 (S.2.2 r 20 - 1)) 13 x) Z21 := by
      rw [hZ21, hZ17, ew]
      exact rAt.u (by omega) (rAt.w rr) (by simp)
    have f21 : rFr r Z Z21 := by rw [hZ21, hZ17]; exact (rFr.w _ _ (by omega)).tr (rFr.u _ _ (by omega))
    have h21 := h.set hN hr r21 f21
    have a5 : Z21 97 5 = nI c := by rw [f21.1 97 (by decide) (by decide) (by decide)]; exact h5
    have a6 : Z21 97 6 = nI r := by rw [f21.1 97 (by decide) (by decide) (by decide)]; exact h6
    clear hZ21 hZ17
    -- what is paid: nothing of it was touched
    have at1 : ∀ z k, k < 20 → ¬ k = 13 → (pSet S r (upd (upd (S.2.2 r) 20 (S.2.2 r 20 - 1)) 13 x)).2.2 z k = S.2.2 z k := by
      intro z k h20 h13
      rw [pSet_at]
      by_cases a : z = r
      · rw [if_pos a, a, upd_ap, if_neg h13, upd_ap, if_neg (by omega)]
      · rw [if_neg a]
    have eL : pLoad (pSet S r (upd (upd (S.2.2 r) 20 (S.2.2 r 20 - 1)) 13 x)) = pLoad S := by
      have : (fun s => if (pSet S r (upd (upd (S.2.2 r) 20 (S.2.2 r 20 - 1)) 13 x)).2.2 s 7 = 0 then (0 : Int32) else (pSet S r (upd (upd (S.2.2 r) 20 (S.2.2 r 20 - 1)) 13 x)).2.2 s 4) = (fun s => if S.2.2 s 7 = 0 then (0 : Int32) else S.2.2 s 4) := by
        funext z
        rw [at1 z 7 (by decide) (by decide), at1 z 4 (by decide) (by decide)]
      unfold pLoad
      rw [this]
      rfl
    have eP : qPays (pLoad S) ((pSet S r (upd (upd (S.2.2 r) 20 (S.2.2 r 20 - 1)) 13 x)).2.2 c) = qPays (pLoad S) (S.2.2 c) := by
      unfold qPays qGreedy qMax
      rw [at1 c 0 (by decide) (by decide), at1 c 1 (by decide) (by decide), at1 c 4 (by decide) (by decide)]
    have wS : ∀ z, z < S.1 → wfS ((pSet S r (upd (upd (S.2.2 r) 20 (S.2.2 r 20 - 1)) 13 x)).2.2 z) := by
      intro z hz
      have := (hw z hz).1.sh
      unfold wfS at this ⊢
      rw [at1 z 2 (by decide) (by decide), at1 z 3 (by decide) (by decide), at1 z 4 (by decide) (by decide)]
      exact this
    have e24 : Z21 98 (24 + c) = S.2.2 c 5 := by
      have := (h21.2.2 c hc).2.2.2.2.1
      rw [at1 c 5 (by decide) (by decide)] at this
      exact this
    rw [a5]
    simp (disch := omega) only [zlit_add, nI_clamp, vp_in_nI, true_and]
    refine r_pays (S := pSet S r (upd (upd (S.2.2 r) 20 (S.2.2 r 20 - 1)) 13 x)) hN hc h21 wS (by rw [at1 c 0 (by decide) (by decide)]; exact wc.kind) ?_
    rw [eL, eP, e24]
    rintro Z26 hZ26
    have r26 : rAt c (upd ((pSet S r (upd (upd (S.2.2 r) 20 (S.2.2 r 20 - 1)) 13 x)).2.2 c) 5 (S.2.2 c 5 - qPays (pLoad S) (S.2.2 c))) Z26 := by
      rw [hZ26]
      exact rAt.u (by omega) (h21.2.2 c hc) (by simp)
    have f26 : rFr c Z21 Z26 := by rw [hZ26]; exact rFr.u _ _ (by omega)
    have h26 := rRel.set (S := pSet S r (upd (upd (S.2.2 r) 20 (S.2.2 r 20 - 1)) 13 x)) hN hc h21 r26 f26
    have b5 : Z26 97 5 = nI c := by rw [f26.1 97 (by decide) (by decide) (by decide)]; exact a5
    have b6 : Z26 97 6 = nI r := by rw [f26.1 97 (by decide) (by decide) (by decide)]; exact a6
    have b0 : Z26 97 0 = S.2.1 := h26.2.1
    have gf26 : gFr Z Z26 := (gFr.s f21).tr (gFr.s f26)
    clear hZ26
    -- the runner now, but for LATE
    have at2 : ∀ k, ¬ k = 5 → ¬ k = 13 → ¬ k = 20 → (pSet (pSet S r (upd (upd (S.2.2 r) 20 (S.2.2 r 20 - 1)) 13 x)) c (upd ((pSet S r (upd (upd (S.2.2 r) 20 (S.2.2 r 20 - 1)) 13 x)).2.2 c) 5 (S.2.2 c 5 - qPays (pLoad S) (S.2.2 c)))).2.2 r k = S.2.2 r k := by
      intro k h5 h13 h20
      rw [pSet_at]
      by_cases a : r = c
      · rw [if_pos a, upd_ap, if_neg h5, pSet_at, if_pos a.symm, upd_ap, if_neg h13, upd_ap, if_neg h20]
      · rw [if_neg a, pSet_at, if_pos rfl, upd_ap, if_neg h13, upd_ap, if_neg h20]
    have e60 : Z26 98 (60 + r) = S.2.2 r 14 := by
      have := (h26.2.2 r hr).2.2.2.2.2.2.2.2.2.2.2.1
      rw [at2 10 (by decide) (by decide) (by decide), at2 14 (by decide) (by decide) (by decide)] at this
      exact this nr
    have e48 : Z26 98 (48 + r) = S.2.2 r 8 := by
      have := (h26.2.2 r hr).2.2.2.2.2.2.2.2.1
      rw [at2 8 (by decide) (by decide) (by decide)] at this
      exact this
    -- both orders make one
    have eS : ∀ z, z < S.1 → (pSet (pPay c S) r (qRun1 S.2.1 ((pPay c S).2.2 r))).2.2 z = (pSet (pSet (pSet S r (upd (upd (S.2.2 r) 20 (S.2.2 r 20 - 1)) 13 x)) c (upd ((pSet S r (upd (upd (S.2.2 r) 20 (S.2.2 r 20 - 1)) 13 x)).2.2 c) 5 (S.2.2 c 5 - qPays (pLoad S) (S.2.2 c)))) r (upd ((pSet (pSet S r (upd (upd (S.2.2 r) 20 (S.2.2 r 20 - 1)) 13 x)) c (upd ((pSet S r (upd (upd (S.2.2 r) 20 (S.2.2 r 20 - 1)) 13 x)).2.2 c) 5 (S.2.2 c 5 - qPays (pLoad S) (S.2.2 c)))).2.2 r) 8 (if S.2.1 < S.2.2 r 14 then S.2.2 r 8 else qMore (S.2.2 r 8)))).2.2 z := by
      intro z hz
      unfold pPay
      simp only [pSet_at]
      by_cases a : z = r
      · rw [if_pos a, if_pos a]
        by_cases d : r = c
        · subst d
          simp only [if_true, qRun1]
          funext k
          simp only [upd_ap]
          by_cases k8 : k = 8
          · simp [k8]
          · by_cases k13 : k = 13
            · simp [k13, ex]
            · by_cases k20 : k = 20
              · simp [k20]
              · simp [k8, k13, k20]
        · rw [if_neg d, if_neg d]
          simp only [if_true, qRun1]
          funext k
          simp only [upd_ap]
          by_cases k8 : k = 8
          · simp [k8]
          · by_cases k13 : k = 13
            · simp [k13, ex]
            · by_cases k20 : k = 20
              · simp [k20]
              · simp [k8, k13, k20]
      · rw [if_neg a, if_neg a]
        by_cases d : z = c
        · have e : ¬ c = r := fun e => a (d.trans e)
          rw [if_pos d, if_pos d, if_neg e]
        · rw [if_neg d, if_neg d, if_neg a]
    have k198 : ∀ Y, rRel (pSet (pPay c S) r (qRun1 S.2.1 ((pPay c S).2.2 r))) Y → gFr Z Y → Y 97 5 = nI c → Y 97 6 = nI r → wX12_goesBy_198 b Y K := by
      intro Y hY fY y5 y6
      have x10 : ∀ z, (pPay c S).2.2 z 10 = S.2.2 z 10 := by
        intro z
        unfold pPay
        rw [pSet_at]
        by_cases b : z = c
        · rw [if_pos b, b]; rfl
        · rw [if_neg b]
      have x20 : ∀ z k, 20 ≤ k → (pPay c S).2.2 z k = S.2.2 z k := by
        intro z k hk
        unfold pPay
        rw [pSet_at]
        by_cases b : z = c
        · rw [if_pos b, b, upd_ap, if_neg (by omega)]
        · rw [if_neg b]
      have w10 : wf0 S.2.1 ((pPay c S).2.2 r) := by
        unfold pPay
        rw [pSet_at]
        by_cases b : r = c
        · rw [if_pos b]; exact wc.pay h7 (pLoad S)
        · rw [if_neg b]; exact (hw r hr).1
      have k220 : ∀ Y, rRel (pWork r (pPay c S)) Y → gFr Z Y → Y 97 5 = nI c → Y 97 6 = nI r → wX12_goesBy_220 b Y K := by
        intro Y hY fY y5 y6
        have w14 : wf0 S.2.1 ((pWork r (pPay c S)).2.2 c) := by
          unfold pWork
          rw [pSet_at]
          by_cases b : c = r
          · rw [if_pos b]; exact w10.run (by rw [x10]; exact nr)
          · rw [if_neg b]
            unfold pPay
            rw [pSet_at, if_pos rfl]
            exact wc.pay h7 (pLoad S)
        have eR : pRun (nI c) S = pFill c (pWork r (pPay c S)) := by
          unfold pRun
          rw [ec, er, er2]
        rw [eR, er] at hk
        unfold pFill at hk
        have yc := hY.2.2 c hc
        have y36 : Y 98 (36 + c) = (pWork r (pPay c S)).2.2 c 7 := yc.2.2.2.2.2.2.1
        have y24 : Y 98 (24 + c) = (pWork r (pPay c S)).2.2 c 5 := yc.2.2.2.2.1
        unfold wX12_goesBy_220
        simp (disch := omega) only [y5, zlit_add, nI_clamp, vp_in_nI, true_and]
        rw [y36, y24]
        refine br_c (fun b => hk Y ?_ fY y5 y6) (fun b => br_c (fun d => hk Y ?_ fY y5 y6) (fun d => ?_))
        · rw [if_neg (fun x => b x.1)]; exact hY
        · rw [if_neg (fun x => Int32.not_le.mpr d x.2)]; exact hY
        · have b := Classical.not_not.mp b
          have d := Int32.not_lt.mp d
          rw [if_pos ⟨b, d⟩] at hk
          have e60 := z60b w14.bud
          have l1 := w14.left.1
          have l2 := w14.left.2
          have b1 := w14.bud.1
          have b2 := w14.bud.2
          refine r_refills (by omega) yc d ?_ (fun Z' r' s' => hk Z' (hY.set hN hc r' s') (fY.tr (gFr.s s')) ?_ ?_)
          · refine zlt.mpr ?_
            rw [zadd (by omega) (by omega), e60, zi0]
            omega
          · rw [s'.1 97 (by decide) (by decide) (by decide)]; exact y5
          · rw [s'.1 97 (by decide) (by decide) (by decide)]; exact y6
      have yr := hY.2.2 r hr
      rw [pSet_at, if_pos rfl] at yr
      have q10 : qRun1 S.2.1 ((pPay c S).2.2 r) 10 = nI jr := by
        have : qRun1 S.2.1 ((pPay c S).2.2 r) 10 = (pPay c S).2.2 r 10 := by simp [qRun1, upd_ap]
        rw [this, x10, ejr]
      have q20 : qRun1 S.2.1 ((pPay c S).2.2 r) 20 = (pPay c S).2.2 r 20 - 1 := by simp [qRun1, upd_ap]
      have yw : Y 99 (4 * r) = (pPay c S).2.2 r 20 - 1 := by
        have := (yr.2.2.2.2.2.2.2.2.2.2.2.2 0 (by decide) (by rw [q10, nI_clamp (by omega)]; exact jr0)).1
        rw [← q20]
        exact this
      unfold wX12_goesBy_198
      simp (disch := omega) only [y6, zlit_mul, nI_clamp, vp_in_nI, true_and]
      rw [yw]
      refine br_c (fun d => k220 Y (hY.cg rfl rfl (fun z hz => ?_)) fY y5 y6) (fun d => ?_)
      · unfold pWork
        rw [pSet_at, pSet_at]
        by_cases a : z = r
        · rw [if_pos a, if_pos a]; unfold qRun; exact if_neg d
        · rw [if_neg a, if_neg a]
      · have d := Classical.not_not.mp d
        refine r_ends (by omega) yr q10 jr0 (by omega) (fun Z' r' f' => ?_)
        refine k220 Z' ((rRel.set (S := pSet (pPay c S) r (qRun1 S.2.1 ((pPay c S).2.2 r))) hN hr hY r' f').cg rfl rfl (fun z hz => ?_)) (fY.tr (gFr.s f')) ?_ ?_
        · unfold pWork
          rw [pSet_at, pSet_at]
          by_cases a : z = r
          · rw [if_pos a, if_pos a]; unfold qRun; exact if_pos d
          · rw [if_neg a, if_neg a, pSet_at, if_neg a]
        · rw [f'.1 97 (by decide) (by decide) (by decide)]; exact y5
        · rw [f'.1 97 (by decide) (by decide) (by decide)]; exact y6
    simp (disch := omega) only [b6, zlit_add, nI_clamp, vp_in_nI, true_and]
    rw [b0, e60, e48, r_min]
    refine br_c (fun d => k198 Z26 ?_ gf26 b5 b6) (fun d => ?_)
    · refine rRel.cg h26 rfl rfl (fun z hz => ?_)
      rw [eS z hz, if_pos d]
      rw [pSet_at]
      by_cases a : z = r
      · rw [if_pos a, a]
        funext k
        rw [upd_ap]
        by_cases k8 : k = 8
        · rw [if_pos k8, k8, at2 8 (by decide) (by decide) (by decide)]
        · rw [if_neg k8]
      · rw [if_neg a]
    · rintro Z31 rfl
      refine k198 _ ?_ (gf26.tr (gFr.s (rFr.u (s := r) _ _ (by omega)))) (by rw [zU_r (by decide)]; exact b5) (by rw [zU_r (by decide)]; exact b6)
      have h31 := rRel.set (S := pSet (pSet S r (upd (upd (S.2.2 r) 20 (S.2.2 r 20 - 1)) 13 x)) c (upd ((pSet S r (upd (upd (S.2.2 r) 20 (S.2.2 r 20 - 1)) 13 x)).2.2 c) 5 (S.2.2 c 5 - qPays (pLoad S) (S.2.2 c)))) (Z' := zU Z26 98 (48 + r) (qMore (S.2.2 r 8))) hN hr h26 (rAt.u (k := 8) (m := 48) (by omega) (h26.2.2 r hr) (by simp)) (rFr.u _ _ (by omega))
      refine rRel.cg h31 rfl rfl (fun z hz => ?_)
      rw [eS z hz, if_neg d]
  simp (disch := omega) only [g6, zlit_add, zlit_mul, nI_clamp, vp_in_nI, true_and]
  rw [gl]
  exact br_c (fun a => k123 0 (if_pos (l3.mp a)).symm) (fun a => k123 1 (if_neg (fun x => a (l3.mpr x))).symm)
end RH
