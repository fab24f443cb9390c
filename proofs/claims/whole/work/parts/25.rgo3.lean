/-! THE REFERENCE: ticks -/
section RI
variable {Z Z' : zS} {S S' : zP}
theorem pHold_3 {l : Int32} (hl : zin l 0 3) : (3 ≤ l → pHold S l = -4) ∧ (¬ 3 ≤ l → pHold S l = pHol S.2.2 l S.1) := by
  refine ⟨fun a => if_pos ((lock3 hl).mp a), fun a => if_neg (fun b => a ((lock3 hl).mpr b))⟩
theorem r_goesBy {T : Nat} {b : Int32} {K : zS → Prop} (hT : T ≤ 20000) (w : wfP T S) (h : rRel S Z) (hk : ∀ Z', rRel (pGo b S) Z' → gFr Z Z' → Z' 97 5 = pCh b S → Z' 97 6 = pRn b S → K Z') : wX12_goesBy b Z K := by
  obtain ⟨hN, ht, hw⟩ := w
  have t0 := ht.1
  have t1 := ht.2
  have hb : ∀ s, s < S.1 → wfQ S.2.1 ((pBegin S).2.2 s) := fun s hs => (hw s hs).begin_ t0 (by omega)
  unfold wX12_goesBy
  refine r_begins hN t0 (by omega) hw h (fun Z1 h1 f1 => ?_)
  have k259 : ∀ Z8 S', rRel S' Z8 → S'.1 = S.1 → S'.2.1 = S.2.1 → gFr Z Z8 → pTick S' = pGo b S → Z8 97 5 = pCh b S → Z8 97 6 = pRn b S → wX12_goesBy_259 b Z8 K := by
    intro Z8 S' h8 e1 e2 f8 eG c3 c4
    unfold wX12_goesBy_259
    rintro Z9 rfl
    refine hk _ ?_ (f8.tr (gFr.c _ _ (by simp))) (by rw [zU_k (by decide)]; exact c3) (by rw [zU_k (by decide)]; exact c4)
    rw [← eG]
    refine h8.pl ?_ ?_ rfl rfl (fun i hi => zU_r hi)
    · rw [zU_k (by decide)]; exact h8.1
    · rw [zU_s, h8.2.1]; rfl
  have k18 : ∀ ch, ch = pCh b S → wX12_goesBy_18 b ch Z1 K := by
    intro ch ech
    unfold wX12_goesBy_18
    rintro Z5 hZ5 Z6 hZ6
    have a5' : Z5 97 5 = ch := by rw [hZ5, zU_s]
    have a5 : Z6 97 5 = ch := by rw [hZ6, zU_k (by decide)]; exact a5'
    have a6 : Z6 97 6 = ch := by rw [hZ6, zU_s]; exact a5'
    have h6 : rRel (pBegin S) Z6 := rRel.pl (S := pBegin S) h1 (by rw [hZ6, hZ5, zU_k (by decide), zU_k (by decide)]; exact h1.1) (by rw [hZ6, hZ5, zU_k (by decide), zU_k (by decide)]; exact h1.2.1) rfl rfl (fun i hi => by rw [hZ6, hZ5, zU_r hi, zU_r hi])
    have f6 : gFr Z Z6 := f1.tr (by rw [hZ6, hZ5]; exact (gFr.c _ _ (by simp)).tr (gFr.c _ _ (by simp)))
    clear hZ5 hZ6 a5'
    rw [a5]
    refine br_c (fun c => ?_) (fun c => ?_)
    · refine k259 Z6 (pBegin S) h6 rfl rfl f6 ?_ (a5.trans ech) ?_
      · unfold pGo; rw [if_pos (ech.symm.trans c)]
      · unfold pRn; rw [if_pos (ech.symm.trans c)]; exact a6.trans c
    · rw [ech] at c a5 a6
      obtain ⟨m, hm, em, h7⟩ := pCh_in c
      have nc : ¬ (pBegin S).2.2 m 10 = 0 := fun a => by rcases (hb m hm).idle.mp a with b | b <;> rw [h7] at b <;> exact absurd b (by decide)
      obtain ⟨j, hj, ej⟩ := zin_nI (n := 4) (hb m hm).jobs (by decide)
      have j0 : 0 < j := Nat.pos_of_ne_zero (fun z => nc (by rw [ej, z]; rfl))
      have hj0 : 0 < ((pBegin S).2.2 m 10).toNatClampNeg := by rw [ej, nI_clamp (by omega)]; exact j0
      have hl : zin ((pBegin S).2.2 m 30) 0 3 := ((hb m hm).job 0 hj0).2
      have el : Z6 100 (4 * m) = (pBegin S).2.2 m 30 := ((h6.2.2 m hm).2.2.2.2.2.2.2.2.2.2.2.2 0 (by decide) hj0).2
      have hp3 := pHold_3 (S := pBegin S) hl
      have ec : (nI m).toNatClampNeg = m := nI_clamp (by omega)
      have eR : pRnr (nI m) (pBegin S) = if pHold (pBegin S) ((pBegin S).2.2 m 30) = -4 then nI m else pHold (pBegin S) ((pBegin S).2.2 m 30) := by
        unfold pRnr
        rw [ec]
      have k65 : ∀ o, o = pHold (pBegin S) ((pBegin S).2.2 m 30) → wX12_goesBy_65 b o Z6 K := by
        intro o eo
        have fin : ∀ Y, rRel (pBegin S) Y → gFr Z Y → Y 97 5 = nI m → Y 97 6 = pRnr (nI m) (pBegin S) → wX12_goesBy_77 b Y K := by
          intro Y hY fY y5 y6
          refine r_goesRun (S := pBegin S) hN hm h7 hb hY y5 y6 (fun Z' h' f' c5 c6 => ?_)
          refine k259 Z' _ h' (pRun_1 _).1 (pRun_1 _).2 (fY.tr f') ?_ (c5.trans em.symm) ?_
          · unfold pGo; rw [if_neg c, em]
          · unfold pRn; rw [if_neg c, em]; exact c6
        unfold wX12_goesBy_65
        refine br_c (fun d => fin Z6 h6 f6 (a5.trans em) ?_) (fun d => ?_)
        · rw [eR, if_pos (eo.symm.trans d)]; exact a6.trans em
        · rintro Z14 hZ14
          refine fin Z14 ?_ (f6.tr (by rw [hZ14]; exact gFr.c _ _ (by simp))) (by rw [hZ14, zU_k (by decide)]; exact a5.trans em) ?_
          · exact rRel.pl (S := pBegin S) h6 (by rw [hZ14, zU_k (by decide)]; exact h6.1) (by rw [hZ14, zU_k (by decide)]; exact h6.2.1) rfl rfl (fun i hi => by rw [hZ14, zU_r hi])
          · rw [hZ14, zU_s, eR, if_neg (fun x => d (eo.trans x)), eo]
      rw [ech, em]
      have hm6 : m < 6 := Nat.lt_of_lt_of_le hm hN
      simp (disch := omega) only [zlit_mul, nI_clamp, vp_in_nI, true_and]
      rintro _ rfl
      rw [el]
      refine br_c (fun d => k65 _ (hp3.1 d).symm) (fun d => ?_)
      exact r_holder (S := pBegin S) hN h6 (fun s hs => (hb s hs).hold) (k65 _ (hp3.2 d).symm)
  refine br_c (fun c => ?_) (fun c => ?_)
  · refine r_earliest (S := pBegin S) hN h1 (k18 _ ?_)
    unfold pCh; rw [if_pos c]; rfl
  · refine k18 _ ?_
    unfold pCh; rw [if_neg c]
theorem r_goes {T : Nat} {K : zS → Prop} (hT : T ≤ 20000) (w : wfP T S) (h : rRel S Z) (hk : ∀ Z', rRel (pGo 0 S) Z' → gFr Z Z' → Z' 97 5 = pCh 0 S → Z' 97 6 = pRn 0 S → K Z') : wX12_goes Z K := by
  unfold wX12_goes
  exact r_goesBy hT w h hk
theorem r_goesOn {T n : Nat} {K : zS → Prop} (hT : T + n ≤ 20000) (w : wfP T S) (h : rRel S Z) (hk : ∀ Z', rRel (pGoN n S) Z' → gFr Z Z' → (0 < n → Z' 97 5 = pCh 0 (pGoN (n - 1) S) ∧ Z' 97 6 = pRn 0 (pGoN (n - 1) S)) → K Z') : wX12_goesOn (nI n) Z K := by
  unfold wX12_goesOn
  rintro _ rfl
  refine pk_loop (σ := zS) (fun m i Y => wX12_goesOn_2 (nI n) K m (nI i) Y) (fun i Y => rRel (pGoN i S) Y ∧ gFr Z Y ∧ (0 < i → Y 97 5 = pCh 0 (pGoN (i - 1) S) ∧ Y 97 6 = pRn 0 (pGoN (i - 1) S))) n 0 Z (Nat.zero_le _) ⟨h, gFr.rf, fun a => absurd a (Nat.lt_irrefl _)⟩ ?_ ?_
  · rintro m Y ⟨y, f, e⟩
    show wX12_goesOn_2b _ (nI n) (nI n) Y K
    unfold wX12_goesOn_2b
    exact br_t (Int32.le_refl _) (hk Y y f e)
  · rintro m i Y hi ⟨y, f, e⟩ ih
    show wX12_goesOn_2b (fun x2 Z => wX12_goesOn_2 (nI n) K m x2 Z) (nI n) (nI i) Y K
    unfold wX12_goesOn_2b
    refine br_f (nI_ge hi (by omega)) ?_
    refine r_goes (by omega) (w.goN i (by omega)) y (fun Z' y' f' c3 c4 => ?_)
    rintro _ rfl
    rw [nI_1]
    exact ih Z' ⟨y', f.tr f', fun _ => ⟨c3, c4⟩⟩
end RI
