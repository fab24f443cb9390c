/-! FACE: count, image, restore -/
section N4
variable {S Q : zP} {Z Z' : zS} {K : Int32 → zS → Prop}
theorem r_ready {a : Int32} (hN : S.1 ≤ 6) (h : rRel S Z) (hk : K (pReady S S.1) Z) : ∀ y9 : Int32, y9 = 0 → ∃ n69 : Nat, wX12_count_69 a K n69 0 y9 Z := by
  rintro _ rfl
  refine pk_loop (σ := Int32) (fun n i x => wX12_count_69 a K n x (nI i) Z) (fun i x => x = pReady S i) S.1 0 0 (Nat.zero_le _) rfl ?_ ?_
  · rintro n x rfl
    show wX12_count_69b _ a _ (nI S.1) Z K
    unfold wX12_count_69b
    rw [h.1]
    exact br_t (Int32.le_refl _) hk
  · rintro n i x hi rfl ih
    show wX12_count_69b (fun x2 x3 Z => wX12_count_69 a K n x2 x3 Z) a _ (nI i) Z K
    unfold wX12_count_69b
    have k : ∀ x, x = pReady S (i + 1) → wX12_count_96 (fun x2 x3 Z => wX12_count_69 a K n x2 x3 Z) a x (nI i) Z K := by
      intro x e
      unfold wX12_count_96
      rintro _ rfl
      rw [nI_1]
      exact ih x e
    have hi6 : i < 6 := Nat.lt_of_lt_of_le hi hN
    obtain ⟨e0, e1, e2, e3, e5, e6, e7, -⟩ := id (h.2.2 i hi)
    rw [h.1]
    refine br_f (nI_ge hi (by omega)) ?_
    simp (disch := omega) only [zlit_add, nI_clamp, vp_in_nI, true_and]
    rw [e7]
    refine br_c (fun c => k _ (if_neg c).symm) (fun c => ?_)
    rintro _ rfl
    exact k _ (if_pos (Classical.not_not.mp c)).symm
theorem m_count {a1 : Int32} (h : zI S Q Z) : wX11_count a1 Z (fun r Z1 => wX12_count a1 Z1 (zD r)) := by
  obtain ⟨hw, hc, hr, -⟩ := id h
  have hN := hw.1
  have hH : ∀ l : Int32, ¬ l = 3 → pHold S l = pHol S.2.2 l S.1 := fun l hl => if_neg hl
  unfold wX11_count
  intro y e
  have e := e.symm
  subst e
  refine br_c (fun e => ?_) (fun n0 => ?_)
  · subst e
    unfold wX12_count
    rintro _ rfl _ rfl
    exact br_t rfl (⟨hr.1.trans hc.1.symm, h.inv⟩)
  refine br_c (fun e => ?_) (fun n1 => ?_)
  · subst e
    unfold wX12_count
    rintro _ rfl _ rfl
    exact br_f (by decide) (br_t rfl (⟨hr.2.1.trans hc.2.1.symm, h.inv⟩))
  refine br_c (fun e => ?_) (fun n2 => ?_)
  · subst e
    refine c_load (by decide) hN hc ?_
    unfold wX12_count
    rintro _ rfl _ rfl
    exact br_f (by decide) (br_f (by decide) (br_t rfl (r_load hN hr (fun s hs => (hw.2.2 s hs).1.sh) ⟨rfl, h.inv⟩)))
  refine br_c (fun e => ?_) (fun n3 => ?_)
  · subst e
    refine c_readyOnes hN hc ?_
    unfold wX12_count
    rintro _ rfl _ rfl
    exact br_f (by decide) (br_f (by decide) (br_f (by decide) (br_t rfl (r_ready hN hr ⟨rfl, h.inv⟩))))
  refine br_c (fun e => ?_) (fun n4 => ?_)
  · subst e
    refine c_jobsOfAll hN hc ?_
    unfold wX12_count
    rintro _ rfl _ rfl
    exact br_f (by decide) (br_f (by decide) (br_f (by decide) (br_f (by decide) (br_t rfl (r_allJobs hN hr ⟨rfl, h.inv⟩)))))
  refine br_c (fun e => ?_) (fun n5 => ?_)
  · subst e
    refine c_lateOfAll hN hc ?_
    unfold wX12_count
    rintro _ rfl _ rfl
    exact br_f (by decide) (br_f (by decide) (br_f (by decide) (br_f (by decide) (br_f (by decide) (br_t rfl (r_allLate hN hr ⟨rfl, h.inv⟩))))))
  refine br_c (fun e => ?_) (fun n6 => ?_)
  · subst e
    refine c_holder (by decide) hN hc ?_
    rw [hH _ (by decide)]
    show wX12_count 6 Z (zD _)
    unfold wX12_count
    rintro _ rfl _ rfl
    refine br_f (by decide) (br_f (by decide) (br_f (by decide) (br_f (by decide) (br_f (by decide) (br_f (by decide) (br_t rfl ?_))))))
    rw [show (6 : Int32) - 6 = 0 from by decide]
    exact r_holder hN hr (fun s hs => (hw.2.2 s hs).1.hold) ⟨rfl, h.inv⟩
  refine br_c (fun e => ?_) (fun n7 => ?_)
  · subst e
    refine c_holder (by decide) hN hc ?_
    rw [hH _ (by decide)]
    show wX12_count 7 Z (zD _)
    unfold wX12_count
    rintro _ rfl _ rfl
    refine br_f (by decide) (br_f (by decide) (br_f (by decide) (br_f (by decide) (br_f (by decide) (br_f (by decide) (br_f (by decide) (br_t rfl ?_)))))))
    rw [show (7 : Int32) - 6 = 1 from by decide]
    exact r_holder hN hr (fun s hs => (hw.2.2 s hs).1.hold) ⟨rfl, h.inv⟩
  refine br_c (fun e => ?_) (fun n8 => ?_)
  · subst e
    refine c_holder (by decide) hN hc ?_
    rw [hH _ (by decide)]
    show wX12_count 8 Z (zD _)
    unfold wX12_count
    rintro _ rfl _ rfl
    refine br_f (by decide) (br_f (by decide) (br_f (by decide) (br_f (by decide) (br_f (by decide) (br_f (by decide) (br_f (by decide) (br_f (by decide) (br_t rfl ?_))))))))
    rw [show (8 : Int32) - 6 = 2 from by decide]
    exact r_holder hN hr (fun s hs => (hw.2.2 s hs).1.hold) ⟨rfl, h.inv⟩
  unfold wX12_count
  rintro _ rfl y e
  have e := e.symm
  subst e
  exact br_f n0 (br_f n1 (br_f n2 (br_f n3 (br_f n4 (br_f n5 (br_f n6 (br_f n7 (br_f n8 (⟨rfl, h.inv⟩)))))))))
theorem cRel.lo {p : Nat} (hp : p < 3) (hN : S.1 ≤ 6) (h : cRel p S Z) (f : ∀ i, i < 57 → Z' i = Z i) : cRel p S Z' := by
  refine ⟨?_, ?_, fun s hs => ?_⟩
  · rw [f (54 + p) (by omega)]; exact h.1
  · rw [f (54 + p) (by omega)]; exact h.2.1
  · exact (h.2.2 s hs).mv (f _ (by omega)) (f _ (by omega)) (f _ (by omega))
theorem m_image (h : zI S Q Z) : wX11_image Z (fun r Z1 => wX12_image Z1 (zD r)) := by
  obtain ⟨hw, hc, hr, hi, hs, ht⟩ := id h
  have hN := hw.1
  unfold wX11_image
  refine c_becomes (by decide) (by decide) (by decide) hN (fun s hs => (hw.2.2 s hs).1) hc (fun Z1 r1 f1 => ?_)
  intro Z2 e2
  have c1 : cRel 0 S Z1 := hc.fr (by decide) hN (by decide) f1
  have e54 : Z2 (54 + 0) 2 = S.2.1 := by rw [e2, zU_i (by decide)]; exact c1.2.1
  rw [e54]
  unfold wX12_image
  intro Z3 e3
  have o3 : ∀ i, ¬ cOwn i = 2 → ¬ i = 96 → ¬ i = 97 → Z3 i = Z i := by
    intro i h1 h2 h3
    rw [e3, zU_r h3, e2, zU_r h2]; exact f1 i h1
  have rr : rRel S Z3 := by
    refine hr.mv ?_ ?_ (o3 98 (by decide) (by decide) (by decide)) (o3 99 (by decide) (by decide) (by decide)) (o3 100 (by decide) (by decide) (by decide))
    · rw [e3, zU_k (by decide), e2, zU_i (by decide), f1 97 (by decide)]
    · rw [e3, zU_k (by decide), e2, zU_i (by decide), f1 97 (by decide)]
  refine r_keep (by decide) hN rr (fun Z4 r4 f4 => ?_)
  have o4 : ∀ i, ¬ cOwn i = 2 → ¬ i = 96 → ¬ i = 97 → ¬ i = 103 → Z4 i = Z i := fun i h1 h2 h3 h4 => (f4 i h4).trans (o3 i h1 h2 h3)
  have rr4 : rRel S Z4 := rr.mv (by rw [f4 97 (by decide)]) (by rw [f4 97 (by decide)]) (f4 _ (by decide)) (f4 _ (by decide)) (f4 _ (by decide))
  have n2 : ∀ i, 57 ≤ i → ¬ cOwn i = 2 := fun i hi => by rw [cOwn_e hi]; decide
  have c24 : cRel 2 S Z4 := by
    have g : ∀ i, i < 60 → Z4 i = Z1 i := fun i hi => by rw [f4 i (by omega), e3, zU_r (by omega), e2, zU_r (by omega)]
    exact r1.lo (by decide) hN (fun i hi => g i (by omega))
  have c04 : cRel 0 S Z4 := c1.lo (by decide) hN (fun i hi => by rw [f4 i (by omega), e3, zU_r (by omega), e2, zU_r (by omega)])
  have i96 : Z4 96 4 = 1 := by rw [f4 96 (by decide), e3, zU_i (by decide), e2, zU_s]
  have i97 : Z4 97 11 = 1 := by rw [f4 97 (by decide), e3, zU_s]
  refine ⟨rr4.2.1, S, S, hw, ?_, rr4, ⟨?_, Or.inr ⟨?_, hw, c24, r4⟩⟩, fun d hd => ?_, fun t h4 => ?_⟩
  · exact c04
  · rw [i96, i97]
  · exact i96
  · exact (hs d hd).mv (o4 _ (n2 _ (by omega)) (by omega) (by omega) (by omega)) (o4 _ (n2 _ (by omega)) (by omega) (by omega) (by omega)) (o4 _ (by decide) (by decide) (by decide) (by decide)) (o4 _ (by decide) (by decide) (by decide) (by decide)) (o4 _ (by decide) (by decide) (by decide) (by decide)) (o4 _ (by decide) (by decide) (by decide) (by decide))
  · exact (ht t h4).mv (o4 _ (n2 _ (by omega)) (by omega) (by omega) (by omega)) (o4 _ (n2 _ (by omega)) (by omega) (by omega) (by omega)) (o4 _ (by decide) (by decide) (by decide) (by decide)) (o4 _ (by decide) (by decide) (by decide) (by decide)) (o4 _ (by decide) (by decide) (by decide) (by decide))
theorem m_restore (h : zI S Q Z) : wX11_restore Z (fun r Z1 => wX12_restore Z1 (zD r)) := by
  obtain ⟨hw, hc, hr, hi, hs, ht⟩ := id h
  unfold wX11_restore
  rcases hi.2 with c | ⟨c, wq, c2, a2⟩
  · refine br_f (fun x => x c) ?_
    show wX12_restore Z (zD _)
    unfold wX12_restore
    rw [hi.1]
    exact br_f (fun x => x c) ⟨rfl, h.inv⟩
  have c' : ¬ Z 96 4 = 0 := by rw [c]; decide
  have hN := wq.1
  refine br_t c' (c_becomes (by decide) (by decide) (by decide) hN (fun s hs => (wq.2.2 s hs).1) c2 (fun Z1 r1 f1 => ?_))
  rw [r1.2.1]
  show wX12_restore Z1 (zD _)
  unfold wX12_restore
  have o1 : ∀ i, 57 ≤ i → Z1 i = Z i := fun i hi => f1 i (by rw [cOwn_e hi]; decide)
  rw [show Z1 97 11 = Z 96 4 by rw [o1 97 (by decide)]; exact hi.1]
  refine br_t c' (r_again (by decide) hN (a2.mv (o1 103 (by decide))) (fun Z2 r2 f2 _ _ => ?_))
  have h2 : ∀ i, i < 97 ∨ 100 < i → Z2 i = Z1 i := f2.1
  have k2 : zI Q Q Z2 := by
    refine ⟨wq, r1.lo (by decide) hN (fun i hi => h2 i (by omega)), r2, ⟨?_, Or.inr ⟨?_, wq, ?_, ?_⟩⟩, fun d hd => ?_, fun t h4 => ?_⟩
    · rw [f2.2 11 (by decide) (by decide) (by decide) (by decide), h2 96 (by decide), o1 96 (by decide), o1 97 (by decide)]; exact hi.1
    · rw [h2 96 (by decide), o1 96 (by decide)]; exact c
    · exact (c2.fr (by decide) hN (by decide) f1).lo (by decide) hN (fun i hi => h2 i (by omega))
    · exact a2.mv ((h2 103 (by decide)).trans (o1 103 (by decide)))
    · have o : ∀ i, 57 ≤ i → (i < 97 ∨ 100 < i) → Z2 i = Z i := fun i hi hj => (h2 i hj).trans (o1 i hi)
      exact (hs d hd).mv (o _ (by omega) (by omega)) (o _ (by omega) (by omega)) (o _ (by decide) (by decide)) (o _ (by decide) (by decide)) (o _ (by decide) (by decide)) (o _ (by decide) (by decide))
    · have o : ∀ i, 57 ≤ i → (i < 97 ∨ 100 < i) → Z2 i = Z i := fun i hi hj => (h2 i hj).trans (o1 i hi)
      exact (ht t h4).mv (o _ (by omega) (by omega)) (o _ (by omega) (by omega)) (o _ (by decide) (by decide)) (o _ (by decide) (by decide)) (o _ (by decide) (by decide))
  exact ⟨r2.2.1, k2.inv⟩
end N4
