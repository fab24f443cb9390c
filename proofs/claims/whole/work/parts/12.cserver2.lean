/-! THE CLASS: a job comes, runs, ends -/
section PC2
variable {v : Nat} {q : zQ} {Z : zS}
theorem qJob_e {w l : Int32} {j : Nat} (hj : q 10 = nI j) (hj4 : j < 5) : qJob w l q = upd (upd (upd q (20 + j) w) (30 + j) l) 10 (nI (j + 1)) := by
  unfold qJob
  rw [hj, nI_clamp (by omega), nI_1]
theorem c_take {t w l : Int32} {j : Nat} {K : zS → Prop} (h : sRel v q Z) (hj : q 10 = nI j) (hj4 : j < 4) (h7 : q 7 = 0 ∨ q 7 = 1 ∨ q 7 = 2 ∨ q 7 = 3) (hn : q 10 = 0 ↔ (q 7 = 0 ∨ q 7 = 3)) (hk : ∀ Z', sRel v (qTake t w l q) Z' → sFr v Z Z' → K Z') : wX5_takeJob v w l t Z K := by
  have h1 := h.f
  have e10 : Z v 10 = nI j := (h.f 10 (by decide)).trans hj
  have hc : (nI j).toNatClampNeg = j := nI_clamp (by omega)
  have hin : vp_in (nI j) 4 := vp_in_nI hj4 (by decide)
  have eJ := qJob_e (w := w) (l := l) hj (by omega)
  have eC : (qJob w l q 10).toNatClampNeg = j + 1 := by rw [eJ, upd_ap, if_pos rfl]; exact nI_clamp (by omega)
  have j0 : ∀ k, k < 20 → ¬ k = 10 → qJob w l q k = q k := fun k h1 h2 => by rw [eJ]; simp [upd_ap, h2, show ¬ k = 20 + j by omega, show ¬ k = 30 + j by omega]
  unfold wX5_takeJob wX5_isFull
  rw [e10]
  refine br_t (nI_lt (b := 4) hj4 (by decide)) ?_
  refine br_t rfl ?_
  rw [e10]
  refine ⟨hin, ?_⟩
  rintro Z5 hZ5
  have r5 : Z5 v 10 = nI j := by rw [hZ5]; simp [zU_ap, e10]
  rw [r5]
  refine ⟨hin, ?_⟩
  rintro Z7 hZ7
  have r7 : Z7 v 10 = nI j := by rw [hZ7]; simp [zU_ap, r5]
  rw [r7]
  rintro Z8 hZ8
  have f8 : sFr v Z Z8 := by rw [hZ8, hZ7, hZ5]; exact ((sFr.w _ _).tr (sFr.l _ _)).tr (sFr.u _ _)
  have s8 : sRel0 v (qJob w l q) Z8 := by
    refine ⟨fun k hk => ?_, ?_, fun i hi => ?_⟩
    · rw [eJ, hZ8, hZ7, hZ5, hc, nI_1]
      simp [zU_ap, upd_ap, h1, hk, show ¬ k = 20 + j by omega, show ¬ k = 30 + j by omega]
    · rw [eJ, hZ8, hZ7, hZ5, hc, nI_1]
      simp [zU_ap, upd_ap, h.h, show ¬ 13 = 20 + j by omega, show ¬ 13 = 30 + j by omega]
    · rw [eC] at hi
      rw [eJ, hZ8, hZ7, hZ5, hc, nI_1]
      have hs := h.j i
      rw [hj, hc] at hs
      rcases Nat.lt_or_ge i j with a | a
      · simp [zU_ap, upd_ap, hs a, show ¬ i = j by omega, show ¬ 20 + i = 30 + j by omega, show ¬ 30 + i = 20 + j by omega, show ¬ 20 + i = 10 by omega, show ¬ 30 + i = 10 by omega]
      · have e : i = j := by omega
        subst e
        simp [zU_ap, upd_ap, show ¬ 20 + i = 30 + i by omega, show ¬ 20 + i = 10 by omega, show ¬ 30 + i = 10 by omega]
  have d8 : Z8 v 14 = Z v 14 := by rw [hZ8, hZ7, hZ5]; simp [zU_ap]
  have g7 : Z8 v 7 = q 7 := (s8.1 7 (by decide)).trans (j0 7 (by decide) (by decide))
  have g5 : Z8 v 5 = q 5 := (s8.1 5 (by decide)).trans (j0 5 (by decide) (by decide))
  clear hZ8 hZ7 hZ5 r5 r7
  rw [g7]
  by_cases c12 : q 7 = 1 ∨ q 7 = 2
  · have n0 : ¬ q 10 = 0 := fun a => by rcases c12 with c | c <;> rcases hn.mp a with b | b <;> rw [c] at b <;> exact absurd b (by decide)
    have a0 : ¬ q 7 = 0 := by rcases c12 with c | c <;> rw [c] <;> decide
    have a3 : ¬ q 7 = 3 := by rcases c12 with c | c <;> rw [c] <;> decide
    refine br_f a0 (br_f a3 (hk Z8 ?_ f8))
    unfold qTake
    rw [if_pos c12]
    exact ⟨s8, fun _ => by rw [d8, h.2 n0, j0 14 (by decide) (by decide)]⟩
  · have a03 : q 7 = 0 ∨ q 7 = 3 := by rcases h7 with c | c | c | c <;> simp_all
    have k97 : ∀ Z9 q9, sRel0 v q9 Z9 → sFr v Z8 Z9 → (upd (upd q9 7 1) 14 (q9 6) = qTake t w l q) → wX5_takeJob_97 v w l t Z9 K := by
      intro Z9 q9 s9 f9 e9
      unfold wX5_takeJob_97
      rintro _ rfl _ rfl
      refine hk _ ?_ (f8.tr (f9.tr ((sFr.u _ _).tr (sFr.u _ _))))
      rw [← e9]
      refine s9.of (fun k hk => ?_) ?_ ?_ ?_ ?_ ?_ ?_
      · simp [zU_ap, upd_ap, s9.1, hk, show ¬ k = 14 by omega]
      · simp [zU_ap, upd_ap, s9.2.1]
      · simp [zU_ap, upd_ap, s9.1]
      · funext i; simp [zU_ap]
      · funext i; simp [zU_ap]
      · simp [upd_ap]
      · intro i hi; simp [upd20, upd30]
    have k76 : (q 7 = 0 ∨ q 5 ≤ 0 ∨ ¬ (q 5 * q 3 < 60 * q 2 * (q 6 - t))) → wX5_takeJob_76 v w l t Z8 K := by
      intro c
      unfold wX5_takeJob_76
      rintro Z9 hZ9 Z10 hZ10
      refine k97 Z10 (upd (upd (qJob w l q) 5 (60 * q 2)) 6 (t + q 3)) ?_ ?_ ?_
      · refine s8.of0 (fun k hk => ?_) ?_ ?_ ?_ ?_ ?_
        · rw [hZ10, hZ9]
          simp [zU_ap, upd_ap, s8.1, hk, j0 2, j0 3]
        · rw [hZ10, hZ9]; simp [zU_ap, upd_ap, s8.2.1]
        · rw [hZ10, hZ9]; funext i; simp [zU_ap]
        · rw [hZ10, hZ9]; funext i; simp [zU_ap]
        · simp [upd_ap]
        · intro i hi; simp [upd20, upd30]
      · rw [hZ10, hZ9]; exact (sFr.u _ _).tr (sFr.u _ _)
      · unfold qTake
        rw [if_neg c12, if_pos c]
        funext k
        simp only [upd_ap]
        by_cases e14 : k = 14
        · rw [if_pos e14, if_pos e14]; rfl
        · rw [if_neg e14, if_neg e14]
    refine br_c (fun a0 => ?_) (fun a0 => br_t (a03.resolve_left a0) ?_)
    · exact br_t (g7.trans a0) (k76 (Or.inl a0))
    · refine br_f (fun a => a0 (g7.symm.trans a)) ?_
      rw [g5]
      refine br_c (fun b => k76 (Or.inr (Or.inl b))) (fun b => ?_)
      refine c_earned s8 (fun c => ?_) (fun c => ?_)
      · rw [j0 5 (by decide) (by decide), j0 3 (by decide) (by decide), j0 2 (by decide) (by decide), j0 6 (by decide) (by decide)] at c
        refine br_t rfl (k97 Z8 (qJob w l q) s8 sFr.rf ?_)
        unfold qTake
        rw [if_neg c12, if_neg (by intro x; rcases x with x | x | x; exact a0 x; exact b x; exact x c), j0 6 (by decide) (by decide)]
      · rw [j0 5 (by decide) (by decide), j0 3 (by decide) (by decide), j0 2 (by decide) (by decide), j0 6 (by decide) (by decide)] at c
        exact br_f (by decide) (k76 (Or.inr (Or.inr c)))
end PC2
