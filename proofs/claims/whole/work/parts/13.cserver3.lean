/-! THE CLASS: a job ends, runs; a server becomes another; its reads -/
section PC3
variable {v : Nat} {q : zQ} {Z : zS}
theorem nI_pm {j : Nat} (h : 0 < j) : nI j - 1 = nI (j - 1) := by
  obtain ⟨i, rfl⟩ : ∃ i, j = i + 1 := ⟨j - 1, by omega⟩
  rw [nI_pred]; rfl
theorem c_end {j : Nat} {K : zS → Prop} (h : sRel v q Z) (hj : q 10 = nI j) (hj0 : 0 < j) (hj4 : j < 5) (h9 : zin (q 9) 0 999) (hk : ∀ Z', sRel v (qEnd q) Z' → sFr v Z Z' → K Z') : wX5_endJobNow v Z K := by
  have h1 := h.f
  -- behind DONE
  have k20 : ∀ Z2, Z2 v 9 = qMore (q 9) → (∀ k, ¬ k = 9 → Z2 v k = Z v k) → Z2 (18 + v) = Z (18 + v) → Z2 (36 + v) = Z (36 + v) → sFr v Z Z2 → wX5_endJobNow_20 v Z2 K := by
    intro Z2 e9 ek ew el f2
    unfold wX5_endJobNow_20
    rintro Z3 hZ3 _ rfl
    have e10 : Z3 v 10 = nI (j - 1) := by rw [hZ3]; simp [zU_ap, ek, h1, hj, nI_pm hj0]
    refine pk_loop (σ := zS) (fun n i Y => wX5_endJobNow_32 v K n (nI i) Y) (fun i Y => Y v = Z3 v ∧ (∀ m, Y (18 + v) m = if m < i then Z (18 + v) (m + 1) else Z (18 + v) m) ∧ (∀ m, Y (36 + v) m = if m < i then Z (36 + v) (m + 1) else Z (36 + v) m) ∧ sFr v Z Y) (j - 1) 0 Z3 (Nat.zero_le _) ⟨rfl, fun m => ?_, fun m => ?_, ?_⟩ ?_ ?_
    · rw [hZ3]; simp [zU_ap, ew]
    · rw [hZ3]; simp [zU_ap, el]
    · rw [hZ3]; exact f2.tr (sFr.u _ _)
    · rintro n Y ⟨y0, yw, yl, yf⟩
      show wX5_endJobNow_32b _ v (nI (j - 1)) Y K
      unfold wX5_endJobNow_32b
      rw [y0, e10]
      refine br_t (nI_le (Nat.le_refl _) (by omega)) ?_
      rintro Z6 hZ6 Z7 hZ7
      have g10 : Z7 v 10 = nI (j - 1) := by rw [hZ7, hZ6]; simp [zU_ap, y0, e10]
      have gw : Z7 (18 + v) = Y (18 + v) := by rw [hZ7, hZ6]; funext i; simp [zU_ap]
      have gl : Z7 (36 + v) = Y (36 + v) := by rw [hZ7, hZ6]; funext i; simp [zU_ap]
      have gf : sFr v Z Z7 := by rw [hZ7, hZ6]; exact yf.tr ((sFr.u _ _).tr (sFr.u _ _))
      have ge : ∀ k, k < 11 → ¬ k = 7 → Z7 v k = qEnd q k := by
        intro k hk k7
        rw [hZ7, hZ6]
        simp only [zU_ap, y0, hZ3]
        simp [zU_ap, qEnd, upd_ap, k7, show k < 20 by omega, show ¬ k = 13 by omega, show ¬ k = 14 by omega, ek]
        by_cases k10 : k = 10
        · simp [k10, h1]
        · by_cases k9 : k = 9
          · simp [k9, e9]
          · simp [k10, k9, ek, h1, hk]
      have ge7 : Z7 v 7 = q 7 := by rw [hZ7, hZ6]; simp only [zU_ap, y0, hZ3]; simp [zU_ap, ek, h1]
      have ge13 : Z7 v 13 = qEnd q 13 := by rw [hZ7, hZ6]; simp [zU_ap, qEnd, upd_ap]
      have ge14 : Z7 v 14 = qEnd q 14 := by rw [hZ7, hZ6]; simp only [zU_ap, y0, hZ3]; simp [zU_ap, qEnd, upd_ap, ek, h1]
      have qe10 : qEnd q 10 = nI (j - 1) := by simp [qEnd, upd_ap, hj, nI_pm hj0]
      have gj : ∀ i, i < (qEnd q 10).toNatClampNeg → Z7 (18 + v) i = qEnd q (20 + i) ∧ Z7 (36 + v) i = qEnd q (30 + i) := by
        intro i hi
        rw [qe10, nI_clamp (by omega)] at hi
        have hs := h.j (i + 1) (by rw [hj, nI_clamp (by omega)]; omega)
        rw [gw, gl, yw, yl, if_pos hi, if_pos hi]
        have e1 : qEnd q (20 + i) = q (20 + (i + 1)) := if_neg (by omega)
        have e2 : qEnd q (30 + i) = q (30 + (i + 1)) := if_neg (by omega)
        rw [e1, e2]
        exact hs
      by_cases c : j - 1 = 0
      · rw [g10, c]
        refine br_f (fun a => a rfl) ?_
        rintro Z9 hZ9
        refine hk Z9 ⟨⟨fun k hk => ?_, ?_, ?_⟩, ?_⟩ ?_
        · by_cases k7 : k = 7
          · subst k7; rw [hZ9]
            simp [zU_ap, qEnd, upd_ap, hj, nI_pm hj0, c, nI_0]
          · rw [hZ9, zU_ap, if_neg (by omega)]; exact ge k hk k7
        · rw [hZ9, zU_ap, if_neg (by omega)]; exact ge13
        · intro i hi; rw [qe10, c] at hi; exact absurd hi (Nat.not_lt_zero _)
        · intro a; rw [qe10, c] at a; exact absurd rfl a
        · rw [hZ9]; exact gf.tr (sFr.u _ _)
      · rw [g10]
        refine br_t (nI_ne0 (by omega) (by omega)) ?_
        refine hk Z7 ⟨⟨fun k hk => ?_, ge13, gj⟩, fun _ => ge14⟩ gf
        by_cases k7 : k = 7
        · subst k7; rw [ge7]
          simp [qEnd, upd_ap, hj, nI_pm hj0, nI_ne0 (n := j - 1) (by omega) (by omega)]
        · exact ge k hk k7
    · rintro n i Y hi ⟨y0, yw, yl, yf⟩ ih
      show wX5_endJobNow_32b _ v (nI i) Y K
      unfold wX5_endJobNow_32b
      rw [y0, e10]
      refine br_f (nI_ge hi (by omega)) ?_
      rw [nI_1, nI_clamp (by omega), nI_clamp (by omega)]
      refine ⟨vp_in_nI (by omega) (by decide), vp_in_nI (by omega) (by decide), ?_⟩
      rintro Z12 hZ12
      refine ⟨vp_in_nI (by omega) (by decide), vp_in_nI (by omega) (by decide), ?_⟩
      rintro Z15 hZ15 _ rfl
      refine ih Z15 ⟨?_, fun m => ?_, fun m => ?_, ?_⟩
      · rw [hZ15, hZ12]; funext k; simp [zU_ap, y0]
      · rw [hZ15, hZ12]
        simp only [zU_ap]
        simp [yw]
        by_cases a : m = i
        · subst a; simp [show ¬ m + 1 < m by omega]
        · by_cases b : m < i
          · simp [a, b, show m < i + 1 by omega]
          · simp [a, b, show ¬ m < i + 1 by omega]
      · rw [hZ15, hZ12]
        simp only [zU_ap]
        simp [yl]
        by_cases a : m = i
        · subst a; simp [show ¬ m + 1 < m by omega]
        · by_cases b : m < i
          · simp [a, b, show m < i + 1 by omega]
          · simp [a, b, show ¬ m < i + 1 by omega]
      · rw [hZ15, hZ12]; exact yf.tr ((sFr.w _ _).tr (sFr.l _ _))
  have e9 : Z v 9 = q 9 := h1 9 (by decide)
  unfold wX5_endJobNow
  rw [e9]
  refine br_c (fun c => ?_) (fun c => ?_)
  · exact k20 Z (e9.trans (qMore_le h9 c).symm) (fun _ _ => rfl) rfl rfl sFr.rf
  · rintro Z2 hZ2
    refine k20 Z2 ?_ (fun k hk => ?_) ?_ ?_ ?_
    · rw [hZ2, zU_s, qMore_lt h9 c]
    · rw [hZ2, zU_k hk]
    · rw [hZ2]; funext i; simp [zU_ap]
    · rw [hZ2]; funext i; simp [zU_ap]
    · rw [hZ2]; exact sFr.u _ _
theorem c_run {t : Int32} {j : Nat} {K : zS → Prop} (h : sRel v q Z) (hj : q 10 = nI j) (hj0 : 0 < j) (hj4 : j < 5) (h8 : zin (q 8) 0 999) (h9 : zin (q 9) 0 999) (h20 : zin (q 20) 1 9) (hk : ∀ Z', sRel v (qRun t q) Z' → sFr v Z Z' → K Z') : wX5_runJobNow v t Z K := by
  have h1 := h.f
  have n0 : ¬ q 10 = 0 := by rw [hj]; exact nI_ne0 hj0 (by omega)
  have hs := h.j 0 (by rw [hj, nI_clamp (by omega)]; exact hj0)
  have z0 : (0 : Int32).toNatClampNeg = 0 := rfl
  have in0 : vp_in 0 4 := vp_in_nI (n := 0) (by decide) (by decide)
  have e20 : (q 20 - 1).toInt = (q 20).toInt - 1 := zsub (a := q 20) (b := 1) (by have := h20.1; show _ ≤ (q 20).toInt - 1; omega) (by have := h20.2; show (q 20).toInt - 1 ≤ _; omega)
  have k65 : ∀ Y, sRel v (qRun1 t q) Y → sFr v Z Y → wX5_runJobNow_65 v t Y K := by
    intro Y hY fY
    have hy := hY.j 0 (by show 0 < (q 10).toNatClampNeg; rw [hj, nI_clamp (by omega)]; exact hj0)
    have y20 : Y (18 + v) 0 = q 20 - 1 := hy.1
    unfold wX5_runJobNow_65
    rw [z0, y20]
    refine ⟨in0, br_c (fun c => ?_) (fun c => ?_)⟩
    · refine hk Y ?_ fY
      have : ¬ q 20 - 1 = 0 := fun a => by rw [a] at c; exact absurd c (by decide)
      unfold qRun; rw [if_neg this]; exact hY
    · have e : q 20 - 1 = 0 := Int32.toInt_inj.mp (by
        have c2 : ¬ (0 : Int) < (q 20 - 1).toInt := fun a => c (Int32.lt_iff_toInt_lt.mpr a)
        have := h20.1
        show _ = (0 : Int)
        omega)
      refine c_end hY (show qRun1 t q 10 = nI j from hj) hj0 hj4 h9 (fun Z' r f => hk Z' ?_ (fY.tr f))
      unfold qRun; rw [if_pos e]; exact r
  have k34 : ∀ Y s0, s0 = (if q 30 = 3 then 0 else 1) → Y = zU Z (18 + v) 0 (q 20 - 1) → wX5_runJobNow_34 v t s0 Y K := by
    intro Y s0 e0 hY
    unfold wX5_runJobNow_34
    refine ⟨by rw [e0]; by_cases c : q 30 = 3 <;> simp [c, zBo], ?_⟩
    rintro Z7 hZ7
    have g14 : Z7 v 14 = q 14 := by rw [hZ7, hY]; simp [zU_ap, h.2 n0]
    have g8 : Z7 v 8 = q 8 := by rw [hZ7, hY]; simp [zU_ap, h1]
    have g : ∀ x Y', (x = if t < q 14 then q 8 else qMore (q 8)) → Y' v 8 = x → (∀ k, ¬ k = 8 → Y' v k = Z7 v k) → Y' (18 + v) = Z7 (18 + v) → Y' (36 + v) = Z7 (36 + v) → sRel v (qRun1 t q) Y' := by
      intro x Y' ex e8 ek ew el
      refine ⟨⟨fun k hk => ?_, ?_, fun i hi => ?_⟩, fun _ => ?_⟩
      · by_cases k8 : k = 8
        · subst k8; rw [e8, ex]; simp [qRun1, upd_ap]
        · rw [ek k k8, hZ7, hY]; simp [zU_ap, qRun1, upd_ap, k8, show ¬ k = 13 by omega, show ¬ k = 20 by omega, h1, hk]
      · rw [ek 13 (by decide), hZ7, hY]; simp [zU_ap, qRun1, upd_ap, e0]
      · have hi' : i < (q 10).toNatClampNeg := hi
        have hi5 : i < 5 := by rw [hj, nI_clamp (by omega)] at hi'; omega
        have hs := h.j i hi'
        rw [ew, el, hZ7, hY]
        by_cases i0 : i = 0
        · subst i0; simp [zU_ap, qRun1, upd_ap, hs.2]
        · simp [zU_ap, qRun1, upd_ap, i0, hs, show ¬ 20 + i = 8 by omega, show ¬ 20 + i = 13 by omega, show ¬ 30 + i = 8 by omega, show ¬ 30 + i = 13 by omega, show ¬ 30 + i = 20 by omega]
      · rw [ek 14 (by decide), g14]; simp [qRun1, upd_ap]
    have gf : sFr v Z Z7 := by rw [hZ7, hY]; exact (sFr.w _ _).tr (sFr.u _ _)
    rw [g14]
    refine br_c (fun c => ?_) (fun c => ?_)
    · exact k65 Z7 (g _ _ (if_pos c).symm g8 (fun _ _ => rfl) rfl rfl) gf
    · rw [g8]
      refine br_c (fun d => ?_) (fun d => ?_)
      · exact k65 Z7 (g _ _ ((if_neg c).trans (qMore_le h8 d)).symm g8 (fun _ _ => rfl) rfl rfl) gf
      · rintro Z10 hZ10
        refine k65 Z10 (g _ _ ((if_neg c).trans (qMore_lt h8 d)).symm ?_ (fun k k8 => ?_) ?_ ?_) ?_
        · rw [hZ10, zU_s]
        · rw [hZ10, zU_k k8]
        · rw [hZ10]; funext i; simp [zU_ap]
        · rw [hZ10]; funext i; simp [zU_ap]
        · rw [hZ10]; exact gf.tr (sFr.u _ _)
  unfold wX5_runJobNow
  rw [h1 10 (by decide), z0, hs.1]
  refine br_t n0 ⟨in0, in0, ?_⟩
  rintro Z4 hZ4
  have g30 : Z4 (36 + v) 0 = q 30 := by rw [hZ4]; simp [zU_ap, hs.2]
  rw [g30]
  exact ⟨in0, br_c (fun c => k34 Z4 0 (if_pos c).symm hZ4) (fun c => k34 Z4 1 (if_neg c).symm hZ4)⟩
end PC3
