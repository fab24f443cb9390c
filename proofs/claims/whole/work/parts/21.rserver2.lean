/-! THE REFERENCE: a job comes, ends -/
section RT
variable {s : Nat} {q : zQ} {Z : zS} {t : Int32}
theorem r_take {w l : Int32} {j : Nat} {K : zS → Prop} (hs : s < 6) (h : rAt s q Z) (ht : Z 97 0 = t) (wq : wf0 t q) (t0 : 0 ≤ t.toInt) (tT : t.toInt ≤ 20000) (hj : q 10 = nI j) (hj4 : j < 4) (hk : ∀ Z', rAt s (qTake t w l q) Z' → rFr s Z Z' → K Z') : wX12_jobComes (nI s) w l Z K := by
  obtain ⟨e0, e1, e2, e3, e5, e6, e7, e10, e8, e9, e13, e14, ej⟩ := h
  have hn := wq.idle
  have eJ := qJob_e (w := w) (l := l) hj (by omega)
  have hc : (nI j).toNatClampNeg = j := nI_clamp (by omega)
  rw [hj, hc] at ej
  unfold wX12_jobComes
  simp (disch := omega) only [zlit_add, zlit_mul, nI_clamp, vp_in_nI, true_and, Nat.zero_add]
  rintro _ rfl
  rw [e10, hj]
  simp (disch := omega) only [nI_add, nI_1, nI_clamp, vp_in_nI, true_and]
  rintro Z4 hZ4 Z6 hZ6 Z8 hZ8
  have f8 : rFr s Z Z8 := by rw [hZ8, hZ6, hZ4]; exact ((rFr.w _ _ (by omega)).tr (rFr.l _ _ (by omega))).tr (rFr.u _ _ (by omega))
  have j0 : ∀ k, k < 20 → ¬ k = 10 → qJob w l q k = q k := fun k h1 h2 => by rw [eJ]; simp [upd_ap, h2, show ¬ k = 20 + j by omega, show ¬ k = 30 + j by omega]
  have j10 : qJob w l q 10 = nI (j + 1) := by rw [eJ, upd_ap, if_pos rfl]
  have o8 : ∀ m, ¬ m = 42 + s → Z8 98 m = Z 98 m := fun m hm => by rw [hZ8, hZ6, hZ4]; simp [zU_ap, hm]
  have c8 : Z8 98 (42 + s) = nI (j + 1) := by rw [hZ8]; exact zU_s _ _ _ _
  have ejob : ∀ i, i < 4 → i < j + 1 → Z8 99 (4 * s + i) = qJob w l q (20 + i) ∧ Z8 100 (4 * s + i) = qJob w l q (30 + i) := by
    intro i h4 hi
    rw [eJ, hZ8, hZ6, hZ4]
    rcases Nat.lt_or_ge i j with a | a
    · simp [zU_ap, upd_ap, ej i h4 a, show ¬ i = j by omega, show ¬ 20 + i = 30 + j by omega, show ¬ 30 + i = 20 + j by omega, show ¬ 20 + i = 10 by omega, show ¬ 30 + i = 10 by omega]
    · have e : i = j := by omega
      subst e
      simp [zU_ap, upd_ap, show ¬ 20 + i = 30 + i by omega, show ¬ 20 + i = 10 by omega, show ¬ 30 + i = 10 by omega]
  have t8 : Z8 97 0 = t := by rw [hZ8, hZ6, hZ4]; simp [zU_ap, ht]
  clear hZ8 hZ6 hZ4
  rintro _ rfl
  rw [o8 (36 + s) (by omega), e7]
  by_cases c12 : q 7 = 1 ∨ q 7 = 2
  · have n0 : ¬ q 10 = 0 := fun a => by rcases c12 with c | c <;> rcases hn.mp a with b | b <;> rw [c] at b <;> exact absurd b (by decide)
    have fin : K Z8 := by
      refine hk Z8 ?_ f8
      unfold qTake
      rw [if_pos c12]
      refine ⟨?_, ?_, ?_, ?_, ?_, ?_, ?_, ?_, ?_, ?_, ?_, fun _ => ?_, fun i h4 hi => ejob i h4 ?_⟩
      · rw [o8 _ (by omega), j0 0 (by decide) (by decide)]; exact e0
      · rw [o8 _ (by omega), j0 1 (by decide) (by decide)]; exact e1
      · rw [o8 _ (by omega), j0 2 (by decide) (by decide)]; exact e2
      · rw [o8 _ (by omega), j0 3 (by decide) (by decide)]; exact e3
      · rw [o8 _ (by omega), j0 5 (by decide) (by decide)]; exact e5
      · rw [o8 _ (by omega), j0 6 (by decide) (by decide)]; exact e6
      · rw [o8 _ (by omega), j0 7 (by decide) (by decide)]; exact e7
      · rw [c8, j10]
      · rw [o8 _ (by omega), j0 8 (by decide) (by decide)]; exact e8
      · rw [o8 _ (by omega), j0 9 (by decide) (by decide)]; exact e9
      · rw [o8 _ (by omega), j0 13 (by decide) (by decide)]; exact e13
      · rw [o8 _ (by omega), j0 14 (by decide) (by decide)]; exact e14 n0
      · rw [j10, nI_clamp (by omega)] at hi; exact hi
    refine br_c (fun _ => fin) (fun a => br_f (fun b => b (c12.resolve_left a)) fin)
  · have a1 : ¬ q 7 = 1 := fun a => c12 (Or.inl a)
    have a2 : ¬ q 7 = 2 := fun a => c12 (Or.inr a)
    have a03 : q 7 = 0 ∨ q 7 = 3 := by rcases wq.st with c | c | c | c <;> simp_all
    have h13 : q 13 = 0 := wq.hold0 (hn.mpr a03)
    refine br_f a1 (br_t a2 ?_)
    rintro Z14 hZ14
    have f14 : rFr s Z Z14 := f8.tr (by rw [hZ14]; exact rFr.u _ _ (by omega))
    have o14 : ∀ m, ¬ m = 42 + s → ¬ m = 36 + s → Z14 98 m = Z 98 m := fun m h1 h2 => by rw [hZ14, zU_k h2]; exact o8 m h1
    have c14 : Z14 98 (42 + s) = nI (j + 1) := by rw [hZ14, zU_k (by omega)]; exact c8
    have s14 : Z14 98 (36 + s) = 1 := by rw [hZ14]; exact zU_s _ _ _ _
    have ejob14 : ∀ i, i < 4 → i < j + 1 → Z14 99 (4 * s + i) = qJob w l q (20 + i) ∧ Z14 100 (4 * s + i) = qJob w l q (30 + i) := fun i a b => by
      rw [hZ14, zU_r (by decide), zU_r (by decide)]; exact ejob i a b
    have t14 : Z14 97 0 = t := by rw [hZ14, zU_r (by decide)]; exact t8
    clear hZ14
    have k151 : ∀ Y x5 x6, Y 98 (24 + s) = x5 → Y 98 (30 + s) = x6 → (∀ m, ¬ m = 24 + s → ¬ m = 30 + s → Y 98 m = Z14 98 m) → Y 99 = Z14 99 → Y 100 = Z14 100 → rFr s Z14 Y → (∀ k, k < 20 → qTake t w l q k = upd (upd (upd (upd (qJob w l q) 5 x5) 6 x6) 7 1) 14 x6 k) → (∀ i, i < 4 → qTake t w l q (20 + i) = qJob w l q (20 + i) ∧ qTake t w l q (30 + i) = qJob w l q (30 + i)) → wX12_jobComes_151 (nI s) w l Y K := by
      intro Y x5 x6 y5 y6 oy y99 y100 fy eq eqj
      unfold wX12_jobComes_151
      simp (disch := omega) only [zlit_add, zlit_mul, nI_add, nI_1, nI_clamp, vp_in_nI, true_and, Nat.zero_add]
      rintro Z23 hZ23 Z25 hZ25
      have o25 : ∀ m, ¬ m = 60 + s → ¬ m = 66 + s → Z25 98 m = Y 98 m := fun m h1 h2 => by rw [hZ25, zU_k h2, hZ23, zU_k h1]
      have g : ∀ m, ¬ m = 24 + s → ¬ m = 30 + s → ¬ m = 60 + s → ¬ m = 66 + s → ¬ m = 42 + s → ¬ m = 36 + s → Z25 98 m = Z 98 m := fun m a b c d e f => by
        rw [o25 m c d, oy m a b]; exact o14 m e f
      have t10 : qTake t w l q 10 = nI (j + 1) := by rw [eq 10 (by decide)]; simp [upd_ap, j10]
      refine hk Z25 ⟨?_, ?_, ?_, ?_, ?_, ?_, ?_, ?_, ?_, ?_, ?_, fun _ => ?_, fun i h4 hi => ?_⟩ (f14.tr (fy.tr (by rw [hZ25, hZ23]; exact (rFr.u _ _ (by omega)).tr (rFr.u _ _ (by omega)))))
      · rw [g _ (by omega) (by omega) (by omega) (by omega) (by omega) (by omega), eq 0 (by decide)]; simp [upd_ap, j0, e0]
      · rw [g _ (by omega) (by omega) (by omega) (by omega) (by omega) (by omega), eq 1 (by decide)]; simp [upd_ap, j0, e1]
      · rw [g _ (by omega) (by omega) (by omega) (by omega) (by omega) (by omega), eq 2 (by decide)]; simp [upd_ap, j0, e2]
      · rw [g _ (by omega) (by omega) (by omega) (by omega) (by omega) (by omega), eq 3 (by decide)]; simp [upd_ap, j0, e3]
      · rw [o25 _ (by omega) (by omega), y5, eq 5 (by decide)]; simp [upd_ap]
      · rw [o25 _ (by omega) (by omega), y6, eq 6 (by decide)]; simp [upd_ap]
      · rw [o25 _ (by omega) (by omega), oy _ (by omega) (by omega), s14, eq 7 (by decide)]; simp [upd_ap]
      · rw [o25 _ (by omega) (by omega), oy _ (by omega) (by omega), c14, t10]
      · rw [g _ (by omega) (by omega) (by omega) (by omega) (by omega) (by omega), eq 8 (by decide)]; simp [upd_ap, j0, e8]
      · rw [g _ (by omega) (by omega) (by omega) (by omega) (by omega) (by omega), eq 9 (by decide)]; simp [upd_ap, j0, e9]
      · rw [hZ25, zU_s, eq 13 (by decide)]; simp [upd_ap, j0, h13]
      · rw [hZ25, zU_k (by omega), hZ23, zU_s, y6, eq 14 (by decide)]; simp [upd_ap]
      · rw [t10, nI_clamp (by omega)] at hi
        rw [(eqj i h4).1, (eqj i h4).2, hZ25, hZ23, zU_r (by decide), zU_r (by decide), zU_r (by decide), zU_r (by decide), y99, y100]
        exact ejob14 i h4 hi
    have k107 : (q 7 = 0 ∨ q 5 ≤ 0 ∨ ¬ (q 5 * q 3 < 60 * q 2 * (q 6 - t))) → wX12_jobComes_107 (nI s) w l Z14 K := by
      intro c
      unfold wX12_jobComes_107
      simp (disch := omega) only [zlit_add, zlit_mul, nI_add, nI_1, nI_clamp, vp_in_nI, true_and, Nat.zero_add]
      rintro Z28 hZ28 Z31 hZ31
      have eq : qTake t w l q = upd (upd (upd (upd (qJob w l q) 5 (60 * q 2)) 6 (t + q 3)) 7 1) 14 (t + q 3) := by unfold qTake; rw [if_neg c12, if_pos c]
      refine k151 Z31 (60 * q 2) (t + q 3) ?_ ?_ (fun m h1 h2 => ?_) ?_ ?_ ?_ (fun k _ => by rw [eq]) (fun i _ => by rw [eq]; simp [upd20, upd30])
      · rw [hZ31, zU_k (by omega), hZ28, zU_s, o14 _ (by omega) (by omega), e2]
      · rw [hZ31, zU_s, hZ28, zU_r (by decide), zU_k (by omega), t14, o14 _ (by omega) (by omega), e3]
      · rw [hZ31, zU_k h2, hZ28, zU_k h1]
      · rw [hZ31, hZ28, zU_r (by decide), zU_r (by decide)]
      · rw [hZ31, hZ28, zU_r (by decide), zU_r (by decide)]
      · rw [hZ31, hZ28]; exact (rFr.u _ _ (by omega)).tr (rFr.u _ _ (by omega))
    refine br_c (fun b => k107 (Or.inl b)) (fun b => ?_)
    rw [o14 _ (by omega) (by omega), e5]
    refine br_c (fun c => k107 (Or.inr (Or.inl c))) (fun c => ?_)
    unfold wX12_ahead
    simp (disch := omega) only [zlit_add, zlit_mul, nI_add, nI_1, nI_clamp, vp_in_nI, true_and, Nat.zero_add]
    rw [o14 (12 + s) (by omega) (by omega), o14 (30 + s) (by omega) (by omega), o14 (24 + s) (by omega) (by omega), o14 (18 + s) (by omega) (by omega), t14, e2, e3, e5, e6]
    refine br_c (fun d => ?_) (fun d => k107 (Or.inr (Or.inr (fun x => d ((zahead wq t0 tT).mpr x)))))
    have d := (zahead wq t0 tT).mp d
    have eq : qTake t w l q = upd (upd (qJob w l q) 7 1) 14 (q 6) := by
      unfold qTake
      rw [if_neg c12, if_neg (by intro x; rcases x with x | x | x; exact b x; exact c x; exact x d)]
    refine k151 Z14 (q 5) (q 6) ?_ ?_ (fun _ _ _ => rfl) rfl rfl rFr.rf (fun k hk20 => ?_) (fun i _ => by rw [eq]; simp [upd20, upd30])
    · rw [o14 _ (by omega) (by omega), e5]
    · rw [o14 _ (by omega) (by omega), e6]
    · rw [eq]
      simp only [upd_ap]
      by_cases k14 : k = 14
      · simp [k14]
      · by_cases k7 : k = 7
        · simp [k7]
        · by_cases k6 : k = 6
          · simp [k6, j0]
          · by_cases k5 : k = 5
            · simp [k5, j0]
            · simp [k14, k7, k6, k5]
theorem r_off {K : Int32 → zS → Prop} (hs : s < 6) (h : rAt s q Z) (hk : ∀ Z', rAt s (qDrop q) Z' → rFr s Z Z' → K (q 10) Z') : wX12_goesOff (nI s) Z K := by
  obtain ⟨e0, e1, e2, e3, e5, e6, e7, e10, e8, e9, e13, e14, ej⟩ := h
  unfold wX12_goesOff
  simp (disch := omega) only [zlit_add, zlit_mul, nI_add, nI_1, nI_clamp, vp_in_nI, true_and, Nat.zero_add]
  rintro _ rfl Z4 hZ4 Z6 hZ6 Z8 hZ8
  rw [e10]
  refine hk Z8 ?_ ?_
  · rw [hZ8, hZ6, hZ4]
    refine ⟨?_, ?_, ?_, ?_, ?_, ?_, ?_, ?_, ?_, ?_, ?_, ?_, ?_⟩
    case refine_12 => intro a; exact absurd (show qDrop q 10 = 0 by simp [qDrop, upd_ap]) a
    case refine_13 => intro i h4 hi; simp [qDrop, upd_ap] at hi
    all_goals simp [zU_ap, qDrop, upd_ap, e0, e1, e2, e3, e5, e6, e7, e10, e8, e9, e13]
  · rw [hZ8, hZ6, hZ4]; exact ((rFr.u _ _ (by omega)).tr (rFr.u _ _ (by omega))).tr (rFr.u _ _ (by omega))
theorem r_ends {j : Nat} {K : zS → Prop} (hs : s < 6) (h : rAt s q Z) (hj : q 10 = nI j) (hj0 : 0 < j) (hj4 : j < 5) (hk : ∀ Z', rAt s (qEnd q) Z' → rFr s Z Z' → K Z') : wX12_ends (nI s) Z K := by
  obtain ⟨e0, e1, e2, e3, e5, e6, e7, e10, e8, e9, e13, e14, ej⟩ := h
  rw [hj, nI_clamp (by omega)] at ej
  unfold wX12_ends
  simp (disch := omega) only [zlit_add, zlit_mul, nI_add, nI_1, nI_clamp, vp_in_nI, true_and, Nat.zero_add]
  rintro Z3 hZ3 Z5 hZ5 Z8 hZ8 _ rfl
  have e8' : Z8 98 (42 + s) = nI (j - 1) := by rw [hZ8, zU_s, hZ5, zU_k (by omega), hZ3, zU_k (by omega), e10, hj, nI_pm hj0]
  have o8 : ∀ m, ¬ m = 42 + s → ¬ m = 54 + s → ¬ m = 66 + s → Z8 98 m = Z 98 m := fun m a b c => by rw [hZ8, zU_k a, hZ5, zU_k c, hZ3, zU_k b]
  have e9' : Z8 98 (54 + s) = qMore (q 9) := by rw [hZ8, zU_k (by omega), hZ5, zU_k (by omega), hZ3, zU_s, e9]; rfl
  have e66 : Z8 98 (66 + s) = 0 := by rw [hZ8, zU_k (by omega), hZ5, zU_s]
  have w8 : Z8 99 = Z 99 := by rw [hZ8, hZ5, hZ3, zU_r (by decide), zU_r (by decide), zU_r (by decide)]
  have l8 : Z8 100 = Z 100 := by rw [hZ8, hZ5, hZ3, zU_r (by decide), zU_r (by decide), zU_r (by decide)]
  have f8 : rFr s Z Z8 := by rw [hZ8, hZ5, hZ3]; exact ((rFr.u _ _ (by omega)).tr (rFr.u _ _ (by omega))).tr (rFr.u _ _ (by omega))
  have qe10 : qEnd q 10 = nI (j - 1) := by simp [qEnd, upd_ap, hj, nI_pm hj0]
  refine pk_loop (σ := zS) (fun n i Y => wX12_ends_51 (nI s) K n (nI i) Y) (fun i Y => Y 98 = Z8 98 ∧ (∀ m, m < 4 → Y 99 (4 * s + m) = if m < i then Z 99 (4 * s + (m + 1)) else Z 99 (4 * s + m)) ∧ (∀ m, m < 4 → Y 100 (4 * s + m) = if m < i then Z 100 (4 * s + (m + 1)) else Z 100 (4 * s + m)) ∧ rFr s Z Y) (j - 1) 0 Z8 (Nat.zero_le _) ⟨rfl, fun m _ => ?_, fun m _ => ?_, f8⟩ ?_ ?_
  · rw [w8, if_neg (Nat.not_lt_zero _)]
  · rw [l8, if_neg (Nat.not_lt_zero _)]
  · rintro n Y ⟨y0, yw, yl, yf⟩
    show wX12_ends_51b _ (nI s) (nI (j - 1)) Y K
    unfold wX12_ends_51b
    simp (disch := omega) only [zlit_add, zlit_mul, nI_add, nI_1, nI_clamp, vp_in_nI, true_and, Nat.zero_add]
    rw [y0, e8']
    refine br_t (Int32.le_refl _) ?_
    have g : ∀ Y', (∀ m, ¬ m = 36 + s → ¬ m = 60 + s → Y' 98 m = Z8 98 m) → Y' 98 (36 + s) = qEnd q 7 → (¬ qEnd q 10 = 0 → Y' 98 (60 + s) = q 6) → Y' 99 = Y 99 → Y' 100 = Y 100 → rAt s (qEnd q) Y' := by
      intro Y' o y7 y14 y99 y100
      refine ⟨?_, ?_, ?_, ?_, ?_, ?_, ?_, ?_, ?_, ?_, ?_, fun a => ?_, fun i h4 hi => ?_⟩
      · rw [o _ (by omega) (by omega), o8 _ (by omega) (by omega) (by omega), e0]; simp [qEnd, upd_ap]
      · rw [o _ (by omega) (by omega), o8 _ (by omega) (by omega) (by omega), e1]; simp [qEnd, upd_ap]
      · rw [o _ (by omega) (by omega), o8 _ (by omega) (by omega) (by omega), e2]; simp [qEnd, upd_ap]
      · rw [o _ (by omega) (by omega), o8 _ (by omega) (by omega) (by omega), e3]; simp [qEnd, upd_ap]
      · rw [o _ (by omega) (by omega), o8 _ (by omega) (by omega) (by omega), e5]; simp [qEnd, upd_ap]
      · rw [o _ (by omega) (by omega), o8 _ (by omega) (by omega) (by omega), e6]; simp [qEnd, upd_ap]
      · exact y7
      · rw [o _ (by omega) (by omega), e8', qe10]
      · rw [o _ (by omega) (by omega), o8 _ (by omega) (by omega) (by omega), e8]; simp [qEnd, upd_ap]
      · rw [o _ (by omega) (by omega), e9']; simp [qEnd, upd_ap]
      · rw [o _ (by omega) (by omega), e66]; simp [qEnd, upd_ap]
      · rw [y14 a]; simp [qEnd, upd_ap]
      · rw [qe10, nI_clamp (by omega)] at hi
        have hs' := ej (i + 1) (by omega) (by omega)
        have x1 : qEnd q (20 + i) = q (20 + (i + 1)) := if_neg (by omega)
        have x2 : qEnd q (30 + i) = q (30 + (i + 1)) := if_neg (by omega)
        rw [y99, y100, yw i h4, yl i h4, if_pos hi, if_pos hi, x1, x2]
        exact hs'
    have x7 : qEnd q 7 = if nI (j - 1) = 0 then 3 else q 7 := by simp [qEnd, upd_ap, hj, nI_pm hj0]
    by_cases c : nI (j - 1) = 0
    · refine br_f (fun a => a c) ?_
      rintro Z18 rfl
      refine hk _ (g _ (fun m a b => ?_) ?_ (fun a => absurd (qe10.trans c) a) ?_ ?_) (yf.tr (rFr.u _ _ (by omega)))
      · rw [zU_k a, y0]
      · rw [zU_s, x7, if_pos c]
      · rw [zU_r (by decide)]
      · rw [zU_r (by decide)]
    · refine br_t c ?_
      rintro Z16 rfl
      refine hk _ (g _ (fun m a b => ?_) ?_ (fun a => ?_) ?_ ?_) (yf.tr (rFr.u _ _ (by omega)))
      · rw [zU_k b, y0]
      · rw [zU_k (by omega), y0, o8 _ (by omega) (by omega) (by omega), e7, x7, if_neg c]
      · rw [zU_s, o8 _ (by omega) (by omega) (by omega), e6]
      · rw [zU_r (by decide)]
      · rw [zU_r (by decide)]
  · rintro n i Y hi ⟨y0, yw, yl, yf⟩ ih
    show wX12_ends_51b (fun x2 Z => wX12_ends_51 (nI s) K n x2 Z) (nI s) (nI i) Y K
    unfold wX12_ends_51b
    simp (disch := omega) only [zlit_add, zlit_mul, nI_add, nI_1, nI_clamp, vp_in_nI, true_and, Nat.zero_add]
    rw [y0, e8']
    refine br_f (nI_ge hi (by omega)) ?_
    rintro Z21 hZ21 Z24 hZ24 _ rfl
    refine ih Z24 ⟨?_, fun m hm => ?_, fun m hm => ?_, ?_⟩
    · rw [hZ24, hZ21, zU_r (by decide), zU_r (by decide), y0]
    · rw [hZ24, hZ21, zU_r (by decide)]
      by_cases a : m = i
      · rw [a, zU_s, if_pos (by omega), show 4 * s + i + 1 = 4 * s + (i + 1) by omega, yw (i + 1) (by omega), if_neg (by omega)]
      · rw [zU_k (by omega), yw m hm]
        by_cases b : m < i
        · rw [if_pos b, if_pos (by omega)]
        · rw [if_neg b, if_neg (by omega)]
    · rw [hZ24, hZ21]
      by_cases a : m = i
      · rw [a, zU_s, if_pos (by omega), zU_r (by decide), show 4 * s + i + 1 = 4 * s + (i + 1) by omega, yl (i + 1) (by omega), if_neg (by omega)]
      · rw [zU_k (by omega), zU_r (by decide), yl m hm]
        by_cases b : m < i
        · rw [if_pos b, if_pos (by omega)]
        · rw [if_neg b, if_neg (by omega)]
    · rw [hZ24, hZ21]; exact yf.tr ((rFr.w _ _ (by omega)).tr (rFr.l _ _ (by omega)))
end RT
