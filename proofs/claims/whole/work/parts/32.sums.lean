/-! SUMS OVER SERVERS, AND WHAT IS ASKED OF ALL -/
section SU
variable {S : zP} {Z : zS} {p : Nat}
theorem c_doneOfAll {K : Int32 → zS → Prop} (hN : S.1 ≤ 6) (h : cRel p S Z) (hk : K (pDone S) Z) : wX3_doneOfAll p Z K := by
  unfold wX3_doneOfAll
  rintro _ rfl _ rfl
  refine pk_loop (σ := Int32) (fun n i x => wX3_doneOfAll_4 p K n x (nI i) Z) (fun i x => x = zsum (fun s => S.2.2 s 9) i) S.1 0 0 (Nat.zero_le _) rfl ?_ ?_
  · rintro n x rfl
    show wX3_doneOfAll_4b _ p _ (nI S.1) Z K
    unfold wX3_doneOfAll_4b
    rw [h.1]
    exact br_t (Int32.le_refl _) hk
  · rintro n i x hi rfl ih
    show wX3_doneOfAll_4b (fun x1 x2 Z => wX3_doneOfAll_4 p K n x1 x2 Z) p _ (nI i) Z K
    unfold wX3_doneOfAll_4b
    rw [h.1]
    refine br_f (nI_ge hi (by omega)) ⟨vp_in_nI (by omega) (by decide), ?_⟩
    rw [nI_clamp (by omega), (h.2.2 i hi).f 9 (by decide)]
    rintro _ rfl _ rfl
    rw [nI_1]
    exact ih _ rfl
theorem c_jobsOfAll {K : Int32 → zS → Prop} (hN : S.1 ≤ 6) (h : cRel p S Z) (hk : K (pJobs S) Z) : wX3_jobsOfAll p Z K := by
  unfold wX3_jobsOfAll
  rintro _ rfl _ rfl
  refine pk_loop (σ := Int32) (fun n i x => wX3_jobsOfAll_4 p K n x (nI i) Z) (fun i x => x = zsum (fun s => S.2.2 s 10) i) S.1 0 0 (Nat.zero_le _) rfl ?_ ?_
  · rintro n x rfl
    show wX3_jobsOfAll_4b _ p _ (nI S.1) Z K
    unfold wX3_jobsOfAll_4b
    rw [h.1]
    exact br_t (Int32.le_refl _) hk
  · rintro n i x hi rfl ih
    show wX3_jobsOfAll_4b (fun x1 x2 Z => wX3_jobsOfAll_4 p K n x1 x2 Z) p _ (nI i) Z K
    unfold wX3_jobsOfAll_4b
    rw [h.1]
    refine br_f (nI_ge hi (by omega)) ⟨vp_in_nI (by omega) (by decide), ?_⟩
    rw [nI_clamp (by omega), (h.2.2 i hi).f 10 (by decide)]
    rintro _ rfl _ rfl
    rw [nI_1]
    exact ih _ rfl
theorem r_allLate {K : Int32 → zS → Prop} (hN : S.1 ≤ 6) (h : rRel S Z) (hk : K (pLate S) Z) : wX12_allLate Z K := by
  unfold wX12_allLate
  rintro _ rfl _ rfl
  refine pk_loop (σ := Int32) (fun n i x => wX12_allLate_4 K n x (nI i) Z) (fun i x => x = zsum (fun s => S.2.2 s 8) i) S.1 0 0 (Nat.zero_le _) rfl ?_ ?_
  · rintro n x rfl
    show wX12_allLate_4b _ _ (nI S.1) Z K
    unfold wX12_allLate_4b
    rw [h.1]
    exact br_t (Int32.le_refl _) hk
  · rintro n i x hi rfl ih
    show wX12_allLate_4b (fun x1 x2 Z => wX12_allLate_4 K n x1 x2 Z) _ (nI i) Z K
    unfold wX12_allLate_4b
    have e : Z 98 (48 + i) = S.2.2 i 8 := (h.2.2 i hi).2.2.2.2.2.2.2.2.1
    rw [h.1]
    refine br_f (nI_ge hi (by omega)) ?_
    have hi6 : i < 6 := Nat.lt_of_lt_of_le hi hN
    simp (disch := omega) only [zlit_add, nI_clamp, vp_in_nI, true_and]
    rw [e]
    rintro _ rfl _ rfl
    rw [nI_1]
    exact ih _ rfl
theorem r_allJobs {K : Int32 → zS → Prop} (hN : S.1 ≤ 6) (h : rRel S Z) (hk : K (pJobs S) Z) : wX12_allJobs Z K := by
  unfold wX12_allJobs
  rintro _ rfl _ rfl
  refine pk_loop (σ := Int32) (fun n i x => wX12_allJobs_4 K n x (nI i) Z) (fun i x => x = zsum (fun s => S.2.2 s 10) i) S.1 0 0 (Nat.zero_le _) rfl ?_ ?_
  · rintro n x rfl
    show wX12_allJobs_4b _ _ (nI S.1) Z K
    unfold wX12_allJobs_4b
    rw [h.1]
    exact br_t (Int32.le_refl _) hk
  · rintro n i x hi rfl ih
    show wX12_allJobs_4b (fun x1 x2 Z => wX12_allJobs_4 K n x1 x2 Z) _ (nI i) Z K
    unfold wX12_allJobs_4b
    have e : Z 98 (42 + i) = S.2.2 i 10 := (h.2.2 i hi).2.2.2.2.2.2.2.1
    rw [h.1]
    refine br_f (nI_ge hi (by omega)) ?_
    have hi6 : i < 6 := Nat.lt_of_lt_of_le hi hN
    simp (disch := omega) only [zlit_add, nI_clamp, vp_in_nI, true_and]
    rw [e]
    rintro _ rfl _ rfl
    rw [nI_1]
    exact ih _ rfl
theorem r_allDone {K : Int32 → zS → Prop} (hN : S.1 ≤ 6) (h : rRel S Z) (hk : K (pDone S) Z) : wX12_allDone Z K := by
  unfold wX12_allDone
  rintro _ rfl _ rfl
  refine pk_loop (σ := Int32) (fun n i x => wX12_allDone_4 K n x (nI i) Z) (fun i x => x = zsum (fun s => S.2.2 s 9) i) S.1 0 0 (Nat.zero_le _) rfl ?_ ?_
  · rintro n x rfl
    show wX12_allDone_4b _ _ (nI S.1) Z K
    unfold wX12_allDone_4b
    rw [h.1]
    exact br_t (Int32.le_refl _) hk
  · rintro n i x hi rfl ih
    show wX12_allDone_4b (fun x1 x2 Z => wX12_allDone_4 K n x1 x2 Z) _ (nI i) Z K
    unfold wX12_allDone_4b
    have e : Z 98 (54 + i) = S.2.2 i 9 := (h.2.2 i hi).2.2.2.2.2.2.2.2.2.1
    rw [h.1]
    refine br_f (nI_ge hi (by omega)) ?_
    have hi6 : i < 6 := Nat.lt_of_lt_of_le hi hN
    simp (disch := omega) only [zlit_add, nI_clamp, vp_in_nI, true_and]
    rw [e]
    rintro _ rfl _ rfl
    rw [nI_1]
    exact ih _ rfl
theorem c_lateOfAllBut {a : Int32} {K : Int32 → zS → Prop} (hN : S.1 ≤ 6) (h : cRel p S Z) (hk : K (pLateBut a S) Z) : wX3_lateOfAllBut p a Z K := by
  unfold wX3_lateOfAllBut
  rintro _ rfl _ rfl
  refine pk_loop (σ := Int32) (fun n i x => wX3_lateOfAllBut_4 p a K n x (nI i) Z) (fun i x => x = zsum (fun s => if nI s = a then 0 else S.2.2 s 8) i) S.1 0 0 (Nat.zero_le _) rfl ?_ ?_
  · rintro n x rfl
    show wX3_lateOfAllBut_4b _ p a _ (nI S.1) Z K
    unfold wX3_lateOfAllBut_4b
    rw [h.1]
    exact br_t (Int32.le_refl _) hk
  · rintro n i x hi rfl ih
    show wX3_lateOfAllBut_4b (fun x1 x2 Z => wX3_lateOfAllBut_4 p a K n x1 x2 Z) p a _ (nI i) Z K
    unfold wX3_lateOfAllBut_4b
    have k : ∀ x, x = zsum (fun s => if nI s = a then 0 else S.2.2 s 8) (i + 1) → wX3_lateOfAllBut_29 (fun x1 x2 Z => wX3_lateOfAllBut_4 p a K n x1 x2 Z) p a x (nI i) Z K := by
      intro x e
      unfold wX3_lateOfAllBut_29
      rintro _ rfl
      rw [nI_1]
      exact ih x e
    rw [h.1]
    refine br_f (nI_ge hi (by omega)) ?_
    refine br_c (fun c => k _ ?_) (fun c => ⟨vp_in_nI (by omega) (by decide), ?_⟩)
    · show _ = _ + (if nI i = a then 0 else S.2.2 i 8)
      rw [if_pos c]; exact (Int32.add_zero _).symm
    · rw [nI_clamp (by omega), (h.2.2 i hi).f 8 (by decide)]
      rintro _ rfl
      refine k _ ?_
      show _ = _ + (if nI i = a then 0 else S.2.2 i 8)
      rw [if_neg c]
theorem zsum_cg {f g : Nat → Int32} {n : Nat} (h : ∀ i, i < n → f i = g i) : zsum f n = zsum g n := by
  induction n with
  | zero => rfl
  | succ n ih => show zsum f n + f n = zsum g n + g n; rw [ih (fun i hi => h i (by omega)), h n (by omega)]
theorem pLateBut_4 (hN : S.1 ≤ 6) : pLateBut (-4) S = pLate S := zsum_cg (fun i hi => if_neg (nI_n4 (by omega)))
theorem c_lateOfAll {K : Int32 → zS → Prop} (hN : S.1 ≤ 6) (h : cRel p S Z) (hk : K (pLate S) Z) : wX3_lateOfAll p Z K := by
  unfold wX3_lateOfAll
  refine c_lateOfAllBut hN h ?_
  rw [pLateBut_4 hN]
  exact hk
def pReady (S : zP) : Nat → Int32
  | 0 => 0
  | n + 1 => if S.2.2 n 7 = 1 then pReady S n ||| (1 <<< (nI n &&& 31)) else pReady S n
theorem c_readyOnes {K : Int32 → zS → Prop} (hN : S.1 ≤ 6) (h : cRel p S Z) (hk : K (pReady S S.1) Z) : wX3_readyOnes p Z K := by
  unfold wX3_readyOnes
  rintro _ rfl _ rfl
  refine pk_loop (σ := Int32) (fun n i x => wX3_readyOnes_4 p K n x (nI i) Z) (fun i x => x = pReady S i) S.1 0 0 (Nat.zero_le _) rfl ?_ ?_
  · rintro n x rfl
    show wX3_readyOnes_4b _ p _ (nI S.1) Z K
    unfold wX3_readyOnes_4b
    rw [h.1]
    exact br_t (Int32.le_refl _) hk
  · rintro n i x hi rfl ih
    show wX3_readyOnes_4b (fun x1 x2 Z => wX3_readyOnes_4 p K n x1 x2 Z) p _ (nI i) Z K
    unfold wX3_readyOnes_4b
    have k : ∀ x, x = pReady S (i + 1) → wX3_readyOnes_31 (fun x1 x2 Z => wX3_readyOnes_4 p K n x1 x2 Z) p x (nI i) Z K := by
      intro x e
      unfold wX3_readyOnes_31
      rintro _ rfl
      rw [nI_1]
      exact ih x e
    rw [h.1]
    refine br_f (nI_ge hi (by omega)) ⟨vp_in_nI (by omega) (by decide), ?_⟩
    rw [nI_clamp (by omega), (h.2.2 i hi).f 7 (by decide)]
    refine br_c (fun c => k _ (if_neg c).symm) (fun c => ?_)
    rintro _ rfl
    exact k _ (if_pos (Classical.not_not.mp c)).symm
def pIdle (S : zP) : Prop := ∀ s, s < S.1 → S.2.2 s 7 = 0
theorem c_isAllIdle {K : Int32 → zS → Prop} (hN : S.1 ≤ 6) (h : cRel p S Z) (h1 : pIdle S → K 1 Z) (h0 : ¬ pIdle S → K 0 Z) : wX3_isAllIdle p Z K := by
  unfold wX3_isAllIdle
  rintro _ rfl
  refine pk_loop (σ := Unit) (fun n i _ => wX3_isAllIdle_2 p K n (nI i) Z) (fun i _ => ∀ s, s < i → S.2.2 s 7 = 0) S.1 0 () (Nat.zero_le _) (fun s hs => absurd hs (Nat.not_lt_zero _)) ?_ ?_
  · rintro n _ e
    show wX3_isAllIdle_2b _ p (nI S.1) Z K
    unfold wX3_isAllIdle_2b
    rw [h.1]
    exact br_t (Int32.le_refl _) (h1 e)
  · rintro n i _ hi e ih
    show wX3_isAllIdle_2b (fun x2 Z => wX3_isAllIdle_2 p K n x2 Z) p (nI i) Z K
    unfold wX3_isAllIdle_2b
    rw [h.1]
    refine br_f (nI_ge hi (by omega)) ⟨vp_in_nI (by omega) (by decide), ?_⟩
    rw [nI_clamp (by omega), (h.2.2 i hi).f 7 (by decide)]
    refine br_c (fun c => ?_) (fun c => h0 (fun x => c (x i hi)))
    rintro _ rfl
    rw [nI_1]
    refine ih () (fun s hs => ?_)
    by_cases a : s = i
    · rw [a]; exact c
    · exact e s (by omega)
def pNoJobs (S : zP) : Prop := ∀ s, s < S.1 → S.2.2 s 10 = 0
theorem r_isQuiet {a : Int32} {K : Int32 → zS → Prop} (hN : S.1 ≤ 6) (hw : ∀ s, s < S.1 → zin (S.2.2 s 10) 0 4) (h : rRel S Z) (h1 : (if a = 0 then pNoJobs S else pIdle S) → K 1 Z) (h0 : ¬ (if a = 0 then pNoJobs S else pIdle S) → K 0 Z) : wX12_isQuiet a Z K := by
  unfold wX12_isQuiet
  rintro _ rfl
  refine pk_loop (σ := Unit) (fun n i _ => wX12_isQuiet_2 a K n (nI i) Z) (fun i _ => if a = 0 then (∀ s, s < i → S.2.2 s 10 = 0) else (∀ s, s < i → S.2.2 s 7 = 0)) S.1 0 () (Nat.zero_le _) (by by_cases c : a = 0 <;> simp [c]) ?_ ?_
  · rintro n _ e
    show wX12_isQuiet_2b _ a (nI S.1) Z K
    unfold wX12_isQuiet_2b
    rw [h.1]
    exact br_t (Int32.le_refl _) (h1 e)
  · rintro n i _ hi e ih
    show wX12_isQuiet_2b (fun x2 Z => wX12_isQuiet_2 a K n x2 Z) a (nI i) Z K
    unfold wX12_isQuiet_2b
    have e7 : Z 98 (36 + i) = S.2.2 i 7 := (h.2.2 i hi).2.2.2.2.2.2.1
    have e10 : Z 98 (42 + i) = S.2.2 i 10 := (h.2.2 i hi).2.2.2.2.2.2.2.1
    rw [h.1]
    refine br_f (nI_ge hi (by omega)) ?_
    have hi6 : i < 6 := Nat.lt_of_lt_of_le hi hN
    simp (disch := omega) only [zlit_add, nI_clamp, vp_in_nI, true_and]
    rw [e7, e10]
    have k : (if a = 0 then (∀ s, s < i + 1 → S.2.2 s 10 = 0) else (∀ s, s < i + 1 → S.2.2 s 7 = 0)) → wX12_isQuiet_43 (fun x2 Z => wX12_isQuiet_2 a K n x2 Z) a (nI i) Z K := by
      intro x
      unfold wX12_isQuiet_43
      rintro _ rfl
      rw [nI_1]
      exact ih () x
    refine br_c (fun c => ?_) (fun c => ?_)
    · rw [if_neg c] at k h0 e
      refine br_c (fun d => k (fun s hs => ?_)) (fun d => h0 (fun x => d (x i hi)))
      by_cases b : s = i
      · rw [b]; exact d
      · exact e s (by omega)
    · have c := Classical.not_not.mp c
      rw [if_pos c] at k h0 e
      refine br_c (fun d => k (fun s hs => ?_)) (fun d => h0 (fun x => d (by rw [x i hi]; exact Int32.le_refl _)))
      by_cases b : s = i
      · rw [b]
        have d := zle.mp d
        have := (hw i hi).1
        rw [zi0] at d
        exact Int32.toInt_inj.mp (by rw [zi0]; omega)
      · exact e s (by omega)
theorem pJobs_0 (hN : S.1 ≤ 6) (hw : ∀ s, s < S.1 → zin (S.2.2 s 10) 0 4) : pJobs S = 0 ↔ pNoJobs S := by
  have key : ∀ n, n ≤ S.1 → 0 ≤ (zsum (fun s => S.2.2 s 10) n).toInt ∧ (zsum (fun s => S.2.2 s 10) n).toInt ≤ 4 * n ∧ (zsum (fun s => S.2.2 s 10) n = 0 ↔ ∀ s, s < n → S.2.2 s 10 = 0) := by
    intro n
    induction n with
    | zero => intro _; exact ⟨Int.le_refl _, Int.le_refl _, ⟨fun _ s hs => absurd hs (Nat.not_lt_zero _), fun _ => rfl⟩⟩
    | succ n ih =>
      intro hn
      obtain ⟨a, b, c⟩ := ih (by omega)
      have w := hw n (by omega)
      have w1 := w.1
      have w2 := w.2
      have e : (zsum (fun s => S.2.2 s 10) n + S.2.2 n 10).toInt = (zsum (fun s => S.2.2 s 10) n).toInt + (S.2.2 n 10).toInt := zadd (by omega) (by omega)
      show 0 ≤ (zsum (fun s => S.2.2 s 10) n + S.2.2 n 10).toInt ∧ (zsum (fun s => S.2.2 s 10) n + S.2.2 n 10).toInt ≤ _ ∧ (zsum (fun s => S.2.2 s 10) n + S.2.2 n 10 = 0 ↔ _)
      refine ⟨by omega, by omega, fun x s hs => ?_, fun x => ?_⟩
      · have x' := Int32.toInt_inj.mpr x
        rw [e, zi0] at x'
        by_cases d : s = n
        · rw [d]; exact Int32.toInt_inj.mp (by rw [zi0]; omega)
        · exact c.mp (Int32.toInt_inj.mp (by rw [zi0]; omega)) s (by omega)
      · rw [c.mpr (fun s hs => x s (by omega)), x n (by omega)]; rfl
  exact (key S.1 (Nat.le_refl _)).2.2
end SU
