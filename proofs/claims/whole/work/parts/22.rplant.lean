/-! THE REFERENCE: its plant -/
section RP
def gFr (Z Z' : zS) : Prop := (∀ i, i < 97 ∨ 100 < i → Z' i = Z i) ∧ ∀ k, ¬ k = 0 → ¬ k = 1 → ¬ k = 5 → ¬ k = 6 → Z' 97 k = Z 97 k
theorem gFr.rf {Z : zS} : gFr Z Z := ⟨fun _ _ => rfl, fun _ _ _ _ _ => rfl⟩
theorem gFr.tr {Z Z1 Z2 : zS} (a : gFr Z Z1) (b : gFr Z1 Z2) : gFr Z Z2 := ⟨fun i h => (b.1 i h).trans (a.1 i h), fun k h0 h1 h5 h6 => (b.2 k h0 h1 h5 h6).trans (a.2 k h0 h1 h5 h6)⟩
theorem gFr.s {s : Nat} {Z Z' : zS} (f : rFr s Z Z') : gFr Z Z' := ⟨fun i h => f.1 i (by omega) (by omega) (by omega), fun k _ _ _ _ => by rw [f.1 97 (by decide) (by decide) (by decide)]⟩
theorem gFr.c {Z : zS} (k : Nat) (x : Int32) (hk : k = 0 ∨ k = 1 ∨ k = 5 ∨ k = 6) : gFr Z (zU Z 97 k x) := ⟨fun i h => zU_r (by omega), fun j h0 h1 h5 h6 => zU_k (by omega)⟩
variable {s : Nat} {q : zQ} {Z Z' : zS} {t : Int32} {S S' : zP}
theorem rSv.mv {o w l o' w' l' : Nat → Int32} (hs : s < 6) (h : rSv s q o w l) (ho : ∀ k, k % 6 = s → o' k = o k) (hw : ∀ i, i < 4 → w' (4 * s + i) = w (4 * s + i) ∧ l' (4 * s + i) = l (4 * s + i)) : rSv s q o' w' l' := by
  obtain ⟨e0, e1, e2, e3, e5, e6, e7, e10, e8, e9, e13, e14, ej⟩ := h
  refine ⟨(ho _ (by omega)).trans e0, (ho _ (by omega)).trans e1, (ho _ (by omega)).trans e2, (ho _ (by omega)).trans e3, (ho _ (by omega)).trans e5, (ho _ (by omega)).trans e6, (ho _ (by omega)).trans e7, (ho _ (by omega)).trans e10, (ho _ (by omega)).trans e8, (ho _ (by omega)).trans e9, (ho _ (by omega)).trans e13, fun a => (ho _ (by omega)).trans (e14 a), fun i h4 hi => ?_⟩
  exact ⟨(hw i h4).1.trans (ej i h4 hi).1, (hw i h4).2.trans (ej i h4 hi).2⟩
theorem rRel.cg (h : rRel S Z) (h1 : S'.1 = S.1) (h2 : S'.2.1 = S.2.1) (h3 : ∀ s, s < S.1 → S'.2.2 s = S.2.2 s) : rRel S' Z := by
  refine ⟨by rw [h1]; exact h.1, by rw [h2]; exact h.2.1, fun s hs => ?_⟩
  rw [h1] at hs
  rw [h3 s hs]
  exact h.2.2 s hs
theorem rRel.set (hN : S.1 ≤ 6) (hs : s < S.1) (h : rRel S Z) (r : rAt s q Z') (f : rFr s Z Z') : rRel (pSet S s q) Z' := by
  refine ⟨?_, ?_, fun s' hs' => ?_⟩
  · rw [f.1 97 (by decide) (by decide) (by decide)]; exact h.1
  · rw [f.1 97 (by decide) (by decide) (by decide)]; exact h.2.1
  · have hs2 : s' < S.1 := hs'
    rw [pSet_at]
    by_cases e : s' = s
    · rw [if_pos e, e]; exact r
    · rw [if_neg e]
      exact (h.2.2 s' hs2).mv (by omega) (fun k hk => f.2.1 k (by omega)) (fun i hi => f.2.2 _ (by omega))
/-- the reference's own cell written: chosen, runner, the tick -/
theorem rRel.pl (h : rRel S Z) (hn : Z' 97 1 = nI S.1) (ht : Z' 97 0 = S'.2.1) (e1 : S'.1 = S.1) (e2 : S'.2.2 = S.2.2) (f : ∀ i, i ≠ 97 → Z' i = Z i) : rRel S' Z' := by
  refine ⟨by rw [e1]; exact hn, ht, fun s hs => ?_⟩
  rw [e1] at hs
  rw [e2, f 98 (by decide), f 99 (by decide), f 100 (by decide)]
  exact h.2.2 s hs
def wfS (q : zQ) : Prop := q 4 = 60 * q 2 / q 3 ∧ ¬ q 3 = 0
theorem wf0.sh (w : wf0 t q) : wfS q := ⟨w.part.1, fun a => by have := w.bud.1; have := w.per.1; rw [a, zi0] at this; omega⟩
theorem r_share' {K : Int32 → zS → Prop} (hs : s < 6) (h : rAt s q Z) (w : wfS q) (hk : K (q 4) Z) : wX12_share (nI s) Z K := by
  obtain ⟨e0, e1, e2, e3, -⟩ := h
  unfold wX12_share
  simp (disch := omega) only [zlit_add, zlit_mul, nI_add, nI_1, nI_clamp, vp_in_nI, true_and]
  rw [e2, e3, ← w.1]
  exact ⟨w.2, hk⟩
theorem r_load {K : Int32 → zS → Prop} (hN : S.1 ≤ 6) (h : rRel S Z) (hw : ∀ s, s < S.1 → wfS (S.2.2 s)) (hk : K (pLoad S) Z) : wX12_load Z K := by
  unfold wX12_load
  rintro _ rfl _ rfl
  refine pk_loop (σ := Int32) (fun n i x => wX12_load_4 K n x (nI i) Z) (fun i x => x = zsum (fun s => if S.2.2 s 7 = 0 then 0 else S.2.2 s 4) i) S.1 0 0 (Nat.zero_le _) rfl ?_ ?_
  · rintro n x rfl
    show wX12_load_4b _ _ (nI S.1) Z K
    unfold wX12_load_4b
    rw [h.1]
    exact br_t (Int32.le_refl _) hk
  · rintro n i x hi rfl ih
    show wX12_load_4b (fun x1 x2 Z => wX12_load_4 K n x1 x2 Z) _ (nI i) Z K
    unfold wX12_load_4b
    have k : ∀ x, x = zsum (fun s => if S.2.2 s 7 = 0 then 0 else S.2.2 s 4) (i + 1) → wX12_load_32 (fun x1 x2 Z => wX12_load_4 K n x1 x2 Z) x (nI i) Z K := by
      intro x e
      unfold wX12_load_32
      rintro _ rfl
      rw [nI_1]
      exact ih x e
    have r := h.2.2 i hi
    have e7 : Z 98 (36 + i) = S.2.2 i 7 := r.2.2.2.2.2.2.1
    rw [h.1]
    refine br_f (nI_ge hi (by omega)) ?_
    simp (disch := omega) only [zlit_add, nI_clamp, vp_in_nI, true_and]
    rw [e7]
    refine br_c (fun c => k _ ?_) (fun c => ?_)
    · show _ = _ + (if S.2.2 i 7 = 0 then 0 else S.2.2 i 4)
      rw [if_pos c]; exact (Int32.add_zero _).symm
    · refine r_share' (by omega) r (hw i hi) ?_
      rintro _ rfl
      refine k _ ?_
      show _ = _ + (if S.2.2 i 7 = 0 then 0 else S.2.2 i 4)
      rw [if_neg c]
theorem r_greedy {K : Int32 → zS → Prop} (hN : S.1 ≤ 6) (hs : s < S.1) (h : rRel S Z) (hw : ∀ s, s < S.1 → wfS (S.2.2 s)) (hk : K (qGreedy (pLoad S) (S.2.2 s)) Z) : wX12_greedy (nI s) Z K := by
  unfold wX12_greedy
  exact r_load hN h hw (r_share' (by omega) (h.2.2 s hs) (hw s hs) hk)
theorem r_pays {K : Int32 → zS → Prop} (hN : S.1 ≤ 6) (hs : s < S.1) (h : rRel S Z) (hw : ∀ s, s < S.1 → wfS (S.2.2 s)) (hK : zKi (S.2.2 s 0)) (hk : K (qPays (pLoad S) (S.2.2 s)) Z) : wX12_pays (nI s) Z K := by
  have e0 : Z 98 s = S.2.2 s 0 := (h.2.2 s hs).1
  have e1 : Z 98 (6 + s) = S.2.2 s 1 := (h.2.2 s hs).2.1
  unfold wX12_pays
  simp (disch := omega) only [zlit_add, nI_clamp, vp_in_nI, true_and, Nat.zero_add]
  rintro _ rfl
  rw [e0]
  rcases hK with e | e | e | e | e | e
  · rw [qPays_0 e] at hk
    rw [e]
    exact br_f (by decide) (br_f (by decide) (br_f (by decide) (br_f (by decide) hk)))
  · rw [qPays_1 e] at hk
    exact br_t e (r_greedy hN hs h hw hk)
  · rw [qPays_2 e] at hk
    rw [e]
    exact br_f (by decide) (br_t rfl hk)
  · rw [qPays_3 e] at hk
    rw [e]
    refine br_f (by decide) (br_f (by decide) (br_t rfl ?_))
    refine r_share' (by omega) (h.2.2 s hs) (hw s hs) (r_greedy hN hs h hw ?_)
    rw [e1]
    have ee : (if S.2.2 s 4 < qGreedy (pLoad S) (S.2.2 s) - S.2.2 s 1 then qGreedy (pLoad S) (S.2.2 s) - S.2.2 s 1 else S.2.2 s 4) = (if qGreedy (pLoad S) (S.2.2 s) - S.2.2 s 1 < S.2.2 s 4 then S.2.2 s 4 else qGreedy (pLoad S) (S.2.2 s) - S.2.2 s 1) := by
      by_cases a : S.2.2 s 4 < qGreedy (pLoad S) (S.2.2 s) - S.2.2 s 1
      · rw [if_pos a, if_neg (Int32.not_lt.mpr (Int32.le_of_lt a))]
      · rw [if_neg a]
        by_cases b : qGreedy (pLoad S) (S.2.2 s) - S.2.2 s 1 < S.2.2 s 4
        · rw [if_pos b]
        · rw [if_neg b]; exact Int32.le_antisymm (Int32.not_lt.mp b) (Int32.not_lt.mp a)
    rw [ee]
    exact hk
  · rw [qPays_4 e] at hk
    rw [e]
    exact br_f (by decide) (br_f (by decide) (br_f (by decide) (br_t rfl (r_greedy hN hs h hw ⟨by decide, hk⟩))))
  · rw [qPays_5 e] at hk
    rw [e]
    exact br_f (by decide) (br_f (by decide) (br_f (by decide) (br_f (by decide) hk)))
theorem r_holder {l : Int32} {K : Int32 → zS → Prop} (hN : S.1 ≤ 6) (h : rRel S Z) (hw : ∀ s, s < S.1 → zBo (S.2.2 s 13)) (hk : K (pHol S.2.2 l S.1) Z) : wX12_holder l Z K := by
  unfold wX12_holder
  rintro _ rfl
  refine pk_loop (σ := Unit) (fun n i _ => wX12_holder_2 l K n (nI i) Z) (fun i _ => pHol S.2.2 l i = -4) S.1 0 () (Nat.zero_le _) rfl ?_ ?_
  · rintro n _ e
    show wX12_holder_2b _ l (nI S.1) Z K
    unfold wX12_holder_2b
    rw [h.1]
    rw [e] at hk
    exact br_t (Int32.le_refl _) hk
  · rintro n i _ hi e ih
    show wX12_holder_2b (fun x2 Z => wX12_holder_2 l K n x2 Z) l (nI i) Z K
    unfold wX12_holder_2b
    obtain ⟨e0, e1, e2, e3, e5, e6, e7, e10, e8, e9, e13, e14, ej⟩ := h.2.2 i hi
    rw [h.1]
    refine br_f (nI_ge hi (by omega)) ?_
    simp (disch := omega) only [zlit_add, zlit_mul, nI_clamp, vp_in_nI, true_and]
    rw [e10, e13]
    have no : ¬ (¬ S.2.2 i 10 ≤ 0 ∧ ¬ S.2.2 i 13 = 0 ∧ S.2.2 i 30 = l) → wX12_holder_49 (fun x2 Z => wX12_holder_2 l K n x2 Z) l (nI i) Z K := by
      intro a
      unfold wX12_holder_49
      rintro _ rfl
      rw [nI_1]
      refine ih () ?_
      unfold pHol
      rw [if_pos e, if_neg a]
    refine br_c (fun a => no (fun b => b.1 a)) (fun a => ?_)
    have n13 : ¬ S.2.2 i 13 = 1 → S.2.2 i 13 = 0 := fun b => (hw i hi).resolve_right b
    refine br_c (fun b => no (fun d => d.2.1 (n13 b))) (fun b => ?_)
    have b : ¬ S.2.2 i 13 = 0 := by rw [Classical.not_not.mp b]; decide
    have ejj := (ej 0 (by decide) (by
        rcases Nat.eq_zero_or_pos (S.2.2 i 10).toNatClampNeg with z | z
        · exfalso
          have this : ¬ (S.2.2 i 10).toInt ≤ (0 : Int32).toInt := fun b => a (Int32.le_iff_toInt_le.mpr b)
          rw [zi0] at this
          have e1 : (S.2.2 i 10).toNatClampNeg = (S.2.2 i 10).toInt.toNat := rfl
          omega
        · exact z)).2
    have ejj : Z 100 (4 * i) = S.2.2 i 30 := ejj
    rw [ejj]
    refine br_c (fun d => no (fun f => d f.2.2)) (fun d => ?_)
    have d := Classical.not_not.mp d
    have x2 : pHol S.2.2 l (i + 1) = nI i := by unfold pHol; rw [if_pos e, if_pos ⟨a, b, d⟩]
    have x3 : pHol S.2.2 l S.1 = nI i := by
      have := pHol_stay S.2.2 l (i := i + 1) (by rw [x2]; exact nI_n4 (by omega)) (S.1 - (i + 1))
      rw [show i + 1 + (S.1 - (i + 1)) = S.1 by omega, x2] at this
      exact this
    rw [x3] at hk
    exact hk
theorem r_earliest {K : Int32 → zS → Prop} (hN : S.1 ≤ 6) (h : rRel S Z) (hk : K (pEar S.2.2 S.1) Z) : wX12_earliest Z K := by
  unfold wX12_earliest
  rintro _ rfl _ rfl
  refine pk_loop (σ := Int32) (fun n i x => wX12_earliest_5 K n x (nI i) Z) (fun i x => x = pEar S.2.2 i) S.1 0 (-4) (Nat.zero_le _) rfl ?_ ?_
  · rintro n x rfl
    show wX12_earliest_5b _ _ (nI S.1) Z K
    unfold wX12_earliest_5b
    rw [h.1]
    exact br_t (Int32.le_refl _) hk
  · rintro n i x hi rfl ih
    show wX12_earliest_5b (fun x1 x2 Z => wX12_earliest_5 K n x1 x2 Z) _ (nI i) Z K
    unfold wX12_earliest_5b
    have k55 : ∀ x, x = pEar S.2.2 (i + 1) → wX12_earliest_55 (fun x1 x2 Z => wX12_earliest_5 K n x1 x2 Z) x (nI i) Z K := by
      intro x e
      unfold wX12_earliest_55
      rintro _ rfl
      rw [nI_1]
      exact ih x e
    have k53 : S.2.2 i 7 = 1 ∧ (pEar S.2.2 i = -4 ∨ ¬ S.2.2 (pEar S.2.2 i).toNatClampNeg 6 ≤ S.2.2 i 6) → wX12_earliest_53 (fun x1 x2 Z => wX12_earliest_5 K n x1 x2 Z) (nI i) Z K := by
      intro c
      unfold wX12_earliest_53
      exact k55 _ (if_pos c).symm
    have e6 : Z 98 (30 + i) = S.2.2 i 6 := (h.2.2 i hi).2.2.2.2.2.1
    have e7 : Z 98 (36 + i) = S.2.2 i 7 := (h.2.2 i hi).2.2.2.2.2.2.1
    rw [h.1]
    refine br_f (nI_ge hi (by omega)) ?_
    simp (disch := omega) only [zlit_add, nI_clamp, vp_in_nI, true_and]
    rw [e6, e7]
    refine br_c (fun c => k55 _ (if_neg (fun a => c a.1)).symm) (fun c => ?_)
    have c := Classical.not_not.mp c
    refine br_c (fun a => k53 ⟨c, Or.inl a⟩) (fun a => ?_)
    obtain ⟨j, hj, ej, -⟩ := (pEar_lt S.2.2 i).resolve_left a
    have hc : (pEar S.2.2 i).toNatClampNeg = j := by rw [ej]; exact nI_clamp (by omega)
    have f6 : Z 98 (30 + j) = S.2.2 j 6 := (h.2.2 j (by omega)).2.2.2.2.2.1
    have g1 : vp_in (30 + pEar S.2.2 i) 72 := by rw [ej, zlit_add]; exact vp_in_nI (by omega) (by decide)
    have g2 : (30 + pEar S.2.2 i : Int32).toNatClampNeg = 30 + j := by rw [ej, zlit_add]; exact nI_clamp (by omega)
    refine ⟨g1, ?_⟩
    rw [g2, f6]
    refine br_c (fun b => k55 _ (if_neg (fun d => ?_)).symm) (fun b => k53 ⟨c, Or.inr (by rw [hc]; exact b)⟩)
    rcases d.2 with d | d
    · exact a d
    · rw [hc] at d; exact d b
end RP
