/-! THE CLASS: its plants -/
section PL
theorem cOwn_a {p s : Nat} (hp : p < 3) (hs : s < 6) : cOwn (6 * p + s) = p := by unfold cOwn; rw [if_pos (by omega)]; omega
theorem cOwn_b {p s : Nat} (hp : p < 3) (hs : s < 6) : cOwn (18 + (6 * p + s)) = p := by unfold cOwn; rw [if_pos (by omega)]; omega
theorem cOwn_c {p s : Nat} (hp : p < 3) (hs : s < 6) : cOwn (36 + (6 * p + s)) = p := by unfold cOwn; rw [if_pos (by omega)]; omega
theorem cOwn_d {p : Nat} (hp : p < 3) : cOwn (54 + p) = p := by unfold cOwn; rw [if_neg (by omega), if_pos (by omega)]; omega
theorem cOwn_e {i : Nat} (h : 57 ≤ i) : cOwn i = 3 := by unfold cOwn; rw [if_neg (by omega), if_neg (by omega)]
theorem cFr.rf {p : Nat} {Z : zS} : cFr p Z Z := fun _ _ => rfl
theorem cFr.tr {p : Nat} {Z Z1 Z2 : zS} (a : cFr p Z Z1) (b : cFr p Z1 Z2) : cFr p Z Z2 := fun i h => (b i h).trans (a i h)
theorem cFr.s {p s : Nat} {Z Z' : zS} (hp : p < 3) (hs : s < 6) (f : sFr (6 * p + s) Z Z') : cFr p Z Z' := fun i h => f i (fun e => h (e ▸ cOwn_a hp hs)) (fun e => h (e ▸ cOwn_b hp hs)) (fun e => h (e ▸ cOwn_c hp hs))
theorem cFr.p {p : Nat} {Z : zS} (hp : p < 3) (k : Nat) (x : Int32) : cFr p Z (zU Z (54 + p) k x) := fun _ h => zU_r (fun e => h (e ▸ cOwn_d hp))
theorem cFr.far {p : Nat} {Z Z' : zS} (hp : p < 3) (f : cFr p Z Z') {i : Nat} (hi : 57 ≤ i) : Z' i = Z i := f i (by rw [cOwn_e hi]; omega)
theorem sRel.mv {v : Nat} {q : zQ} {Z Z' : zS} (h : sRel v q Z) (e : Z' v = Z v) (ew : Z' (18 + v) = Z (18 + v)) (el : Z' (36 + v) = Z (36 + v)) : sRel v q Z' := by
  unfold sRel sRel0 at h ⊢
  rw [e, ew, el]
  exact h
variable {p : Nat} {S S' : zP} {Z Z' : zS}
theorem cRel.cg (h : cRel p S Z) (h1 : S'.1 = S.1) (h2 : S'.2.1 = S.2.1) (h3 : ∀ s, s < S.1 → S'.2.2 s = S.2.2 s) : cRel p S' Z := by
  refine ⟨by rw [h1]; exact h.1, by rw [h2]; exact h.2.1, fun s hs => ?_⟩
  rw [h1] at hs
  rw [h3 s hs]
  exact h.2.2 s hs
theorem cRel.set {s : Nat} {q : zQ} (hp : p < 3) (hN : S.1 ≤ 6) (hs : s < S.1) (h : cRel p S Z) (r : sRel (6 * p + s) q Z') (f : sFr (6 * p + s) Z Z') : cRel p (pSet S s q) Z' := by
  refine ⟨?_, ?_, fun s' hs' => ?_⟩
  · rw [f (54 + p) (by omega) (by omega) (by omega)]; exact h.1
  · rw [f (54 + p) (by omega) (by omega) (by omega)]; exact h.2.1
  · have hs2 : s' < S.1 := hs'
    by_cases e : s' = s
    · subst e
      have e2 : (pSet S s' q).2.2 s' = q := by simp [pSet, va_up]
      rw [e2]; exact r
    · have e2 : (pSet S s q).2.2 s' = S.2.2 s' := by simp [pSet, va_up, e]
      rw [e2]
      exact (h.2.2 s' hs2).mv (f _ (by omega) (by omega) (by omega)) (f _ (by omega) (by omega) (by omega)) (f _ (by omega) (by omega) (by omega))
theorem cRel.fr {r : Nat} (hp : p < 3) (hN : S.1 ≤ 6) (hn : ¬ p = r) (h : cRel p S Z) (f : cFr r Z Z') : cRel p S Z' := by
  refine ⟨?_, ?_, fun s hs => ?_⟩
  · rw [f (54 + p) (by rw [cOwn_d hp]; exact hn)]; exact h.1
  · rw [f (54 + p) (by rw [cOwn_d hp]; exact hn)]; exact h.2.1
  · exact (h.2.2 s hs).mv (f _ (by rw [cOwn_a hp (by omega)]; exact hn)) (f _ (by rw [cOwn_b hp (by omega)]; exact hn)) (f _ (by rw [cOwn_c hp (by omega)]; exact hn))
/-- the plant's own cell written: how many, the tick, chosen, runner -/
theorem cRel.pl (hp : p < 3) (hN : S.1 ≤ 6) (h : cRel p S Z) (hn : Z' (54 + p) 1 = nI S.1) (ht : Z' (54 + p) 2 = S'.2.1) (e1 : S'.1 = S.1) (e2 : S'.2.2 = S.2.2) (f : ∀ i, i ≠ 54 + p → Z' i = Z i) : cRel p S' Z' := by
  refine ⟨by rw [e1]; exact hn, ht, fun s hs => ?_⟩
  rw [e1] at hs
  rw [e2]
  exact (h.2.2 s hs).mv (f _ (by omega)) (f _ (by omega)) (f _ (by omega))
theorem c_begin {K : zS → Prop} (hp : p < 3) (hN : S.1 ≤ 6) (hw : ∀ s, s < S.1 → wfQ S.2.1 (S.2.2 s)) (h : cRel p S Z) (hk : ∀ Z', cRel p (pBegin S) Z' → cFr p Z Z' → K Z') : wX3_beginTick p Z K := by
  unfold wX3_beginTick
  rintro _ rfl
  refine pk_loop (σ := zS) (fun n i Y => wX3_beginTick_2 p K n (nI i) Y) (fun i Y => cRel p (S.1, S.2.1, fun s => if s < i then qBegin S.2.1 (S.2.2 s) else S.2.2 s) Y ∧ cFr p Z Y) S.1 0 Z (Nat.zero_le _) ⟨h.cg rfl rfl (fun s _ => (show (if s < 0 then qBegin S.2.1 (S.2.2 s) else S.2.2 s) = S.2.2 s from if_neg (Nat.not_lt_zero s))), cFr.rf⟩ ?_ ?_
  · rintro n Y ⟨y, f⟩
    show wX3_beginTick_2b _ p (nI S.1) Y K
    unfold wX3_beginTick_2b
    rw [y.1]
    exact br_t (nI_le (Nat.le_refl _) (by omega)) (hk Y (y.cg rfl rfl (fun s hs => (if_pos hs).symm)) f)
  · rintro n i Y hi ⟨y, f⟩ ih
    show wX3_beginTick_2b (fun x1 Z => wX3_beginTick_2 p K n x1 Z) p (nI i) Y K
    unfold wX3_beginTick_2b
    have y1 : Y (54 + p) 1 = nI S.1 := y.1
    have y2 : Y (54 + p) 2 = S.2.1 := y.2.1
    have ys : sRel (6 * p + i) (S.2.2 i) Y := by
      have a := y.2.2 i hi
      have e : (if i < i then qBegin S.2.1 (S.2.2 i) else S.2.2 i) = S.2.2 i := if_neg (Nat.lt_irrefl _)
      dsimp only at a
      rw [e] at a
      exact a
    have w := hw i hi
    have fin : ∀ Y' q', sRel (6 * p + i) q' Y' → sFr (6 * p + i) Y Y' → q' = qBegin S.2.1 (S.2.2 i) → wX3_beginTick_71 (fun x1 Z => wX3_beginTick_2 p K n x1 Z) p (nI i) Y' K := by
      intro Y' q' r fr e
      unfold wX3_beginTick_71
      rintro _ rfl
      rw [nI_1]
      refine ih Y' ⟨(cRel.set (S := (S.1, S.2.1, fun s => if s < i then qBegin S.2.1 (S.2.2 s) else S.2.2 s)) hp hN hi y r fr).cg rfl rfl (fun s hs => ?_), f.tr (cFr.s hp (by omega) fr)⟩
      show (if s < i + 1 then qBegin S.2.1 (S.2.2 s) else S.2.2 s) = va_up (fun s => if s < i then qBegin S.2.1 (S.2.2 s) else S.2.2 s) i q' s
      rw [vup_ap]
      by_cases a : s = i
      · subst a; rw [if_pos rfl, if_pos (by omega), e]
      · rw [if_neg a]
        by_cases b : s < i
        · rw [if_pos b, if_pos (by omega)]
        · rw [if_neg b, if_neg (by omega)]
    rw [y1]
    refine br_f (nI_ge hi (by omega)) ⟨vp_in_nI (by omega) (by decide), ?_⟩
    rw [nI_clamp (by omega)]
    rintro _ rfl
    have k47 : ¬ S.2.2 i 7 = 2 ∨ S.2.1 < S.2.2 i 6 → wX3_beginTick_47 (fun x1 Z => wX3_beginTick_2 p K n x1 Z) p (nI i) (6 * p + i) Y K := by
      intro c
      unfold wX3_beginTick_47
      rw [ys.f 7 (by decide), y2]
      refine br_c (fun c3 => ?_) (fun c3 => ?_)
      · refine fin Y _ ys sFr.rf ?_
        unfold qBegin
        by_cases c2 : S.2.2 i 7 = 2
        · rw [if_pos c2, if_pos (c.resolve_left (fun a => a c2))]
        · rw [if_neg c2, if_neg c3]
      · have c3 := Classical.not_not.mp c3
        have c2 : ¬ S.2.2 i 7 = 2 := by rw [c3]; decide
        refine c_earned ys.1 (fun d => ?_) (fun d => ?_)
        · refine br_t rfl (fin Y _ ys sFr.rf ?_)
          unfold qBegin
          rw [if_neg c2, if_pos c3, if_pos d]
        · refine br_f (by decide) ?_
          refine c_idle ys (fun Z' r fr => fin Z' _ r fr ?_)
          unfold qBegin
          rw [if_neg c2, if_pos c3, if_neg d]
    rw [ys.f 7 (by decide), y2, ys.f 6 (by decide)]
    refine br_c (fun c2 => k47 (Or.inl c2)) (fun c2 => br_c (fun c => k47 (Or.inr c)) (fun c => ?_))
    have c2 := Classical.not_not.mp c2
    refine c_wake ys w.kind (w.rest c2) (fun Z' r fr => fin Z' _ r fr ?_)
    unfold qBegin
    rw [if_pos c2, if_neg c]
theorem pEar_lt (P : Nat → zQ) (n : Nat) : pEar P n = -4 ∨ ∃ j : Nat, j < n ∧ pEar P n = nI j ∧ P j 7 = 1 := by
  induction n with
  | zero => exact Or.inl rfl
  | succ n ih =>
    unfold pEar
    by_cases c : P n 7 = 1 ∧ (pEar P n = -4 ∨ ¬ P (pEar P n).toNatClampNeg 6 ≤ P n 6)
    · rw [if_pos c]; exact Or.inr ⟨n, by omega, rfl, c.1⟩
    · rw [if_neg c]
      rcases ih with a | ⟨j, a, b⟩
      · exact Or.inl a
      · exact Or.inr ⟨j, by omega, b⟩
theorem c_earliest {K : Int32 → zS → Prop} (hp : p < 3) (hN : S.1 ≤ 6) (h : cRel p S Z) (hk : K (pEar S.2.2 S.1) Z) : wX3_earliest p Z K := by
  unfold wX3_earliest
  rintro _ rfl _ rfl
  refine pk_loop (σ := Int32) (fun n i x => wX3_earliest_5 p K n x (nI i) Z) (fun i x => x = pEar S.2.2 i) S.1 0 (-4) (Nat.zero_le _) rfl ?_ ?_
  · rintro n x rfl
    show wX3_earliest_5b _ p _ (nI S.1) Z K
    unfold wX3_earliest_5b
    rw [h.1]
    exact br_t (nI_le (Nat.le_refl _) (by omega)) hk
  · rintro n i x hi rfl ih
    show wX3_earliest_5b (fun x1 x2 Z => wX3_earliest_5 p K n x1 x2 Z) p _ (nI i) Z K
    unfold wX3_earliest_5b
    have hin : vp_in (nI i) 6 := vp_in_nI (by omega) (by decide)
    have k55 : ∀ x, x = pEar S.2.2 (i + 1) → wX3_earliest_55 (fun x1 x2 Z => wX3_earliest_5 p K n x1 x2 Z) p x (nI i) Z K := by
      intro x e
      unfold wX3_earliest_55
      rintro _ rfl
      rw [nI_1]
      exact ih x e
    have k53 : S.2.2 i 7 = 1 ∧ (pEar S.2.2 i = -4 ∨ ¬ S.2.2 (pEar S.2.2 i).toNatClampNeg 6 ≤ S.2.2 i 6) → wX3_earliest_53 (fun x1 x2 Z => wX3_earliest_5 p K n x1 x2 Z) p (nI i) Z K := by
      intro c
      unfold wX3_earliest_53
      exact k55 _ (if_pos c).symm
    rw [h.1]
    refine br_f (nI_ge hi (by omega)) ⟨hin, ?_⟩
    rw [nI_clamp (by omega), (h.2.2 i hi).f 7 (by decide), (h.2.2 i hi).f 6 (by decide)]
    refine br_c (fun c => k55 _ (if_neg (fun a => c a.1)).symm) (fun c => ?_)
    have c := Classical.not_not.mp c
    refine br_c (fun a => k53 ⟨c, Or.inl a⟩) (fun a => ?_)
    obtain ⟨j, hj, ej, -⟩ := (pEar_lt S.2.2 i).resolve_left a
    have hj2 : vp_in (pEar S.2.2 i) 6 := by rw [ej]; exact vp_in_nI (by omega) (by decide)
    have hc : (pEar S.2.2 i).toNatClampNeg = j := by rw [ej]; exact nI_clamp (by omega)
    refine ⟨hin, hj2, ?_⟩
    rw [hc, (h.2.2 j (by omega)).f 6 (by decide)]
    refine br_c (fun b => k55 _ (if_neg (fun d => ?_)).symm) (fun b => k53 ⟨c, Or.inr (by rw [hc]; exact b)⟩)
    rcases d.2 with d | d
    · exact a d
    · rw [hc] at d; exact d b
theorem pHol_lt (P : Nat → zQ) (l : Int32) (n : Nat) : pHol P l n = -4 ∨ ∃ j : Nat, j < n ∧ pHol P l n = nI j ∧ ¬ P j 10 ≤ 0 ∧ ¬ P j 13 = 0 ∧ P j 30 = l := by
  induction n with
  | zero => exact Or.inl rfl
  | succ n ih =>
    unfold pHol
    rcases ih with a | ⟨j, a, b, c⟩
    · rw [if_pos a]
      by_cases c : ¬ P n 10 ≤ 0 ∧ ¬ P n 13 = 0 ∧ P n 30 = l
      · rw [if_pos c]; exact Or.inr ⟨n, by omega, rfl, c⟩
      · rw [if_neg c]; exact Or.inl rfl
    · by_cases d : pHol P l n = -4
      · rw [if_pos d]
        by_cases c : ¬ P n 10 ≤ 0 ∧ ¬ P n 13 = 0 ∧ P n 30 = l
        · rw [if_pos c]; exact Or.inr ⟨n, by omega, rfl, c⟩
        · rw [if_neg c]; exact Or.inl rfl
      · rw [if_neg d]; exact Or.inr ⟨j, by omega, b, c⟩
theorem pHol_stay (P : Nat → zQ) (l : Int32) {i : Nat} (h0 : ¬ pHol P l i = -4) (n : Nat) : pHol P l (i + n) = pHol P l i := by
  induction n with
  | zero => rfl
  | succ n ih =>
    show (if pHol P l (i + n) = -4 then _ else pHol P l (i + n)) = _
    rw [ih, if_neg h0]
theorem nI_n4 {i : Nat} (h : i < 2 ^ 31) : ¬ nI i = -4 := fun e => by
  have a := nI_toInt h
  rw [e] at a
  have b : ((-4 : Int32)).toInt = -4 := by decide
  rw [b] at a
  omega
theorem c_holder {l : Int32} {K : Int32 → zS → Prop} (hp : p < 3) (hN : S.1 ≤ 6) (h : cRel p S Z) (hk : K (pHold S l) Z) : wX3_holderOf p l Z K := by
  unfold wX3_holderOf
  unfold pHold at hk
  refine br_c (fun c => ?_) (fun c => ?_)
  · rw [if_neg c] at hk
    rintro _ rfl
    refine pk_loop (σ := Unit) (fun n i _ => wX3_holderOf_10 p l K n (nI i) Z) (fun i _ => pHol S.2.2 l i = -4) S.1 0 () (Nat.zero_le _) rfl ?_ ?_
    · rintro n _ e
      show wX3_holderOf_10b _ p l (nI S.1) Z K
      unfold wX3_holderOf_10b
      rw [h.1]
      rw [e] at hk
      exact br_t (nI_le (Nat.le_refl _) (by omega)) hk
    · rintro n i _ hi e ih
      show wX3_holderOf_10b (fun x2 Z => wX3_holderOf_10 p l K n x2 Z) p l (nI i) Z K
      unfold wX3_holderOf_10b
      rw [h.1]
      refine br_f (nI_ge hi (by omega)) ⟨vp_in_nI (by omega) (by decide), ?_⟩
      rw [nI_clamp (by omega)]
      have hs := h.2.2 i hi
      have no : ¬ (¬ S.2.2 i 10 ≤ 0 ∧ ¬ S.2.2 i 13 = 0 ∧ S.2.2 i 30 = l) → (∀ x : Int32, x = nI i + 1 → wX3_holderOf_10 p l K n x Z) := by
        intro a
        rintro _ rfl
        rw [nI_1]
        refine ih () ?_
        unfold pHol
        rw [if_pos e, if_neg a]
      unfold wX5_holdsLock
      rw [hs.f 10 (by decide), hs.h]
      refine br_c (fun a => br_t rfl (no (fun b => b.1 a))) (fun a => ?_)
      refine br_c (fun b => br_t rfl (no (fun d => d.2.1 b))) (fun b => ⟨vp_in_nI (n := 0) (by decide) (by decide), ?_⟩)
      have hj := hs.j 0 (by
        rcases Nat.eq_zero_or_pos (S.2.2 i 10).toNatClampNeg with z | z
        · exfalso
          have this : ¬ (S.2.2 i 10).toInt ≤ (0 : Int32).toInt := fun b => a (Int32.le_iff_toInt_le.mpr b)
          have e0 : ((0 : Int32)).toInt = 0 := rfl
          rw [e0] at this
          have e1 : (S.2.2 i 10).toNatClampNeg = (S.2.2 i 10).toInt.toNat := rfl
          omega
        · exact z)
      have z0 : (0 : Int32).toNatClampNeg = 0 := rfl
      rw [z0, hj.2]
      refine br_c (fun d => br_t rfl (no (fun f => d f.2.2))) (fun d => br_f (by decide) ?_)
      have d := Classical.not_not.mp d
      have e2 : pHol S.2.2 l (i + 1) = nI i := by unfold pHol; rw [if_pos e, if_pos ⟨a, b, d⟩]
      have e3 : pHol S.2.2 l S.1 = nI i := by
        have := pHol_stay S.2.2 l (i := i + 1) (by rw [e2]; exact nI_n4 (by omega)) (S.1 - (i + 1))
        rw [show i + 1 + (S.1 - (i + 1)) = S.1 by omega, e2] at this
        exact this
      rw [e3] at hk
      exact hk
  · rw [if_pos (Classical.not_not.mp c)] at hk
    exact hk
end PL
