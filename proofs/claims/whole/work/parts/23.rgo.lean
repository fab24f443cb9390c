/-! THE REFERENCE: a tick -/
section RG
variable {s : Nat} {q : zQ} {Z Z' : zS} {t : Int32} {S S' : zP}
def qB1 (t : Int32) (q : zQ) : zQ := if q 7 = 2 then (if t < q 6 then q else qWake q) else q
def qB2 (t : Int32) (q : zQ) : zQ := if q 7 = 3 then (if q 5 * q 3 < 60 * q 2 * (q 6 - t) then q else upd q 7 0) else q
theorem qB1_3 (h : qB1 t q 7 = 3) : qB1 t q = q := by
  unfold qB1 at h ⊢
  by_cases a : q 7 = 2
  · rw [if_pos a] at h ⊢
    by_cases b : t < q 6
    · rw [if_pos b]
    · rw [if_neg b] at h
      have e : qWake q 7 = 1 := by simp [qWake, upd_ap]
      rw [e] at h
      exact absurd h (by decide)
  · rw [if_neg a]
theorem qB_e : qB2 t (qB1 t q) = qBegin t q := by
  unfold qBegin
  by_cases a : q 7 = 2
  · rw [if_pos a]
    unfold qB1
    rw [if_pos a]
    by_cases b : t < q 6
    · rw [if_pos b]; unfold qB2; rw [if_neg (by rw [a]; decide)]
    · rw [if_neg b]
      have e : qWake q 7 = 1 := by simp [qWake, upd_ap]
      unfold qB2; rw [if_neg (by rw [e]; decide)]
  · rw [if_neg a]
    have e : qB1 t q = q := by unfold qB1; rw [if_neg a]
    rw [e]
    rfl
theorem r_beginsE {s : Nat} (hs : s < S.1) : (pBegin S).2.2 s = (if s < S.1 then qBegin S.2.1 (S.2.2 s) else qB1 S.2.1 (S.2.2 s)) := (if_pos hs).symm
theorem pB1 : (pBegin S).1 = S.1 := rfl
theorem pB2 : (pBegin S).2.1 = S.2.1 := rfl
theorem r_beginsF {Y : zS} (y : rRel (S.1, S.2.1, fun s => if s < S.1 then qBegin S.2.1 (S.2.2 s) else qB1 S.2.1 (S.2.2 s)) Y) : rRel (pBegin S) Y := rRel.cg (S := (S.1, S.2.1, fun s => if s < S.1 then qBegin S.2.1 (S.2.2 s) else qB1 S.2.1 (S.2.2 s))) y pB1 pB2 (fun s hs => r_beginsE hs)
theorem r_begins52x {L : Int32 → zS → Prop} {n : Nat} {Y : zS} {K : zS → Prop} (y1 : Y 97 1 = nI n) (hk : K Y) : wX12_begins_52b L (nI n) Y K := by
  unfold wX12_begins_52b
  rw [y1]
  exact br_t (Int32.le_refl _) hk
theorem r_begins2 {Y : zS} {K : zS → Prop} (hN : S.1 ≤ 6) (t0 : 0 ≤ S.2.1.toInt) (tT : S.2.1.toInt ≤ 20000) (hw : ∀ s, s < S.1 → wfQ S.2.1 (S.2.2 s)) (y : rRel (S.1, S.2.1, fun s => qB1 S.2.1 (S.2.2 s)) Y) (f : gFr Z Y) (hk : ∀ Z', rRel (pBegin S) Z' → gFr Z Z' → K Z') : ∃ n : Nat, wX12_begins_52 K n 0 Y := by
  refine pk_loop (σ := zS) (fun n i Y => wX12_begins_52 K n (nI i) Y) (fun i Y => rRel (S.1, S.2.1, fun s => if s < i then qBegin S.2.1 (S.2.2 s) else qB1 S.2.1 (S.2.2 s)) Y ∧ gFr Z Y) S.1 0 Y (Nat.zero_le _) ⟨y.cg rfl rfl (fun s hs => ?_), f⟩ ?_ ?_
  · show (if s < 0 then qBegin S.2.1 (S.2.2 s) else qB1 S.2.1 (S.2.2 s)) = qB1 S.2.1 (S.2.2 s)
    rw [if_neg (Nat.not_lt_zero s)]
  · rintro n Y ⟨y, f⟩
    show wX12_begins_52b _ (nI S.1) Y K
    have y1 : Y 97 1 = nI S.1 := y.1
    have hb : rRel (pBegin S) Y := r_beginsF y
    exact r_begins52x y1 (hk Y hb f)
  · rintro n i Y hi ⟨y, f⟩ ih
    show wX12_begins_52b (fun x1 Z => wX12_begins_52 K n x1 Z) (nI i) Y K
    unfold wX12_begins_52b
    have y1 : Y 97 1 = nI S.1 := y.1
    have y0 : Y 97 0 = S.2.1 := y.2.1
    have ys : rAt i (qB1 S.2.1 (S.2.2 i)) Y := by
      have a := y.2.2 i hi
      dsimp only at a
      rw [if_neg (Nat.lt_irrefl i)] at a
      exact a
    have fin : ∀ Y' q', rAt i q' Y' → rFr i Y Y' → q' = qBegin S.2.1 (S.2.2 i) → wX12_begins_91 (fun x1 Z => wX12_begins_52 K n x1 Z) (nI i) Y' K := by
      intro Y' q' r fr e
      unfold wX12_begins_91
      rintro _ rfl
      rw [nI_1]
      refine ih Y' ⟨(rRel.set (S := (S.1, S.2.1, fun s => if s < i then qBegin S.2.1 (S.2.2 s) else qB1 S.2.1 (S.2.2 s))) hN hi y r fr).cg rfl rfl (fun s hs => ?_), f.tr (gFr.s fr)⟩
      rw [pSet_at]
      show (if s < i + 1 then qBegin S.2.1 (S.2.2 s) else qB1 S.2.1 (S.2.2 s)) = (if s = i then q' else if s < i then qBegin S.2.1 (S.2.2 s) else qB1 S.2.1 (S.2.2 s))
      by_cases a : s = i
      · rw [if_pos a, if_pos (by omega), e, a]
      · rw [if_neg a]
        by_cases b : s < i
        · rw [if_pos b, if_pos (by omega)]
        · rw [if_neg b, if_neg (by omega)]
    have e7 : Y 98 (36 + i) = qB1 S.2.1 (S.2.2 i) 7 := ys.2.2.2.2.2.2.1
    rw [y1]
    refine br_f (nI_ge hi (by omega)) ?_
    simp (disch := omega) only [zlit_add, nI_clamp, vp_in_nI, true_and]
    rw [e7]
    refine br_c (fun c => fin Y _ ys rFr.rf ?_) (fun c => ?_)
    · rw [← qB_e]; unfold qB2; rw [if_neg c]
    · have c := Classical.not_not.mp c
      have eq := qB1_3 c
      rw [eq] at ys c
      have w := hw i hi
      refine r_ahead (by omega) ys y0 ?_
      have eB : qBegin S.2.1 (S.2.2 i) = qB2 S.2.1 (S.2.2 i) := by rw [← qB_e, eq]
      refine br_c (fun d => fin Y _ ys rFr.rf ?_) (fun d => ?_)
      · rw [eB]; unfold qB2; rw [if_pos c, if_pos ((zahead w.1 t0 tT).mp d)]
      · rintro Z17 rfl
        refine fin _ (upd (S.2.2 i) 7 0) ?_ (rFr.u _ _ (by omega)) ?_
        · obtain ⟨e0, e1, e2, e3, e5, e6, e7, e10, e8, e9, e13, e14, ej⟩ := ys
          refine ⟨?_, ?_, ?_, ?_, ?_, ?_, ?_, ?_, ?_, ?_, ?_, ?_, ?_⟩
          case refine_12 => intro a; simpa [zU_ap, upd_ap] using e14 (by simpa [upd_ap] using a)
          case refine_13 => intro i h4 hi; simpa [zU_ap, upd20, upd30] using ej i h4 (by simpa [upd_ap] using hi)
          all_goals simp [zU_ap, upd_ap, e0, e1, e2, e3, e5, e6, e7, e10, e8, e9, e13]
        · rw [eB]; unfold qB2; rw [if_pos c, if_neg (fun x => d ((zahead w.1 t0 tT).mpr x))]
theorem r_begins {K : zS → Prop} (hN : S.1 ≤ 6) (t0 : 0 ≤ S.2.1.toInt) (tT : S.2.1.toInt ≤ 20000) (hw : ∀ s, s < S.1 → wfQ S.2.1 (S.2.2 s)) (h : rRel S Z) (hk : ∀ Z', rRel (pBegin S) Z' → gFr Z Z' → K Z') : wX12_begins Z K := by
  unfold wX12_begins
  rintro _ rfl
  refine pk_loop (σ := zS) (fun n i Y => wX12_begins_2 K n (nI i) Y) (fun i Y => rRel (S.1, S.2.1, fun s => if s < i then qB1 S.2.1 (S.2.2 s) else S.2.2 s) Y ∧ gFr Z Y) S.1 0 Z (Nat.zero_le _) ⟨h.cg rfl rfl (fun s _ => (show (if s < 0 then qB1 S.2.1 (S.2.2 s) else S.2.2 s) = S.2.2 s from if_neg (Nat.not_lt_zero s))), gFr.rf⟩ ?_ ?_
  · rintro n Y ⟨y, f⟩
    show wX12_begins_2b _ (nI S.1) Y K
    unfold wX12_begins_2b
    rw [y.1]
    refine br_t (Int32.le_refl _) ?_
    rintro _ rfl
    exact r_begins2 hN t0 tT hw (y.cg rfl rfl (fun s hs => (if_pos hs).symm)) f hk
  · rintro n i Y hi ⟨y, f⟩ ih
    show wX12_begins_2b (fun x1 Z => wX12_begins_2 K n x1 Z) (nI i) Y K
    unfold wX12_begins_2b
    have y1 : Y 97 1 = nI S.1 := y.1
    have y0 : Y 97 0 = S.2.1 := y.2.1
    have ys : rAt i (S.2.2 i) Y := by
      have a := y.2.2 i hi
      dsimp only at a
      rw [if_neg (Nat.lt_irrefl i)] at a
      exact a
    have fin : ∀ Y' q', rAt i q' Y' → rFr i Y Y' → q' = qB1 S.2.1 (S.2.2 i) → wX12_begins_44 (fun x1 Z => wX12_begins_2 K n x1 Z) (nI i) Y' K := by
      intro Y' q' r fr e
      unfold wX12_begins_44
      rintro _ rfl
      rw [nI_1]
      refine ih Y' ⟨(rRel.set (S := (S.1, S.2.1, fun s => if s < i then qB1 S.2.1 (S.2.2 s) else S.2.2 s)) hN hi y r fr).cg rfl rfl (fun s hs => ?_), f.tr (gFr.s fr)⟩
      rw [pSet_at]
      show (if s < i + 1 then qB1 S.2.1 (S.2.2 s) else S.2.2 s) = (if s = i then q' else if s < i then qB1 S.2.1 (S.2.2 s) else S.2.2 s)
      by_cases a : s = i
      · rw [if_pos a, if_pos (by omega), e, a]
      · rw [if_neg a]
        by_cases b : s < i
        · rw [if_pos b, if_pos (by omega)]
        · rw [if_neg b, if_neg (by omega)]
    have e6 : Y 98 (30 + i) = S.2.2 i 6 := ys.2.2.2.2.2.1
    have e7 : Y 98 (36 + i) = S.2.2 i 7 := ys.2.2.2.2.2.2.1
    rw [y1, y0]
    refine br_f (nI_ge hi (by omega)) ?_
    simp (disch := omega) only [zlit_add, nI_clamp, vp_in_nI, true_and]
    rw [e7, e6]
    refine br_c (fun c => fin Y _ ys rFr.rf (by unfold qB1; rw [if_neg c])) (fun c => ?_)
    have c := Classical.not_not.mp c
    refine br_c (fun d => fin Y _ ys rFr.rf (by unfold qB1; rw [if_pos c, if_pos d])) (fun d => ?_)
    exact r_wakes (by omega) ys (fun Z' r fr => fin Z' _ r fr (by unfold qB1; rw [if_pos c, if_neg d]))
end RG
