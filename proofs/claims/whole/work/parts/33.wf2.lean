/-! WHAT CALLS CHANGE STAYS AS IT MUST BE; two phases: the class has gone on, the reference not yet -/
section W2
variable {t : Int32} {q : zQ} {S S' Q : zP} {Z Z' : zS}
theorem zW_n {b lo hi : Int32} (l n : Nat) (hl : lo.toInt = (l : Int)) (hh : hi.toInt = (n : Int)) (hn : n < 2 ^ 31) (h : zW b lo hi) : ∃ j : Nat, l ≤ j ∧ j ≤ n ∧ b = nI j := by
  have h1 := zle.mp h.1
  have h2 := zle.mp h.2
  refine ⟨b.toInt.toNat, by omega, by omega, Int32.toInt_inj.mp ?_⟩
  rw [nI_toInt (by omega)]
  omega
theorem wf0.drop (w : wf0 t q) : wfQ t (qDrop q) := by
  have e : ∀ k, ¬ k = 7 → ¬ k = 10 → ¬ k = 13 → qDrop q k = q k := fun k a b c => by simp [qDrop, upd_ap, a, b, c]
  have k7 : qDrop q 7 = 0 := by simp [qDrop, upd_ap]
  have k10 : qDrop q 10 = 0 := by simp [qDrop, upd_ap]
  have k13 : qDrop q 13 = 0 := by simp [qDrop, upd_ap]
  refine ⟨⟨w.kind, w.fig, w.bud, w.per, w.part, w.left, w.dl, Or.inl k7, w.late, w.done, ?_, ?_, ?_, ?_, fun _ => k13, fun i hi => ?_⟩, fun a => ?_⟩
  · rw [k10]; exact ⟨by rw [zi0]; decide, by rw [zi0]; decide⟩
  · rw [k10, k7]; exact ⟨fun _ => Or.inl rfl, fun _ => rfl⟩
  · rw [k7]; intro a; exact absurd a (by decide)
  · rw [k13]; exact Or.inl rfl
  · rw [k10] at hi; exact absurd hi (Nat.not_lt_zero _)
  · rw [k7] at a; exact absurd a (by decide)
theorem wfQ.take {w l : Int32} {j : Nat} (ht : 0 ≤ t.toInt) (hT : t.toInt ≤ 20000) (h : wfQ t q) (hj : q 10 = nI j) (hj4 : j < 4) (hw : zin w 1 9) (hl : zin l 0 3) : wfQ t (qTake t w l q) := by
  have b1 := h.bud.1
  have b2 := h.bud.2
  have p1 := h.per.1
  have p2 := h.per.2
  have e60 := z60b h.bud
  have eJ := qJob_e (w := w) (l := l) hj (by omega)
  have hc : (nI j).toNatClampNeg = j := nI_clamp (by omega)
  have j0 : ∀ k, k < 20 → ¬ k = 10 → qJob w l q k = q k := fun k h1 h2 => by rw [eJ]; simp [upd_ap, h2, show ¬ k = 20 + j by omega, show ¬ k = 30 + j by omega]
  have j10 : qJob w l q 10 = nI (j + 1) := by rw [eJ, upd_ap, if_pos rfl]
  have zj : zin (nI (j + 1)) 0 4 := zin_of (n := 4) (by omega) (by decide)
  have nj : ¬ nI (j + 1) = 0 := nI_ne0 (by omega) (by omega)
  have jobs : ∀ q' : zQ, q' 10 = nI (j + 1) → (∀ i, q' (20 + i) = qJob w l q (20 + i) ∧ q' (30 + i) = qJob w l q (30 + i)) → ∀ i : Nat, i < (q' 10).toNatClampNeg → zin (q' (20 + i)) 1 9 ∧ zin (q' (30 + i)) 0 3 := by
    intro q' e10 e i hi
    rw [e10, nI_clamp (by omega)] at hi
    rw [(e i).1, (e i).2, eJ]
    rcases Nat.lt_or_ge i j with a | a
    · have := h.job i (by rw [hj, hc]; exact a)
      simp [upd_ap, show ¬ i = j by omega, show ¬ 20 + i = 30 + j by omega, show ¬ 30 + i = 20 + j by omega, show ¬ 20 + i = 10 by omega, show ¬ 30 + i = 10 by omega]
      exact this
    · have e : i = j := by omega
      subst e
      simp [upd_ap, show ¬ 20 + i = 30 + i by omega, show ¬ 20 + i = 10 by omega, show ¬ 30 + i = 10 by omega]
      exact ⟨hw, hl⟩
  unfold qTake
  by_cases c12 : q 7 = 1 ∨ q 7 = 2
  · rw [if_pos c12]
    have g : ∀ k, k < 20 → ¬ k = 10 → qJob w l q k = q k := j0
    refine ⟨⟨?_, ?_, ?_, ?_, ?_, ?_, ?_, ?_, ?_, ?_, ?_, ?_, ?_, ?_, ?_, jobs _ j10 (fun i => ⟨rfl, rfl⟩)⟩, ?_⟩
    · rw [g 0 (by decide) (by decide)]; exact h.kind
    · rw [g 1 (by decide) (by decide)]; exact h.fig
    · rw [g 2 (by decide) (by decide)]; exact h.bud
    · rw [g 2 (by decide) (by decide), g 3 (by decide) (by decide)]; exact h.per
    · rw [g 4 (by decide) (by decide), g 2 (by decide) (by decide), g 3 (by decide) (by decide)]; exact h.part
    · rw [g 5 (by decide) (by decide)]; exact h.left
    · rw [g 6 (by decide) (by decide)]; exact h.dl
    · rw [g 7 (by decide) (by decide)]; exact h.st
    · rw [g 8 (by decide) (by decide)]; exact h.late
    · rw [g 9 (by decide) (by decide)]; exact h.done
    · rw [j10]; exact zj
    · rw [j10, g 7 (by decide) (by decide)]
      refine ⟨fun a => absurd a nj, fun a => ?_⟩
      rcases c12 with c | c <;> rw [c] at a <;> rcases a with a | a <;> exact absurd a (by decide)
    · rw [g 7 (by decide) (by decide), g 5 (by decide) (by decide)]; exact h.rest
    · rw [g 13 (by decide) (by decide)]; exact h.hold
    · rw [j10]; intro a; exact absurd a nj
    · rw [g 7 (by decide) (by decide), g 5 (by decide) (by decide)]; exact h.ready
  · rw [if_neg c12]
    have a03 : q 7 = 0 ∨ q 7 = 3 := by rcases h.st with c | c | c | c <;> simp_all
    have h13 : q 13 = 0 := h.hold0 (h.idle.mpr a03)
    have fin : ∀ q' : zQ, (∀ k, k < 20 → ¬ k = 10 → ¬ k = 5 → ¬ k = 6 → ¬ k = 7 → ¬ k = 14 → q' k = q k) → q' 10 = nI (j + 1) → q' 7 = 1 → zin (q' 5) 1 1800 → zin (q' 6) 0 (60 * t.toInt + 120) → (∀ i, q' (20 + i) = qJob w l q (20 + i) ∧ q' (30 + i) = qJob w l q (30 + i)) → wfQ t q' := by
      intro q' g g10 g7 g5 g6 gj
      refine ⟨⟨?_, ?_, ?_, ?_, ?_, ?_, g6, ?_, ?_, ?_, ?_, ?_, ?_, ?_, ?_, jobs _ g10 gj⟩, ?_⟩
      · rw [g 0 (by decide) (by decide) (by decide) (by decide) (by decide) (by decide)]; exact h.kind
      · rw [g 1 (by decide) (by decide) (by decide) (by decide) (by decide) (by decide)]; exact h.fig
      · rw [g 2 (by decide) (by decide) (by decide) (by decide) (by decide) (by decide)]; exact h.bud
      · rw [g 2 (by decide) (by decide) (by decide) (by decide) (by decide) (by decide), g 3 (by decide) (by decide) (by decide) (by decide) (by decide) (by decide)]; exact h.per
      · rw [g 4 (by decide) (by decide) (by decide) (by decide) (by decide) (by decide), g 2 (by decide) (by decide) (by decide) (by decide) (by decide) (by decide), g 3 (by decide) (by decide) (by decide) (by decide) (by decide) (by decide)]; exact h.part
      · exact ⟨by have := g5.1; omega, g5.2⟩
      · rw [g7]; exact Or.inr (Or.inl rfl)
      · rw [g 8 (by decide) (by decide) (by decide) (by decide) (by decide) (by decide)]; exact h.late
      · rw [g 9 (by decide) (by decide) (by decide) (by decide) (by decide) (by decide)]; exact h.done
      · rw [g10]; exact zj
      · rw [g10, g7]
        exact ⟨fun a => absurd a nj, fun a => by rcases a with a | a <;> exact absurd a (by decide)⟩
      · rw [g7]; intro a; exact absurd a (by decide)
      · rw [g 13 (by decide) (by decide) (by decide) (by decide) (by decide) (by decide)]; exact h.hold
      · rw [g10]; intro a; exact absurd a nj
      · intro _ a
        have a := zle.mp a
        have := g5.1
        rw [zi0] at a
        omega
    by_cases c : q 7 = 0 ∨ q 5 ≤ 0 ∨ ¬ (q 5 * q 3 < 60 * q 2 * (q 6 - t))
    · rw [if_pos c]
      have eD : (t + q 3).toInt = t.toInt + (q 3).toInt := zadd (by omega) (by omega)
      refine fin _ (fun k h20 h10 h5 h6 h7 h14 => ?_) ?_ ?_ ?_ ?_ (fun i => ?_)
      · simp [upd_ap, h5, h6, h7, h14, j0 k h20 h10]
      · simp [upd_ap, j10]
      · simp [upd_ap]
      · show zin (60 * q 2) 1 1800
        unfold zin
        rw [e60]; omega
      · show zin (t + q 3) 0 _
        unfold zin
        rw [eD]; omega
      · exact ⟨by simp [upd20], by simp [upd30]⟩
    · rw [if_neg c]
      have l1 : ¬ (q 5).toInt ≤ (0 : Int32).toInt := fun a => c (Or.inr (Or.inl (zle.mpr a)))
      rw [zi0] at l1
      have l2 := h.left.2
      refine fin _ (fun k h20 h10 h5 h6 h7 h14 => ?_) ?_ ?_ ?_ ?_ (fun i => ?_)
      · simp [upd_ap, h7, h14, j0 k h20 h10]
      · simp [upd_ap, j10]
      · simp [upd_ap]
      · have e : upd (upd (qJob w l q) 7 1) 14 (q 6) 5 = q 5 := by simp [upd_ap, j0]
        rw [e]; exact ⟨by omega, l2⟩
      · have e : upd (upd (qJob w l q) 7 1) 14 (q 6) 6 = q 6 := by simp [upd_ap, j0]
        rw [e]; exact h.dl
      · exact ⟨by simp [upd20], by simp [upd30]⟩
theorem wfP.set {T s : Nat} (h : wfP T S) (hq : wfQ S.2.1 q) : wfP T (pSet S s q) := by
  refine ⟨h.1, h.2.1, fun s' hs => ?_⟩
  rw [pSet_at]
  by_cases a : s' = s
  · rw [if_pos a]; exact hq
  · rw [if_neg a]; exact h.2.2 s' hs
def zJ (S S' Q : zP) (Z : zS) : Prop := wfP 9999 S ∧ wfP 9999 S' ∧ cRel 0 S' Z ∧ rRel S Z ∧ imRel Q Z ∧ (∀ d, d < 8 → shRel d Z) ∧ ∀ t, t < 4 → trRel t Z
theorem cFr.o {p : Nat} (hp : p < 3) (f : cFr p Z Z') {i : Nat} (h : 57 ≤ i) : Z' i = Z i := f i (by rw [cOwn_e h]; omega)
theorem zI.c (h : zI S Q Z) (f : cFr 0 Z Z') (r : cRel 0 S' Z') (w : wfP 9999 S') : zJ S S' Q Z' := by
  obtain ⟨hw, hc, hr, hi, hs, ht⟩ := h
  have o : ∀ i, 57 ≤ i → Z' i = Z i := fun i hi => f.o (by decide) hi
  refine ⟨hw, w, r, hr.mv (by rw [o 97 (by decide)]) (by rw [o 97 (by decide)]) (o _ (by decide)) (o _ (by decide)) (o _ (by decide)), ?_, fun d hd => ?_, fun t h4 => ?_⟩
  · refine ⟨by rw [o 97 (by decide), o 96 (by decide)]; exact hi.1, ?_⟩
    rcases hi.2 with a | ⟨a, b, c, d⟩
    · exact Or.inl (by rw [o 96 (by decide)]; exact a)
    · exact Or.inr ⟨by rw [o 96 (by decide)]; exact a, b, c.fr (by decide) b.1 (by decide) f, d.mv (o _ (by decide))⟩
  · exact (hs d hd).mv (o _ (by omega)) (o _ (by omega)) (o _ (by decide)) (o _ (by decide)) (o _ (by decide)) (o _ (by decide))
  · exact (ht t h4).mv (o _ (by omega)) (o _ (by omega)) (o _ (by decide)) (o _ (by decide)) (o _ (by decide))
theorem zJ.r (h : zJ S S' Q Z) (f : hFr Z Z') (r : rRel S' Z') : zI S' Q Z' := by
  obtain ⟨hw, hw', hc, hr, hi, hs, ht⟩ := h
  have f1 : ∀ i, i < 97 → Z' i = Z i := fun i hi => f.1 i (Or.inl hi)
  refine ⟨hw', hc.hf (by decide) hw'.1 f1, r, ?_, fun d hd => ?_, fun t h4 => ?_⟩
  · refine ⟨by rw [f.2, f1 96 (by decide)]; exact hi.1, ?_⟩
    rcases hi.2 with a | ⟨a, b, c, d⟩
    · exact Or.inl (by rw [f1 96 (by decide)]; exact a)
    · exact Or.inr ⟨by rw [f1 96 (by decide)]; exact a, b, c.hf (by decide) b.1 f1, d.mv (f.1 103 (by decide))⟩
  · exact (hs d hd).mv (f1 _ (by omega)) (f1 _ (by omega)) (f.1 _ (by decide)) (f.1 _ (by decide)) (f.1 _ (by decide)) (f.1 _ (by decide))
  · exact (ht t h4).mv (f1 _ (by omega)) (f1 _ (by omega)) (f.1 _ (by decide)) (f.1 _ (by decide)) (f.1 _ (by decide))
end W2
