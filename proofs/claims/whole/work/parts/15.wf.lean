/-! WHAT STAYS AS IT MUST BE -/
section WF
variable {t : Int32} {q : zQ} {S : zP}
theorem zle {a b : Int32} : a ≤ b ↔ a.toInt ≤ b.toInt := Int32.le_iff_toInt_le
theorem zlt {a b : Int32} : a < b ↔ a.toInt < b.toInt := Int32.lt_iff_toInt_lt
theorem zi0 : (0 : Int32).toInt = 0 := rfl
theorem zi1 : (1 : Int32).toInt = 1 := rfl
theorem zi2 : (2 : Int32).toInt = 2 := rfl
theorem zi60 : (60 : Int32).toInt = 60 := rfl
theorem z60b (h : zin (q 2) 1 30) : (60 * q 2).toInt = 60 * (q 2).toInt := by
  have := h.1
  have := h.2
  rw [zmul (by rw [zi60]; omega) (by rw [zi60]; omega), zi60]
theorem qGreedy_in (w : wf0 t q) (load : Int32) : zin (qGreedy load q) 1 60 ∧ (q 4).toInt ≤ (qGreedy load q).toInt := by
  have h4 := w.part.2
  have h1 := h4.1
  have h2 := h4.2
  have hm : (q 4).toInt ≤ (qMax load q).toInt := by
    unfold qMax
    by_cases c : load < q 4
    · rw [if_pos c]; omega
    · rw [if_neg c]; exact Int.not_lt.mp (fun a => c (zlt.mpr a))
  unfold qGreedy
  by_cases c : qMax load q < 60
  · rw [if_pos c]
    have := zlt.mp c
    rw [zi60] at this
    exact ⟨⟨by omega, by omega⟩, hm⟩
  · rw [if_neg c]
    exact ⟨⟨by rw [zi60]; omega, by rw [zi60]; omega⟩, by rw [zi60]; omega⟩
theorem qPays_in (w : wf0 t q) (load : Int32) : zin (qPays load q) 1 60 := by
  obtain ⟨⟨g1, g2⟩, g3⟩ := qGreedy_in w load
  have h4 := w.part.2
  have f1 := w.fig.1
  have f2 := w.fig.2
  have h41 := h4.1
  have h42 := h4.2
  have i60 : zin 60 1 60 := ⟨by rw [zi60]; omega, by rw [zi60]; omega⟩
  rcases w.kind with e | e | e | e | e | e
  · rw [qPays_0 e]; exact i60
  · rw [qPays_1 e]; exact ⟨g1, g2⟩
  · rw [qPays_2 e]; exact i60
  · rw [qPays_3 e]
    by_cases c : qGreedy load q - q 1 < q 4
    · rw [if_pos c]; exact h4
    · rw [if_neg c]
      have a := Int.not_lt.mp (fun a => c (zlt.mpr a))
      have b : (qGreedy load q - q 1).toInt = (qGreedy load q).toInt - (q 1).toInt := zsub (by omega) (by omega)
      exact ⟨by omega, by omega⟩
  · rw [qPays_4 e]
    have b : (60 + qGreedy load q).toInt = 60 + (qGreedy load q).toInt := by rw [zadd (by rw [zi60]; omega) (by rw [zi60]; omega), zi60]
    have d : ((60 + qGreedy load q) / 2).toInt = (60 + (qGreedy load q).toInt).tdiv 2 := by
      rw [Int32.toInt_div_of_ne_right _ _ (by decide), b]; rfl
    have e2 : (60 + (qGreedy load q).toInt).tdiv 2 = (60 + (qGreedy load q).toInt) / 2 := Int.tdiv_eq_ediv_of_nonneg (by omega)
    unfold zin
    rw [d, e2]
    omega
  · rw [qPays_5 e]; exact i60
theorem wf0.mono {t' : Int32} (w : wf0 t q) (h : t.toInt ≤ t'.toInt) : wf0 t' q := ⟨w.kind, w.fig, w.bud, w.per, w.part, w.left, ⟨w.dl.1, by have := w.dl.2; omega⟩, w.st, w.late, w.done, w.jobs, w.idle, w.rest, w.hold, w.hold0, w.job⟩
theorem wfQ.mono {t' : Int32} (w : wfQ t q) (h : t.toInt ≤ t'.toInt) : wfQ t' q := ⟨w.1.mono h, w.2⟩
theorem wfQ.begin_ (ht : 0 ≤ t.toInt) (hT : t.toInt ≤ 20000) (w : wfQ t q) : wfQ t (qBegin t q) := by
  have b1 := w.bud.1
  have b2 := w.bud.2
  have l1 := w.left.1
  have l2 := w.left.2
  have d1 := w.dl.1
  have d2 := w.dl.2
  have p1 := w.per.1
  have p2 := w.per.2
  have e60 := z60b w.bud
  unfold qBegin
  by_cases c2 : q 7 = 2
  · rw [if_pos c2]
    by_cases c : t < q 6
    · rw [if_pos c]; exact w
    · rw [if_neg c]
      have c := Int.not_lt.mp (fun a => c (zlt.mpr a))
      have r := zle.mp (w.rest c2)
      rw [zi0] at r
      have n0 : ¬ q 10 = 0 := fun a => by rcases w.idle.mp a with b | b <;> rw [c2] at b <;> exact absurd b (by decide)
      have eL : zin (60 * q 2 + (if q 0 = 5 then q 5 else 0)) 1 1800 := by
        unfold zin
        by_cases c5 : q 0 = 5
        · rw [if_pos c5, zadd (by omega) (by omega), e60]; omega
        · rw [if_neg c5, zadd (by rw [zi0]; omega) (by rw [zi0]; omega), e60, zi0]; omega
      have eD : (q 6 + q 3).toInt = (q 6).toInt + (q 3).toInt := zadd (by omega) (by omega)
      have k0 : ∀ k, ¬ k = 5 → ¬ k = 6 → ¬ k = 7 → qWake q k = q k := fun k h5 h6 h7 => by simp [qWake, upd_ap, h5, h6, h7]
      have k5 : qWake q 5 = 60 * q 2 + (if q 0 = 5 then q 5 else 0) := by simp [qWake, upd_ap]
      have k6 : qWake q 6 = q 6 + q 3 := by simp [qWake, upd_ap]
      have k7 : qWake q 7 = 1 := by simp [qWake, upd_ap]
      have kw : ∀ i, qWake q (20 + i) = q (20 + i) := fun i => k0 _ (by omega) (by omega) (by omega)
      have kl : ∀ i, qWake q (30 + i) = q (30 + i) := fun i => k0 _ (by omega) (by omega) (by omega)
      have e := fun k h5 h6 h7 => k0 k h5 h6 h7
      refine ⟨⟨?_, ?_, ?_, ?_, ?_, ?_, ?_, ?_, ?_, ?_, ?_, ?_, ?_, ?_, ?_, ?_⟩, ?_⟩
      · rw [e 0 (by decide) (by decide) (by decide)]; exact w.kind
      · rw [e 1 (by decide) (by decide) (by decide)]; exact w.fig
      · rw [e 2 (by decide) (by decide) (by decide)]; exact w.bud
      · rw [e 2 (by decide) (by decide) (by decide), e 3 (by decide) (by decide) (by decide)]; exact w.per
      · rw [e 4 (by decide) (by decide) (by decide), e 2 (by decide) (by decide) (by decide), e 3 (by decide) (by decide) (by decide)]; exact w.part
      · rw [k5]; exact ⟨by have := eL.1; omega, eL.2⟩
      · rw [k6]; unfold zin; rw [eD]; omega
      · rw [k7]; exact Or.inr (Or.inl rfl)
      · rw [e 8 (by decide) (by decide) (by decide)]; exact w.late
      · rw [e 9 (by decide) (by decide) (by decide)]; exact w.done
      · rw [e 10 (by decide) (by decide) (by decide)]; exact w.jobs
      · rw [e 10 (by decide) (by decide) (by decide), k7]
        exact ⟨fun a => absurd a n0, fun a => by rcases a with a | a <;> exact absurd a (by decide)⟩
      · rw [k7]; intro a; exact absurd a (by decide)
      · rw [e 13 (by decide) (by decide) (by decide)]; exact w.hold
      · rw [e 10 (by decide) (by decide) (by decide)]; intro a; exact absurd a n0
      · rw [e 10 (by decide) (by decide) (by decide)]; intro i hi; rw [kw, kl]; exact w.job i hi
      · intro _ a
        rw [k5] at a
        have a := zle.mp a
        have := eL.1
        rw [zi0] at a
        omega
  · rw [if_neg c2]
    by_cases c3 : q 7 = 3
    · rw [if_pos c3]
      by_cases c : q 5 * q 3 < 60 * q 2 * (q 6 - t)
      · rw [if_pos c]; exact w
      · rw [if_neg c]
        have n0 : q 10 = 0 := w.idle.mpr (Or.inr c3)
        have e : ∀ k, ¬ k = 7 → upd q 7 0 k = q k := fun k h => if_neg h
        refine ⟨⟨w.kind, w.fig, w.bud, w.per, w.part, w.left, w.dl, Or.inl rfl, w.late, w.done, w.jobs, ⟨fun _ => Or.inl rfl, fun _ => n0⟩, fun a => absurd (show (0 : Int32) = 2 from a) (by decide), w.hold, w.hold0, fun i hi => ?_⟩, fun a => absurd (show (0 : Int32) = 1 from a) (by decide)⟩
        rw [e (20 + i) (by omega), e (30 + i) (by omega)]
        exact w.job i hi
    · rw [if_neg c3]; exact w
theorem wfQ.pay (w : wfQ t q) (h7 : q 7 = 1) (load : Int32) : wf0 t (upd q 5 (q 5 - qPays load q)) := by
  have hp := qPays_in w.1 load
  have p1 := hp.1
  have p2 := hp.2
  have l2 := w.left.2
  have l1 : ¬ (q 5).toInt ≤ (0 : Int32).toInt := fun a => w.ready h7 (zle.mpr a)
  rw [zi0] at l1
  have e : (q 5 - qPays load q).toInt = (q 5).toInt - (qPays load q).toInt := zsub (by omega) (by omega)
  have e5 : ∀ k, ¬ k = 5 → upd q 5 (q 5 - qPays load q) k = q k := fun k h => if_neg h
  refine ⟨w.kind, w.fig, w.bud, w.per, w.part, ?_, w.dl, w.st, w.late, w.done, w.jobs, w.idle, fun a => ?_, w.hold, w.hold0, fun i hi => ?_⟩
  · show zin (q 5 - qPays load q) _ _
    unfold zin; rw [e]; omega
  · have a : q 7 = 2 := a
    rw [h7] at a
    exact absurd a (by decide)
  · rw [e5 (20 + i) (by omega), e5 (30 + i) (by omega)]
    exact w.job i hi
theorem qMore_in {x : Int32} (h : zin x 0 999) : zin (qMore x) 0 999 := by
  by_cases c : 999 ≤ x
  · rw [qMore_le h c]; exact h
  · rw [qMore_lt h c]
    have c2 : ¬ (999 : Int) ≤ x.toInt := fun a => c (zle.mpr a)
    have h0 := h.1
    have e1 : (x + 1).toInt = x.toInt + 1 := zadd (a := x) (b := 1) (by rw [zi1]; omega) (by rw [zi1]; omega)
    unfold zin
    rw [e1]
    omega
/-- the job now runs a tick -/
theorem wf0.run1 (w : wf0 t q) (n0 : ¬ q 10 = 0) (ne : ¬ q 20 - 1 = 0) : wf0 t (qRun1 t q) := by
  have hc : 0 < (q 10).toNatClampNeg := by
    obtain ⟨j, hj, e⟩ := zin_nI (n := 4) w.jobs (by decide)
    rw [e, nI_clamp (by omega)]
    rcases Nat.eq_zero_or_pos j with z | z
    · exact absurd (by rw [e, z]; rfl) n0
    · exact z
  have h20 := (w.job 0 hc).1
  have h1 := h20.1
  have h2 := h20.2
  have e20 : (q 20 - 1).toInt = (q 20).toInt - 1 := zsub (a := q 20) (b := 1) (by rw [zi1]; show _ ≤ (q (20 + 0)).toInt - 1; omega) (by rw [zi1]; show (q (20 + 0)).toInt - 1 ≤ _; omega)
  have n20 : ¬ (q 20 - 1).toInt = (0 : Int32).toInt := fun a => ne (Int32.toInt_inj.mp a)
  rw [zi0] at n20
  have k : ∀ k, ¬ k = 8 → ¬ k = 13 → ¬ k = 20 → qRun1 t q k = q k := fun k a b c => by simp [qRun1, upd_ap, a, b, c]
  have k8 : qRun1 t q 8 = if t < q 14 then q 8 else qMore (q 8) := by simp [qRun1, upd_ap]
  have k13 : qRun1 t q 13 = if q 30 = 3 then 0 else 1 := by simp [qRun1, upd_ap]
  have k20 : qRun1 t q 20 = q 20 - 1 := by simp [qRun1, upd_ap]
  refine ⟨w.kind, w.fig, w.bud, w.per, w.part, w.left, w.dl, w.st, ?_, w.done, w.jobs, w.idle, w.rest, ?_, fun a => absurd (show q 10 = 0 from a) n0, fun i hi => ?_⟩
  · rw [k8]
    by_cases c : t < q 14
    · rw [if_pos c]; exact w.late
    · rw [if_neg c]; exact qMore_in w.late
  · rw [k13]
    by_cases c : q 30 = 3
    · rw [if_pos c]; exact Or.inl rfl
    · rw [if_neg c]; exact Or.inr rfl
  · have hj := w.job i hi
    rw [k (30 + i) (by omega) (by omega) (by omega)]
    by_cases i0 : i = 0
    · subst i0
      refine ⟨?_, hj.2⟩
      show zin (qRun1 t q 20) 1 9
      rw [k20]
      unfold zin
      rw [e20]
      have h1 : 1 ≤ (q 20).toInt := h1
      have h2 : (q 20).toInt ≤ 9 := h2
      omega
    · rw [k (20 + i) (by omega) (by omega) (by omega)]; exact hj
/-- the job now is done -/
theorem wf0.end_ {u : zQ} (w : wf0 t q) (n0 : ¬ q 10 = 0) (hu : ∀ k, ¬ k = 8 → ¬ k = 13 → ¬ k = 20 → u k = q k) (h8 : zin (u 8) 0 999) : wf0 t (qEnd u) := by
  obtain ⟨j, hj, e⟩ := zin_nI (n := 4) w.jobs (by decide)
  have hj0 : 0 < j := by
    rcases Nat.eq_zero_or_pos j with z | z
    · exact absurd (by rw [e, z]; rfl) n0
    · exact z
  have u10 : u 10 = nI j := (hu 10 (by decide) (by decide) (by decide)).trans e
  have s7 : q 7 = 1 ∨ q 7 = 2 := by
    rcases w.st with a | a | a | a
    · exact absurd (w.idle.mpr (Or.inl a)) n0
    · exact Or.inl a
    · exact Or.inr a
    · exact absurd (w.idle.mpr (Or.inr a)) n0
  have k : ∀ k, k < 20 → ¬ k = 9 → ¬ k = 10 → ¬ k = 13 → ¬ k = 14 → ¬ k = 7 → qEnd u k = u k := fun k a b c d e f => by simp [qEnd, upd_ap, a, b, c, d, e, f]
  have kq : ∀ k, k < 20 → ¬ k = 9 → ¬ k = 10 → ¬ k = 13 → ¬ k = 14 → ¬ k = 7 → ¬ k = 8 → qEnd u k = q k := fun m a b c d e f g => (k m a b c d e f).trans (hu m g d (by omega))
  have k10 : qEnd u 10 = nI (j - 1) := by simp [qEnd, upd_ap, u10, nI_pm hj0]
  have k7 : qEnd u 7 = if nI (j - 1) = 0 then 3 else q 7 := by simp [qEnd, upd_ap, u10, nI_pm hj0, hu 7 (by decide) (by decide) (by decide)]
  have k9 : qEnd u 9 = qMore (q 9) := by simp [qEnd, upd_ap, hu 9 (by decide) (by decide) (by decide)]
  have k13 : qEnd u 13 = 0 := by simp [qEnd, upd_ap]
  have z : nI (j - 1) = 0 ↔ j - 1 = 0 := by
    rw [show (0 : Int32) = nI 0 from rfl, nI_eq (by omega) (by decide)]
  refine ⟨?_, ?_, ?_, ?_, ?_, ?_, ?_, ?_, ?_, ?_, ?_, ?_, ?_, ?_, ?_, ?_⟩
  · rw [kq 0 (by decide) (by decide) (by decide) (by decide) (by decide) (by decide) (by decide)]; exact w.kind
  · rw [kq 1 (by decide) (by decide) (by decide) (by decide) (by decide) (by decide) (by decide)]; exact w.fig
  · rw [kq 2 (by decide) (by decide) (by decide) (by decide) (by decide) (by decide) (by decide)]; exact w.bud
  · rw [kq 2 (by decide) (by decide) (by decide) (by decide) (by decide) (by decide) (by decide), kq 3 (by decide) (by decide) (by decide) (by decide) (by decide) (by decide) (by decide)]; exact w.per
  · rw [kq 2 (by decide) (by decide) (by decide) (by decide) (by decide) (by decide) (by decide), kq 3 (by decide) (by decide) (by decide) (by decide) (by decide) (by decide) (by decide), kq 4 (by decide) (by decide) (by decide) (by decide) (by decide) (by decide) (by decide)]; exact w.part
  · rw [kq 5 (by decide) (by decide) (by decide) (by decide) (by decide) (by decide) (by decide)]; exact w.left
  · rw [kq 6 (by decide) (by decide) (by decide) (by decide) (by decide) (by decide) (by decide)]; exact w.dl
  · rw [k7]
    by_cases c : nI (j - 1) = 0
    · rw [if_pos c]; exact Or.inr (Or.inr (Or.inr rfl))
    · rw [if_neg c]; exact w.st
  · rw [k 8 (by decide) (by decide) (by decide) (by decide) (by decide) (by decide)]; exact h8
  · rw [k9]; exact qMore_in w.done
  · rw [k10]; exact zin_of (n := 4) (by omega) (by decide)
  · rw [k10, k7]
    by_cases c : nI (j - 1) = 0
    · rw [if_pos c]; exact ⟨fun _ => Or.inr rfl, fun _ => c⟩
    · rw [if_neg c]
      refine ⟨fun a => absurd a c, fun a => ?_⟩
      rcases s7 with s | s <;> rw [s] at a <;> rcases a with a | a <;> exact absurd a (by decide)
  · rw [k7, kq 5 (by decide) (by decide) (by decide) (by decide) (by decide) (by decide) (by decide)]
    by_cases c : nI (j - 1) = 0
    · rw [if_pos c]; intro a; exact absurd a (by decide)
    · rw [if_neg c]; exact w.rest
  · rw [k13]; exact Or.inl rfl
  · rw [k13]; intro _; rfl
  · intro i hi
    rw [k10, nI_clamp (by omega)] at hi
    have hw := w.job (i + 1) (by rw [e, nI_clamp (by omega)]; omega)
    have e1 : qEnd u (20 + i) = q (20 + (i + 1)) := (if_neg (by omega)).trans (hu _ (by omega) (by omega) (by omega))
    have e2 : qEnd u (30 + i) = q (30 + (i + 1)) := (if_neg (by omega)).trans (hu _ (by omega) (by omega) (by omega))
    rw [e1, e2]
    exact hw
theorem wf0.run (w : wf0 t q) (n0 : ¬ q 10 = 0) : wf0 t (qRun t q) := by
  unfold qRun
  by_cases c : q 20 - 1 = 0
  · rw [if_pos c]
    refine w.end_ n0 (fun k a b c => by simp [qRun1, upd_ap, a, b, c]) ?_
    have k8 : qRun1 t q 8 = if t < q 14 then q 8 else qMore (q 8) := by simp [qRun1, upd_ap]
    rw [k8]
    by_cases c : t < q 14
    · rw [if_pos c]; exact w.late
    · rw [if_neg c]; exact qMore_in w.late
  · rw [if_neg c]; exact w.run1 n0 c
theorem qRun_57 (q : zQ) : qRun t q 5 = q 5 ∧ (qRun t q 7 = q 7 ∨ qRun t q 7 = 3) := by
  unfold qRun
  by_cases c : q 20 - 1 = 0
  · rw [if_pos c]
    refine ⟨by simp [qEnd, qRun1, upd_ap], ?_⟩
    have e : qEnd (qRun1 t q) 7 = if qRun1 t q 10 - 1 = 0 then 3 else q 7 := by simp [qEnd, qRun1, upd_ap]
    rw [e]
    by_cases d : qRun1 t q 10 - 1 = 0
    · rw [if_pos d]; exact Or.inr rfl
    · rw [if_neg d]; exact Or.inl rfl
  · rw [if_neg c]
    exact ⟨by simp [qRun1, upd_ap], Or.inl (by simp [qRun1, upd_ap])⟩
theorem wfQ.run (w : wfQ t q) (n0 : ¬ q 10 = 0) : wfQ t (qRun t q) := by
  refine ⟨w.1.run n0, fun a => ?_⟩
  obtain ⟨h5, h7⟩ := qRun_57 (t := t) q
  rw [h5]
  rcases h7 with h | h
  · exact w.ready (h.symm.trans a)
  · rw [h] at a; exact absurd a (by decide)
/-- behind a tick of the chosen one -/
theorem wf0.fill (ht : 0 ≤ t.toInt) (hT : t.toInt ≤ 20000) (w : wf0 t q) : wfQ (t + 1) (if q 7 = 1 ∧ q 5 ≤ 0 then qRefill q else q) := by
  have et : (t + 1).toInt = t.toInt + 1 := zadd (by rw [zi1]; omega) (by rw [zi1]; omega)
  have b1 := w.bud.1
  have b2 := w.bud.2
  have l1 := w.left.1
  have l2 := w.left.2
  have d1 := w.dl.1
  have d2 := w.dl.2
  have p1 := w.per.1
  have p2 := w.per.2
  have e60 := z60b w.bud
  by_cases c : q 7 = 1 ∧ q 5 ≤ 0
  · rw [if_pos c]
    have n0 : ¬ q 10 = 0 := fun a => by rcases w.idle.mp a with b | b <;> rw [c.1] at b <;> exact absurd b (by decide)
    have r := zle.mp c.2
    rw [zi0] at r
    unfold qRefill
    by_cases d : q 0 = 2 ∨ q 0 = 5
    · rw [if_pos d]
      have e : ∀ k, ¬ k = 7 → upd q 7 2 k = q k := fun k h => if_neg h
      refine ⟨⟨w.kind, w.fig, w.bud, w.per, w.part, w.left, ⟨d1, by show (q 6).toInt ≤ _; omega⟩, Or.inr (Or.inr (Or.inl rfl)), w.late, w.done, w.jobs, ⟨fun a => absurd (show q 10 = 0 from a) n0, fun a => ?_⟩, fun _ => c.2, w.hold, w.hold0, fun i hi => ?_⟩, fun a => absurd (show (2 : Int32) = 1 from a) (by decide)⟩
      · rcases a with a | a
        · exact absurd (show (2 : Int32) = 0 from a) (by decide)
        · exact absurd (show (2 : Int32) = 3 from a) (by decide)
      · rw [e (20 + i) (by omega), e (30 + i) (by omega)]
        exact w.job i hi
    · rw [if_neg d]
      have eL : (q 5 + 60 * q 2).toInt = (q 5).toInt + 60 * (q 2).toInt := by rw [zadd (by omega) (by omega), e60]
      have eD : (q 6 + q 3).toInt = (q 6).toInt + (q 3).toInt := zadd (by omega) (by omega)
      have k : ∀ k, ¬ k = 5 → ¬ k = 6 → upd (upd q 5 (q 5 + 60 * q 2)) 6 (q 6 + q 3) k = q k := fun k a b => by simp [upd_ap, a, b]
      refine ⟨⟨w.kind, w.fig, w.bud, w.per, w.part, ?_, ?_, w.st, w.late, w.done, w.jobs, w.idle, fun a => ?_, w.hold, w.hold0, fun i hi => ?_⟩, fun _ a => ?_⟩
      · show zin (q 5 + 60 * q 2) _ _
        unfold zin; rw [eL]; omega
      · show zin (q 6 + q 3) _ _
        unfold zin; rw [eD]; omega
      · have a : q 7 = 2 := a
        rw [c.1] at a
        exact absurd a (by decide)
      · rw [k (20 + i) (by omega) (by omega), k (30 + i) (by omega) (by omega)]
        exact w.job i hi
      · have a := zle.mp (show q 5 + 60 * q 2 ≤ 0 from a)
        rw [eL, zi0] at a
        omega
  · rw [if_neg c]
    exact ⟨w.mono (by omega), fun a b => c ⟨a, b⟩⟩
theorem pRnr_in {c : Nat} (hc : c < S.1) (hN : S.1 ≤ 6) : ∃ r : Nat, r < S.1 ∧ pRnr (nI c) S = nI r ∧ (r = c ∨ ¬ S.2.2 r 10 ≤ 0) := by
  unfold pRnr
  by_cases a : pHold S (S.2.2 (nI c).toNatClampNeg 30) = -4
  · rw [if_pos a]; exact ⟨c, hc, rfl, Or.inl rfl⟩
  · rw [if_neg a]
    unfold pHold at a ⊢
    by_cases b : S.2.2 (nI c).toNatClampNeg 30 = 3
    · rw [if_pos b] at a; exact absurd rfl a
    · rw [if_neg b] at a ⊢
      obtain ⟨j, hj, e, f, -⟩ := (pHol_lt S.2.2 (S.2.2 (nI c).toNatClampNeg 30) S.1).resolve_left a
      exact ⟨j, hj, e, Or.inr f⟩
theorem pSet_at (s : Nat) (q : zQ) (r : Nat) : (pSet S s q).2.2 r = if r = s then q else S.2.2 r := rfl
theorem wf_run {c : Nat} (hc : c < S.1) (hN : S.1 ≤ 6) (ht : 0 ≤ S.2.1.toInt) (hT : S.2.1.toInt ≤ 20000) (hw : ∀ s, s < S.1 → wfQ S.2.1 (S.2.2 s)) (h7 : S.2.2 c 7 = 1) : ∀ s, s < S.1 → wfQ (S.2.1 + 1) ((pRun (nI c) S).2.2 s) := by
  intro s hs
  obtain ⟨r, hr, er, hrc⟩ := pRnr_in (S := S) hc hN
  have et : (S.2.1 + 1).toInt = S.2.1.toInt + 1 := zadd (by rw [zi1]; omega) (by rw [zi1]; omega)
  have nc : ¬ S.2.2 c 10 = 0 := fun a => by rcases (hw c hc).idle.mp a with b | b <;> rw [h7] at b <;> exact absurd b (by decide)
  have nr : ¬ S.2.2 r 10 = 0 := by
    rcases hrc with a | a
    · rw [a]; exact nc
    · intro b; rw [b] at a; exact a (Int32.le_refl _)
  have ec : (nI c).toNatClampNeg = c := nI_clamp (by omega)
  have er2 : (pRnr (nI c) S).toNatClampNeg = r := by rw [er]; exact nI_clamp (by omega)
  unfold pRun
  rw [ec, er2]
  -- the payer behind paying
  have wp := (hw c hc).pay h7 (pLoad S)
  have w1 : ∀ u, u < S.1 → wf0 S.2.1 ((pWork r (pPay c S)).2.2 u) ∧ (¬ u = c → wfQ S.2.1 ((pWork r (pPay c S)).2.2 u)) := by
    intro u hu
    have pp : ∀ z, z < S.1 → wf0 S.2.1 ((pPay c S).2.2 z) ∧ (¬ z = c → wfQ S.2.1 ((pPay c S).2.2 z)) ∧ (pPay c S).2.2 z 10 = S.2.2 z 10 := by
      intro z hz
      unfold pPay
      rw [pSet_at]
      by_cases a : z = c
      · rw [if_pos a, a]; exact ⟨wp, fun b => absurd rfl b, rfl⟩
      · rw [if_neg a]; exact ⟨(hw z hz).1, fun _ => hw z hz, rfl⟩
    unfold pWork
    rw [pSet_at]
    by_cases a : u = r
    · rw [if_pos a]
      obtain ⟨x1, x2, x3⟩ := pp r hr
      exact ⟨x1.run (by rw [x3]; exact nr), fun b => (x2 (by rw [← a]; exact b)).run (by rw [x3]; exact nr)⟩
    · rw [if_neg a]
      exact ⟨(pp u hu).1, (pp u hu).2.1⟩
  have f := (w1 c hc).1.fill ht hT
  unfold pFill
  by_cases a : (pWork r (pPay c S)).2.2 c 7 = 1 ∧ (pWork r (pPay c S)).2.2 c 5 ≤ 0
  · rw [if_pos a] at f ⊢
    rw [pSet_at]
    by_cases b : s = c
    · rw [if_pos b]; exact f
    · rw [if_neg b]; exact ((w1 s hs).2 b).mono (by omega)
  · rw [if_neg a] at f ⊢
    by_cases b : s = c
    · rw [b]; exact f
    · exact ((w1 s hs).2 b).mono (by omega)
theorem pRun_1 (c : Int32) : (pRun c S).1 = S.1 ∧ (pRun c S).2.1 = S.2.1 := by
  unfold pRun pFill
  by_cases a : (pWork (pRnr c S).toNatClampNeg (pPay c.toNatClampNeg S)).2.2 c.toNatClampNeg 7 = 1 ∧ (pWork (pRnr c S).toNatClampNeg (pPay c.toNatClampNeg S)).2.2 c.toNatClampNeg 5 ≤ 0
  · rw [if_pos a]; exact ⟨rfl, rfl⟩
  · rw [if_neg a]; exact ⟨rfl, rfl⟩
theorem pGo_1 (b : Int32) : (pGo b S).1 = S.1 ∧ (pGo b S).2.1 = S.2.1 + 1 := by
  unfold pGo pTick
  by_cases a : pCh b S = -4
  · rw [if_pos a]; exact ⟨rfl, rfl⟩
  · rw [if_neg a]; exact ⟨(pRun_1 _).1, by rw [(pRun_1 _).2]; rfl⟩
theorem pCh_in {b : Int32} (h : ¬ pCh b S = -4) : ∃ c : Nat, c < S.1 ∧ pCh b S = nI c ∧ (pBegin S).2.2 c 7 = 1 := by
  unfold pCh at h ⊢
  by_cases a : b = 0
  · rw [if_pos a] at h ⊢; exact (pEar_lt _ _).resolve_left h
  · rw [if_neg a] at h; exact absurd rfl h
theorem wfP.go {T : Nat} (hT : T ≤ 20000) (w : wfP T S) (b : Int32) : wfP (T + 1) (pGo b S) := by
  obtain ⟨hN, ht, hw⟩ := w
  have t0 := ht.1
  have t1 := ht.2
  have et : (S.2.1 + 1).toInt = S.2.1.toInt + 1 := zadd (by rw [zi1]; omega) (by rw [zi1]; omega)
  have hb : ∀ s, s < S.1 → wfQ S.2.1 ((pBegin S).2.2 s) := fun s hs => (hw s hs).begin_ t0 (by omega)
  refine ⟨by rw [(pGo_1 b).1]; exact hN, ?_, ?_⟩
  · rw [(pGo_1 b).2]; unfold zin; rw [et]; omega
  · rw [(pGo_1 b).1, (pGo_1 b).2]
    intro s hs
    unfold pGo pTick
    by_cases a : pCh b S = -4
    · rw [if_pos a]; exact (hb s hs).mono (by omega)
    · rw [if_neg a]
      obtain ⟨c, hc, e, h7⟩ := pCh_in a
      rw [e]
      exact wf_run (S := pBegin S) hc hN t0 (show S.2.1.toInt ≤ 20000 by omega) hb h7 s hs
theorem wfP.goN {T : Nat} (n : Nat) (hT : T + n ≤ 20000) (w : wfP T S) : wfP (T + n) (pGoN n S) := by
  induction n with
  | zero => exact w
  | succ n ih => exact (ih (by omega)).go (by omega) 0
theorem pGoN_1 (n : Nat) : (pGoN n S).1 = S.1 := by
  induction n with
  | zero => rfl
  | succ n ih => exact ((pGo_1 0).1).trans ih
end WF
