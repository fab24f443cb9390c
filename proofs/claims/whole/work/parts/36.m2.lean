/-! FACE: quiet, misses, ran; LATE never goes back -/
section M2
variable {S Q P : zP} {Z Z0 : zS} {T : Nat}
theorem qMore_ge {x : Int32} (h : zin x 0 999) : x.toInt ≤ (qMore x).toInt := by
  by_cases c : 999 ≤ x
  · rw [qMore_le h c]; omega
  · rw [qMore_lt h c]
    have c2 : ¬ (999 : Int) ≤ x.toInt := fun a => c (zle.mpr a)
    have h0 := h.1
    rw [zadd (a := x) (b := 1) (by rw [zi1]; omega) (by rw [zi1]; omega), zi1]
    omega
theorem late_begin (t : Int32) (q : zQ) : qBegin t q 8 = q 8 := by
  unfold qBegin
  by_cases a : q 7 = 2
  · rw [if_pos a]
    by_cases b : t < q 6
    · rw [if_pos b]
    · rw [if_neg b]; simp [qWake, upd_ap]
  · rw [if_neg a]
    by_cases b : q 7 = 3
    · rw [if_pos b]
      by_cases c : q 5 * q 3 < 60 * q 2 * (q 6 - t)
      · rw [if_pos c]
      · rw [if_neg c]; simp [upd_ap]
    · rw [if_neg b]
theorem late_run (t : Int32) (q : zQ) (h : zin (q 8) 0 999) : (q 8).toInt ≤ (qRun t q 8).toInt := by
  have e : qRun t q 8 = if t < q 14 then q 8 else qMore (q 8) := by
    unfold qRun
    by_cases c : q 20 - 1 = 0
    · rw [if_pos c]; simp [qEnd, qRun1, upd_ap]
    · rw [if_neg c]; simp [qRun1, upd_ap]
  rw [e]
  by_cases c : t < q 14
  · rw [if_pos c]; exact Int.le_refl _
  · rw [if_neg c]; exact qMore_ge h
theorem late_refill (q : zQ) : qRefill q 8 = q 8 := by
  unfold qRefill
  by_cases c : q 0 = 2 ∨ q 0 = 5
  · rw [if_pos c]; simp [upd_ap]
  · rw [if_neg c]; simp [upd_ap]
theorem late_go (w : wfP T S) (b : Int32) {s : Nat} (hs : s < S.1) : (S.2.2 s 8).toInt ≤ ((pGo b S).2.2 s 8).toInt := by
  unfold pGo pTick
  by_cases a : pCh b S = -4
  · rw [if_pos a]
    show _ ≤ (qBegin S.2.1 (S.2.2 s) 8).toInt
    rw [late_begin]; exact Int.le_refl _
  · rw [if_neg a]
    have e0 : (pBegin S).2.2 s 8 = S.2.2 s 8 := late_begin _ _
    show _ ≤ ((pRun (pCh b S) (pBegin S)).2.2 s 8).toInt
    rw [← e0]
    generalize hr : (pRnr (pCh b S) (pBegin S)).toNatClampNeg = r
    generalize hc : (pCh b S).toNatClampNeg = c
    have e1 : ∀ z, (pPay c (pBegin S)).2.2 z 8 = (pBegin S).2.2 z 8 := by
      intro z
      unfold pPay
      rw [pSet_at]
      by_cases x : z = c
      · rw [if_pos x, x]; simp [upd_ap]
      · rw [if_neg x]
    have z8 : ∀ z, z < S.1 → zin ((pBegin S).2.2 z 8) 0 999 := fun z hz => by
      have e : (pBegin S).2.2 z 8 = S.2.2 z 8 := late_begin _ _
      rw [e]; exact (w.2.2 z hz).late
    have e2 : ((pBegin S).2.2 s 8).toInt ≤ ((pWork r (pPay c (pBegin S))).2.2 s 8).toInt := by
      unfold pWork
      rw [pSet_at]
      by_cases x : s = r
      · rw [if_pos x, ← e1, x]
        refine late_run _ _ ?_
        rw [e1, ← x]; exact z8 s hs
      · rw [if_neg x, e1]; exact Int.le_refl _
    have e3 : ∀ z, (pFill c (pWork r (pPay c (pBegin S)))).2.2 z 8 = (pWork r (pPay c (pBegin S))).2.2 z 8 := by
      intro z
      unfold pFill
      by_cases x : (pWork r (pPay c (pBegin S))).2.2 c 7 = 1 ∧ (pWork r (pPay c (pBegin S))).2.2 c 5 ≤ 0
      · rw [if_pos x, pSet_at]
        by_cases y : z = c
        · rw [if_pos y, y]; exact late_refill _
        · rw [if_neg y]
      · rw [if_neg x]
    have e4 : pRun (pCh b S) (pBegin S) = pFill c (pWork r (pPay c (pBegin S))) := by unfold pRun; rw [hr, hc]
    rw [e4, e3]
    exact e2
theorem late_goN (w : wfP T S) {s : Nat} (hs : s < S.1) {n m : Nat} (hm : n ≤ m) (hT : T + m ≤ 20000) : ((pGoN n S).2.2 s 8).toInt ≤ ((pGoN m S).2.2 s 8).toInt := by
  induction m with
  | zero => rw [show n = 0 by omega]; exact Int.le_refl _
  | succ m ih =>
    by_cases e : n = m + 1
    · rw [e]; exact Int.le_refl _
    · exact Int.le_trans (ih (by omega) (by omega)) (late_go (w.goN m (by omega)) 0 (by rw [pGoN_1]; exact hs))
/-- QUIET and FREE -/
def vQuiet (a : Int32) (P : zP) : Prop := if a = 0 then pNoJobs P else pIdle P
theorem m_quiet {a1 : Int32} (h : zI S Q Z) : wX11_quiet a1 Z (fun r Z1 => wX12_quiet a1 Z1 (zD r)) := by
  obtain ⟨hw, hc, hr, -⟩ := id h
  have hN := hw.1
  unfold wX11_quiet
  refine c_win (fun hb => ?_) (fun hb => ?_)
  · refine br_t (by decide) ?_
    have ref : ∀ r Z2, kFr Z Z2 → zFst (fun n => vQuiet a1 (pGoN n S)) 0 100 r → wX12_quiet a1 Z2 (zD r) := by
      intro r Z2 f2 hz
      have h2 := h.k f2
      unfold wX12_quiet
      refine r_win_t hb (br_t (by decide) (rT_keep h2 (fun Z3 t3 => ?_)))
      rintro _ rfl _ rfl
      refine pk_loop (σ := Int32 × zS) (fun n i s => wX12_quiet_24 a1 (zD r) n s.1 (nI i) s.2) (fun i s => rT S (pGoN i S) Z2 s.2 ∧ ((s.1 = -4 ∧ ∀ m, m < i → ¬ vQuiet a1 (pGoN m S)) ∨ ∃ m, m < i ∧ s.1 = nI m ∧ vQuiet a1 (pGoN m S) ∧ ∀ m', m' < m → ¬ vQuiet a1 (pGoN m' S))) 100 0 (-4, Z3) (Nat.zero_le _) ⟨t3, Or.inl ⟨rfl, fun m hm => absurd hm (Nat.not_lt_zero _)⟩⟩ ?_ ?_
      · rintro n ⟨x, Y⟩ ⟨t, e⟩
        show wX12_quiet_24b _ a1 x 100 Y (zD r)
        unfold wX12_quiet_24b wX12_quiet_56
        refine br_t (Int32.le_refl _) (rT_back hN t (fun Z5 t5 => ⟨?_, (t5.I h2).inv⟩))
        refine zFst.u (R := fun n => vQuiet a1 (pGoN n S)) (lo := 0) (hi := 100) ?_ hz
        rcases e with ⟨e, f⟩ | ⟨m, hm, e, f, g⟩
        · exact Or.inr ⟨e, fun n _ hn => f n hn⟩
        · exact Or.inl ⟨m, Nat.zero_le _, hm, e, f, fun m' _ h' => g m' h'⟩
      · rintro n i ⟨x, Y⟩ hi ⟨t, e⟩ ih
        show wX12_quiet_24b (fun x2 x3 Z => wX12_quiet_24 a1 (zD r) n x2 x3 Z) a1 x (nI i) Y (zD r)
        unfold wX12_quiet_24b wX12_quiet_56 wX12_quiet_46
        refine br_f (nI_ge (b := 100) hi (by decide)) ?_
        refine br_c (fun c => rT_back hN t (fun Z5 t5 => ⟨?_, (t5.I h2).inv⟩)) (fun c => ?_)
        · refine zFst.u (R := fun n => vQuiet a1 (pGoN n S)) (lo := 0) (hi := 100) ?_ hz
          rcases e with ⟨e, f⟩ | ⟨m, hm, e, f, g⟩
          · exact absurd e c
          · exact Or.inl ⟨m, Nat.zero_le _, by omega, e, f, fun m' _ h' => g m' h'⟩
        · have c := Classical.not_not.mp c
          have wi := hw.goN i (by omega)
          have e' : ∀ m, m < i → ¬ vQuiet a1 (pGoN m S) := by
            rcases e with ⟨e, f⟩ | ⟨m, hm, e, f, g⟩
            · exact f
            · exact absurd (e.symm.trans c) (nI_n4 (by omega))
          refine r_isQuiet wi.1 (fun s hs => (wi.2.2 s hs).jobs) t.2.1 (fun q => ?_) (fun q => ?_)
          · refine br_f (by decide) (rT_go0 (by omega) wi t (fun Z5 t5 _ _ => ?_))
            rintro _ rfl
            rw [nI_1]
            exact ih (nI i, Z5) ⟨t5, Or.inr ⟨i, by omega, rfl, q, e'⟩⟩
          · refine br_t rfl (rT_go0 (by omega) wi t (fun Z5 t5 _ _ => ?_))
            rintro _ rfl
            rw [nI_1]
            refine ih (x, Z5) ⟨t5, Or.inl ⟨c, fun m hm => ?_⟩⟩
            by_cases z : m = i
            · rw [z]; exact q
            · exact e' m (by omega)
    refine cT_becomes hw hc kFr.rf (fun Z1 t1 => ?_)
    rintro _ rfl
    refine pk_loop (σ := zS) (fun n i Y => wX11_quiet_24 a1 (fun r Z1 => wX12_quiet a1 Z1 (zD r)) n (nI i) Y) (fun i Y => cT S (pGoN i S) Z Y ∧ ∀ m, m < i → ¬ vQuiet a1 (pGoN m S)) 100 0 Z1 (Nat.zero_le _) ⟨t1, fun m hm => absurd hm (Nat.not_lt_zero _)⟩ ?_ ?_
    · rintro n Y ⟨t, e⟩
      show wX11_quiet_24b _ a1 (nI 100) Y _
      unfold wX11_quiet_24b
      exact br_t (nI_lt (a := 99) (b := 100) (by decide) (by decide)) (ref _ Y t.2.2 (Or.inr ⟨rfl, fun n _ hn => e n hn⟩))
    · rintro n i Y hi ⟨t, e⟩ ih
      show wX11_quiet_24b (fun x2 Z => wX11_quiet_24 a1 (fun r Z1 => wX12_quiet a1 Z1 (zD r)) n x2 Z) a1 (nI i) Y _
      have wi := hw.goN i (by omega)
      have go : ¬ vQuiet a1 (pGoN i S) → wX11_quiet_59 (fun x2 Z => wX11_quiet_24 a1 (fun r Z1 => wX12_quiet a1 Z1 (zD r)) n x2 Z) a1 (nI i) Y (fun r Z1 => wX12_quiet a1 Z1 (zD r)) := by
        intro q
        unfold wX11_quiet_59
        refine cT_go hN (by omega) wi t (fun Z5 t5 _ _ => ?_)
        rintro _ rfl
        rw [nI_1]
        refine ih Z5 ⟨t5, fun m hm => ?_⟩
        by_cases z : m = i
        · rw [z]; exact q
        · exact e m (by omega)
      have done : vQuiet a1 (pGoN i S) → wX12_quiet a1 Y (zD (nI i)) := fun q => ref _ Y t.2.2 (Or.inl ⟨i, Nat.zero_le _, hi, rfl, q, fun m' _ h' => e m' h'⟩)
      unfold wX11_quiet_24b
      refine br_f (nI_nlt (a := 99) (b := i) (by omega) (by decide)) ?_
      refine br_c (fun c => ?_) (fun c => ?_)
      · exact c_isAllIdle wi.1 t.1 (fun q => br_f (by decide) (done (by unfold vQuiet; rw [if_neg c]; exact q))) (fun q => br_t rfl (go (by unfold vQuiet; rw [if_neg c]; exact q)))
      · have c := Classical.not_not.mp c
        have pj := pJobs_0 wi.1 (fun s hs => (wi.2.2 s hs).jobs)
        refine c_jobsOfAll wi.1 t.1 ?_
        refine br_c (fun q => go (by unfold vQuiet; rw [if_pos c]; exact fun x => q (pj.mpr x))) (fun q => done (by unfold vQuiet; rw [if_pos c]; exact pj.mp (Classical.not_not.mp q)))
  · refine br_f (fun x => x rfl) ?_
    unfold wX12_quiet
    exact r_win_f hb (br_f (fun x => x rfl) ⟨rfl, h.inv⟩)
/-- one that is LATE more -/
def vLate (S P : zP) (s : Nat) : Prop := (S.2.2 s 8).toInt < (P.2.2 s 8).toInt
theorem c_lateMore {j : Nat} {K : Int32 → zS → Prop} (hN : S.1 ≤ 6) (e1 : P.1 = S.1) (hj : j < S.1) (t : cT S P Z0 Z) (hk : K (P.2.2 j 8 - S.2.2 j 8) Z) : wX11_lateMore (nI j) Z K := by
  unfold wX11_lateMore
  have in6 : vp_in (nI j) 6 := vp_in_nI (by omega) (by decide)
  rw [nI_clamp (by omega), (t.1.2.2 j (by rw [e1]; exact hj)).f 8 (by decide), (t.2.1.2.2 j hj).f 8 (by decide)]
  exact ⟨in6, in6, hk⟩
theorem vLate_i {j : Nat} (a : zin (P.2.2 j 8) 0 999) (b : zin (S.2.2 j 8) 0 999) : P.2.2 j 8 - S.2.2 j 8 ≤ 0 ↔ ¬ vLate S P j := by
  have a1 := a.1
  have a2 := a.2
  have b1 := b.1
  have b2 := b.2
  unfold vLate
  rw [zle, zsub (by omega) (by omega), zi0]
  omega
theorem c_tillLate {j n : Nat} {K : Int32 → zS → Prop} (hN : S.1 ≤ 6) (hwS : ∀ s, s < S.1 → zin (S.2.2 s 8) 0 999) (w : wfP T P) (hT : T + n ≤ 20000) (hn : n ≤ 99) (e1 : P.1 = S.1) (hj : j < S.1) (t : cT S P Z0 Z) (hk : ∀ r Z', zFst (fun m => vLate S (pGoN m P) j) 1 (n + 1) r → cRel 0 S Z' → kFr Z0 Z' → K r Z') : wX11_ticksTillLate (nI j) (nI n) Z K := by
  unfold wX11_ticksTillLate
  rintro _ rfl
  refine pk_loop (σ := zS) (fun m i Y => wX11_ticksTillLate_2 (nI j) (nI n) K m (nI (i + 1)) Y) (fun i Y => cT S (pGoN i P) Z0 Y ∧ ∀ m, 1 ≤ m → m < i + 1 → ¬ vLate S (pGoN m P) j) n 0 Z (Nat.zero_le _) ⟨t, fun m h1 h2 => absurd h2 (by omega)⟩ ?_ ?_
  · rintro m Y ⟨t, e⟩
    show wX11_ticksTillLate_2b _ (nI j) (nI n) (nI (n + 1)) Y K
    unfold wX11_ticksTillLate_2b
    exact br_t (nI_lt (by omega) (by omega)) (hk _ Y (Or.inr ⟨rfl, e⟩) t.2.1 t.2.2)
  · rintro m i Y hi ⟨t, e⟩ ih
    show wX11_ticksTillLate_2b (fun x3 Z => wX11_ticksTillLate_2 (nI j) (nI n) K m x3 Z) (nI j) (nI n) (nI (i + 1)) Y K
    unfold wX11_ticksTillLate_2b
    refine br_f (nI_nlt (by omega) (by omega)) ?_
    have wi := w.goN i (by omega)
    have wi1 := w.goN (i + 1) (by omega)
    refine cT_go hN (by omega) wi t (fun Z5 t5 _ _ => ?_)
    have e5 : (pGoN (i + 1) P).1 = S.1 := by rw [pGoN_1, e1]
    refine c_lateMore (P := pGoN (i + 1) P) hN e5 hj t5 ?_
    have vi := vLate_i (S := S) (P := pGoN (i + 1) P) (j := j) (wi1.2.2 j (by rw [e5]; exact hj)).late (hwS j hj)
    refine br_c (fun c => ?_) (fun c => hk _ Z5 (Or.inl ⟨i + 1, by omega, by omega, rfl, ?_, e⟩) t5.2.1 t5.2.2)
    · rintro _ rfl
      rw [nI_1]
      refine ih Z5 ⟨t5, fun x h1 h2 => ?_⟩
      by_cases z : x = i + 1
      · rw [z]; exact vi.mp c
      · exact e x h1 (by omega)
    · exact Classical.not_not.mp (fun x => c (vi.mpr x))
end M2
