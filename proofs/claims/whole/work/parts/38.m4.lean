/-! FACE: admitted, demand, alone, needs -/
section M4
variable {S Q P : zP} {Z Z0 : zS} {T : Nat}
/-- BUDGET and PERIOD as they must be -/
def zSz (b p : Int32) : Prop := zW b 1 30 ∧ zW p b 60 ∧ 60 - 60 / p * p = 0
theorem zSz.p0 {b p : Int32} (h1 : zW b 1 30) (h2 : zW p b 60) : ¬ p = 0 := fun e => by
  have a := zle.mp h1.1
  have b := zle.mp h2.1
  rw [e, zi0] at b
  rw [zi1] at a
  omega
theorem c_isBudget {b p : Int32} {K : Int32 → zS → Prop} (h1 : zSz b p → K 1 Z) (h0 : ¬ zSz b p → K 0 Z) : wX11_isBudget b p Z K := by
  unfold wX11_isBudget
  refine c_win (fun x => br_f (by decide) (c_win (fun y => br_f (by decide) ⟨zSz.p0 x y, br_c (fun z => h0 (fun a => z a.2.2)) (fun z => h1 ⟨x, y, Classical.not_not.mp z⟩)⟩) (fun y => br_t rfl (h0 (fun a => y a.2.1))))) (fun x => br_t rfl (h0 (fun a => x a.1)))
theorem r_isSize {b p : Int32} {K : Int32 → zS → Prop} (h1 : zSz b p → K 1 Z) (h0 : ¬ zSz b p → K 0 Z) : wX12_isSize b p Z K := by
  unfold wX12_isSize
  refine r_win (fun x => br_f (by decide) (r_win (fun y => br_f (by decide) ⟨zSz.p0 x y, br_c (fun z => h0 (fun a => z a.2.2)) (fun z => h1 ⟨x, y, Classical.not_not.mp z⟩)⟩) (fun y => br_t rfl (h0 (fun a => y a.2.1))))) (fun x => br_t rfl (h0 (fun a => x a.1)))
theorem c_partOf {b p : Int32} {K : Int32 → zS → Prop} (h : zW b 1 30) (h2 : zW p b 60) (hk : K (60 * b / p) Z) : wX11_partOf b p Z K := by
  unfold wX11_partOf
  have a := zle.mp h.1
  have c := zle.mp h2.1
  refine br_t (zle.mpr (by omega)) ⟨zSz.p0 h h2, hk⟩
def vAdm (S : zP) (x : Int32) : Nat → Int32
  | 0 => x
  | n + 1 => vAdm S x n + S.2.2 n 4
theorem m_admitted {a1 a2 : Int32} (h : zI S Q Z) : wX11_admitted a1 a2 Z (fun r Z1 => wX12_admitted a1 a2 Z1 (zD r)) := by
  obtain ⟨hw, hc, hr, -⟩ := id h
  have hN := hw.1
  unfold wX11_admitted
  refine c_isBudget (fun hb => ?_) (fun hb => ?_)
  · have ref : ∀ r, r = (if 60 < vAdm S (60 * a1 / a2) S.1 then 0 else 1) → wX12_admitted a1 a2 Z (zD r) := by
      intro r er
      unfold wX12_admitted
      refine r_isSize (fun _ => br_t (by decide) ⟨zSz.p0 hb.1 hb.2.1, ?_⟩) (fun x => absurd hb x)
      rintro _ rfl _ rfl
      refine pk_loop (σ := Int32) (fun n i x => wX12_admitted_20 a1 a2 (zD r) n x (nI i) Z) (fun i x => x = vAdm S (60 * a1 / a2) i) S.1 0 (60 * a1 / a2) (Nat.zero_le _) rfl ?_ ?_
      · rintro n x rfl
        show wX12_admitted_20b _ a1 a2 _ (nI S.1) Z _
        unfold wX12_admitted_20b
        rw [hr.1]
        refine br_t (Int32.le_refl _) (br_c (fun c => ⟨?_, h.inv⟩) (fun c => ⟨?_, h.inv⟩))
        · rw [er, if_pos c]
        · rw [er, if_neg c]
      · rintro n i x hi rfl ih
        show wX12_admitted_20b (fun x3 x4 Z => wX12_admitted_20 a1 a2 (zD r) n x3 x4 Z) a1 a2 _ (nI i) Z _
        unfold wX12_admitted_20b
        rw [hr.1]
        refine br_f (nI_ge hi (by omega)) (r_share' (by omega) (hr.2.2 i hi) (hw.2.2 i hi).1.sh ?_)
        rintro _ rfl _ rfl
        rw [nI_1]
        exact ih _ rfl
    refine br_t (by decide) (c_partOf hb.1 hb.2.1 ?_)
    rintro _ rfl
    refine pk_loop (σ := Int32) (fun n i x => wX11_admitted_19 a1 a2 (fun r Z1 => wX12_admitted a1 a2 Z1 (zD r)) n x (nI i) Z) (fun i x => x = vAdm S (60 * a1 / a2) i) S.1 0 (60 * a1 / a2) (Nat.zero_le _) rfl ?_ ?_
    · rintro n x rfl
      show wX11_admitted_19b _ a1 a2 _ (nI S.1) Z _
      unfold wX11_admitted_19b
      rw [hc.1]
      exact br_t (Int32.le_refl _) (br_c (fun c => ref _ (if_pos c).symm) (fun c => ref _ (if_neg c).symm))
    · rintro n i x hi rfl ih
      show wX11_admitted_19b (fun x3 x4 Z => wX11_admitted_19 a1 a2 (fun r Z1 => wX12_admitted a1 a2 Z1 (zD r)) n x3 x4 Z) a1 a2 _ (nI i) Z _
      unfold wX11_admitted_19b
      rw [hc.1]
      refine br_f (nI_ge hi (by omega)) ⟨vp_in_nI (by omega) (by decide), ?_⟩
      rw [nI_clamp (by omega), (hc.2.2 i hi).f 4 (by decide)]
      rintro _ rfl _ rfl
      rw [nI_1]
      exact ih _ rfl
  · refine br_f (fun x => x rfl) ?_
    unfold wX12_admitted
    exact r_isSize (fun x => absurd x hb) (fun _ => br_f (fun x => x rfl) ⟨rfl, h.inv⟩)
def vDem (S : zP) (n : Int32) : Int32 := zsum (fun s => S.2.2 s 2 * (n / S.2.2 s 3)) S.1
theorem c_demandIn {a : Int32} {K : Int32 → zS → Prop} (hN : S.1 ≤ 6) (hw : ∀ s, s < S.1 → wf0 S.2.1 (S.2.2 s)) (h : cRel 0 S Z) (hk : K (vDem S a) Z) : wX3_demandIn 0 a Z K := by
  unfold wX3_demandIn
  rintro _ rfl _ rfl
  refine pk_loop (σ := Int32) (fun n i x => wX3_demandIn_4 0 a K n x (nI i) Z) (fun i x => x = zsum (fun s => S.2.2 s 2 * (a / S.2.2 s 3)) i) S.1 0 0 (Nat.zero_le _) rfl ?_ ?_
  · rintro n x rfl
    show wX3_demandIn_4b _ 0 a _ (nI S.1) Z K
    unfold wX3_demandIn_4b
    rw [h.1]
    exact br_t (Int32.le_refl _) hk
  · rintro n i x hi rfl ih
    show wX3_demandIn_4b (fun x2 x3 Z => wX3_demandIn_4 0 a K n x2 x3 Z) 0 a _ (nI i) Z K
    unfold wX3_demandIn_4b wX3_demandIn_48
    have w := hw i hi
    rw [h.1]
    refine br_f (nI_ge hi (by omega)) ⟨vp_in_nI (by omega) (by decide), ?_⟩
    rw [nI_clamp (by omega), (h.2.2 i hi).f 3 (by decide), (h.2.2 i hi).f 2 (by decide)]
    rintro _ rfl
    have b1 := w.bud.1
    have p1 := w.per.1
    refine br_t (zle.mpr (by rw [zi1]; omega)) ⟨vp_in_nI (by omega) (by decide), w.sh.2, ?_⟩
    rintro _ rfl _ rfl
    rw [nI_1]
    exact ih _ rfl
theorem r_demandIn {a : Int32} {K : Int32 → zS → Prop} (hN : S.1 ≤ 6) (hw : ∀ s, s < S.1 → wf0 S.2.1 (S.2.2 s)) (h : rRel S Z) (hk : K (vDem S a) Z) : wX12_demandIn a Z K := by
  unfold wX12_demandIn
  rintro _ rfl _ rfl
  refine pk_loop (σ := Int32) (fun n i x => wX12_demandIn_4 a K n x (nI i) Z) (fun i x => x = zsum (fun s => S.2.2 s 2 * (a / S.2.2 s 3)) i) S.1 0 0 (Nat.zero_le _) rfl ?_ ?_
  · rintro n x rfl
    show wX12_demandIn_4b _ a _ (nI S.1) Z K
    unfold wX12_demandIn_4b
    rw [h.1]
    exact br_t (Int32.le_refl _) hk
  · rintro n i x hi rfl ih
    show wX12_demandIn_4b (fun x2 x3 Z => wX12_demandIn_4 a K n x2 x3 Z) a _ (nI i) Z K
    unfold wX12_demandIn_4b
    have hi6 : i < 6 := Nat.lt_of_lt_of_le hi hN
    have e2 : Z 98 (12 + i) = S.2.2 i 2 := (h.2.2 i hi).2.2.1
    have e3 : Z 98 (18 + i) = S.2.2 i 3 := (h.2.2 i hi).2.2.2.1
    rw [h.1]
    refine br_f (nI_ge hi (by omega)) ?_
    simp (disch := omega) only [zlit_add, nI_clamp, vp_in_nI, true_and]
    rw [e2, e3]
    refine ⟨(hw i hi).sh.2, ?_⟩
    rintro _ rfl _ rfl
    rw [nI_1]
    exact ih _ rfl
theorem m_demand {a1 a2 : Int32} (h : zI S Q Z) : wX11_demand a1 a2 Z (fun r Z1 => wX12_demand a1 a2 Z1 (zD r)) := by
  obtain ⟨hw, hc, hr, -⟩ := id h
  have hN := hw.1
  have w0 : ∀ s, s < S.1 → wf0 S.2.1 (S.2.2 s) := fun s hs => (hw.2.2 s hs).1
  unfold wX11_demand
  refine c_win (fun hb => ?_) (fun hb => ?_)
  · refine br_f (by decide) (c_win (fun hd => ?_) (fun hd => ?_))
    · refine br_t (by decide) (br_c (fun c => ?_) (fun c => ?_))
      · obtain ⟨n, hn1, hn, rfl⟩ := zW_n 1 99 rfl rfl (by decide) hb
        have ref : ∀ r, ((r = 1 ∧ ∀ i, 1 ≤ i → i ≤ n → vDem S (nI i) ≤ nI i) ∨ (r = 0 ∧ ∃ i, 1 ≤ i ∧ i ≤ n ∧ ¬ vDem S (nI i) ≤ nI i)) → wX12_demand (nI n) a2 Z (zD r) := by
          intro r er
          unfold wX12_demand
          refine r_win_t hb (br_f (by decide) (r_win_t hd (br_t (by decide) (br_t c ?_))))
          rintro _ rfl
          refine pk_loop (σ := Unit) (fun m i _ => wX12_demand_33 (nI n) a2 (zD r) m (nI (i + 1)) Z) (fun i _ => ∀ k, 1 ≤ k → k < i + 1 → vDem S (nI k) ≤ nI k) n 0 () (Nat.zero_le _) (fun k h1 h2 => absurd h2 (by omega)) ?_ ?_
          · rintro m _ e
            show wX12_demand_33b _ (nI n) a2 (nI (n + 1)) Z _
            unfold wX12_demand_33b
            refine br_t (nI_lt (by omega) (by omega)) ⟨?_, h.inv⟩
            rcases er with er | ⟨er, i, h1, h2, h3⟩
            · exact er.1.symm
            · exact absurd (e i h1 (by omega)) h3
          · rintro m i _ hi e ih
            show wX12_demand_33b (fun x3 Z => wX12_demand_33 (nI n) a2 (zD r) m x3 Z) (nI n) a2 (nI (i + 1)) Z _
            unfold wX12_demand_33b
            refine br_f (nI_nlt (by omega) (by omega)) (r_demandIn hN w0 hr (br_c (fun d => ?_) (fun d => ⟨?_, h.inv⟩)))
            · rintro _ rfl
              rw [nI_1]
              refine ih () (fun k h1 h2 => ?_)
              by_cases z : k = i + 1
              · rw [z]; exact d
              · exact e k h1 (by omega)
            · rcases er with er | er
              · exact absurd (er.2 (i + 1) (by omega) (by omega)) d
              · exact er.1.symm
        rintro _ rfl
        refine pk_loop (σ := Unit) (fun m i _ => wX11_demand_36 (nI n) a2 (fun r Z1 => wX12_demand (nI n) a2 Z1 (zD r)) m (nI (i + 1)) Z) (fun i _ => ∀ k, 1 ≤ k → k < i + 1 → vDem S (nI k) ≤ nI k) n 0 () (Nat.zero_le _) (fun k h1 h2 => absurd h2 (by omega)) ?_ ?_
        · rintro m _ e
          show wX11_demand_36b _ (nI n) a2 (nI (n + 1)) Z _
          unfold wX11_demand_36b
          exact br_t (nI_lt (by omega) (by omega)) (ref 1 (Or.inl ⟨rfl, fun i h1 h2 => e i h1 (by omega)⟩))
        · rintro m i _ hi e ih
          show wX11_demand_36b (fun x3 Z => wX11_demand_36 (nI n) a2 (fun r Z1 => wX12_demand (nI n) a2 Z1 (zD r)) m x3 Z) (nI n) a2 (nI (i + 1)) Z _
          unfold wX11_demand_36b
          refine br_f (nI_nlt (by omega) (by omega)) (c_demandIn hN w0 hc (br_c (fun d => ?_) (fun d => ref 0 (Or.inr ⟨rfl, i + 1, by omega, by omega, d⟩))))
          rintro _ rfl
          rw [nI_1]
          refine ih () (fun k h1 h2 => ?_)
          by_cases z : k = i + 1
          · rw [z]; exact d
          · exact e k h1 (by omega)
      · refine c_demandIn hN w0 hc ?_
        unfold wX12_demand
        exact r_win_t hb (br_f (by decide) (r_win_t hd (br_t (by decide) (br_f c (r_demandIn hN w0 hr ⟨rfl, h.inv⟩)))))
    · refine br_f (fun x => x rfl) ?_
      unfold wX12_demand
      exact r_win_t hb (br_f (by decide) (r_win_f hd (br_f (fun x => x rfl) ⟨rfl, h.inv⟩)))
  · refine br_t rfl ?_
    unfold wX12_demand
    exact r_win_f hb (br_t rfl ⟨rfl, h.inv⟩)
def pAlone (j : Nat) (S : zP) : Nat → zP := fun i => (S.1, S.2.1, fun s => if s < i ∧ ¬ s = j then qDrop (S.2.2 s) else S.2.2 s)
theorem wfP.alone (w : wfP T S) (j i : Nat) : wfP T (pAlone j S i) := by
  refine ⟨w.1, w.2.1, fun s hs => ?_⟩
  show wfQ S.2.1 (if s < i ∧ ¬ s = j then qDrop (S.2.2 s) else S.2.2 s)
  by_cases c : s < i ∧ ¬ s = j
  · rw [if_pos c]; exact (w.2.2 s hs).1.drop
  · rw [if_neg c]; exact w.2.2 s hs
theorem pAlone_s {j i s : Nat} : (pSet (pAlone j S i) i (qDrop (S.2.2 i))).2.2 s = if ¬ i = j then (pAlone j S (i + 1)).2.2 s else (if s = i then qDrop (S.2.2 i) else (pAlone j S (i + 1)).2.2 s) := by
  rw [pSet_at]
  show (if s = i then qDrop (S.2.2 i) else (if s < i ∧ ¬ s = j then qDrop (S.2.2 s) else S.2.2 s)) = if ¬ i = j then (if s < i + 1 ∧ ¬ s = j then qDrop (S.2.2 s) else S.2.2 s) else (if s = i then qDrop (S.2.2 i) else (if s < i + 1 ∧ ¬ s = j then qDrop (S.2.2 s) else S.2.2 s))
  by_cases a : s = i
  · subst a
    by_cases b : ¬ s = j
    · simp [b]
    · simp [b]
  · by_cases b : s < i ∧ ¬ s = j
    · simp [a, b, show s < i + 1 by omega]
    · rw [if_neg a, if_neg b, if_neg a, if_neg (show ¬ (s < i + 1 ∧ ¬ s = j) by omega)]
      by_cases c : ¬ i = j
      · rw [if_pos c]
      · rw [if_neg c]
theorem pAlone_0 {j s : Nat} : (pAlone j S 0).2.2 s = S.2.2 s := by
  show (if s < 0 ∧ ¬ s = j then qDrop (S.2.2 s) else S.2.2 s) = S.2.2 s
  rw [if_neg (by omega)]
theorem pAlone_n {j i s : Nat} (h : i = j) : (pAlone j S (i + 1)).2.2 s = (pAlone j S i).2.2 s := by
  show (if s < i + 1 ∧ ¬ s = j then qDrop (S.2.2 s) else S.2.2 s) = (if s < i ∧ ¬ s = j then qDrop (S.2.2 s) else S.2.2 s)
  by_cases b : s < i ∧ ¬ s = j
  · rw [if_pos b, if_pos (by omega)]
  · rw [if_neg b, if_neg (by omega)]
theorem pAlone_q {j i : Nat} : (pAlone j S i).2.2 i = S.2.2 i := by
  show (if i < i ∧ ¬ i = j then qDrop (S.2.2 i) else S.2.2 i) = S.2.2 i
  rw [if_neg (by omega)]
theorem m_alone {a1 a2 : Int32} (h : zI S Q Z) : wX11_alone a1 a2 Z (fun r Z1 => wX12_alone a1 a2 Z1 (zD r)) := by
  obtain ⟨hw, hc, hr, -⟩ := id h
  have hN := hw.1
  unfold wX11_alone
  refine c_has hN hc (fun ha => ?_) (fun ha => ?_)
  · refine br_f (by decide) (c_win (fun hb => ?_) (fun hb => ?_))
    · refine br_t (by decide) ?_
      obtain ⟨n, -, hn, rfl⟩ := zW_n 0 60 rfl rfl (by decide) hb
      obtain ⟨j, hj, rfl⟩ := id ha
      have hj6 : j < 6 := Nat.lt_of_lt_of_le hj hN
      have ej : ∀ i, i < S.1 → (nI i = nI j ↔ i = j) := fun i hi => nI_eq (by omega) (by omega)
      have ref : ∀ Z2, kFr Z Z2 → wX12_alone (nI j) (nI n) Z2 (zD ((pGoN n (pAlone j S S.1)).2.2 j 8 - S.2.2 j 8)) := by
        intro Z2 f2
        have h2 := h.k f2
        unfold wX12_alone
        refine r_has_t hN h2.2.2.1 ha (br_f (by decide) (r_win_t hb (br_t (by decide) (rT_keep h2 (fun Z3 t3 => ?_)))))
        rintro _ rfl
        refine pk_loop (σ := zS) (fun m i Y => wX12_alone_30 (nI j) (nI n) (zD ((pGoN n (pAlone j S S.1)).2.2 j 8 - S.2.2 j 8)) m (nI i) Y) (fun i Y => rT S (pAlone j S i) Z2 Y) S.1 0 Z3 (Nat.zero_le _) (t3.cg rfl rfl (fun s _ => pAlone_0)) ?_ ?_
        · rintro m Y t
          show wX12_alone_30b _ (nI j) (nI n) (nI S.1) Y _
          unfold wX12_alone_30b
          have t1 : Y 97 1 = nI S.1 := t.2.1.1
          rw [t1]
          refine br_t (Int32.le_refl _) (rT_goN (by omega) (hw.alone j S.1) t (fun Z4 t4 _ => ?_))
          have e8 : Z4 98 (48 + j) = (pGoN n (pAlone j S S.1)).2.2 j 8 := (t4.2.1.2.2 j (by rw [pGoN_1]; exact hj)).2.2.2.2.2.2.2.2.1
          have a8 : Z4 102 (48 + j) = S.2.2 j 8 := (t4.1.2.2 j hj).2.2.2.2.2.2.2.2.1
          simp (disch := omega) only [zlit_add, nI_clamp, vp_in_nI, true_and]
          rw [e8, a8]
          rintro _ rfl
          exact rT_back hN t4 (fun Z5 t5 => ⟨rfl, (t5.I h2).inv⟩)
        · rintro m i Y hi t ih
          show wX12_alone_30b (fun x3 Z => wX12_alone_30 (nI j) (nI n) (zD ((pGoN n (pAlone j S S.1)).2.2 j 8 - S.2.2 j 8)) m x3 Z) (nI j) (nI n) (nI i) Y _
          unfold wX12_alone_30b wX12_alone_49
          have t1 : Y 97 1 = nI S.1 := t.2.1.1
          have hi6 : i < 6 := Nat.lt_of_lt_of_le hi hN
          have tq := t.2.1.2.2 i hi
          rw [pAlone_q] at tq
          rw [t1]
          refine br_f (nI_ge hi (by omega)) (br_c (fun c => ?_) (fun c => ?_))
          · rintro _ rfl
            rw [nI_1]
            exact ih Y (t.cg rfl rfl (fun s _ => pAlone_n ((ej i hi).mp c)))
          · refine r_off hi6 tq (fun Z4 r4 f4 => ?_)
            rintro _ rfl
            rw [nI_1]
            refine ih Z4 ((rT.set (P := pAlone j S i) hN hi t r4 f4).cg rfl rfl (fun s _ => ?_))
            rw [pAlone_s, if_pos (fun x => c ((ej i hi).mpr x))]
      refine cT_becomes hw hc kFr.rf (fun Z1 t1 => ?_)
      rintro _ rfl
      refine pk_loop (σ := zS) (fun m i Y => wX11_alone_36 (nI j) (nI n) (fun r Z1 => wX12_alone (nI j) (nI n) Z1 (zD r)) m (nI i) Y) (fun i Y => cT S (pAlone j S i) Z Y) S.1 0 Z1 (Nat.zero_le _) (t1.cg rfl rfl (fun s _ => pAlone_0)) ?_ ?_
      · rintro m Y t
        show wX11_alone_36b _ (nI j) (nI n) (nI S.1) Y _
        unfold wX11_alone_36b
        have t1 : Y (54 + 1) 1 = nI S.1 := t.1.1
        rw [t1]
        refine br_t (Int32.le_refl _) (cT_goN hN (by omega) (hw.alone j S.1) t (fun Z4 t4 _ => ?_))
        exact c_lateMore (P := pGoN n (pAlone j S S.1)) hN (by rw [pGoN_1]; rfl) hj t4 (ref Z4 t4.2.2)
      · rintro m i Y hi t ih
        show wX11_alone_36b (fun x3 Z => wX11_alone_36 (nI j) (nI n) (fun r Z1 => wX12_alone (nI j) (nI n) Z1 (zD r)) m x3 Z) (nI j) (nI n) (nI i) Y _
        unfold wX11_alone_36b wX11_alone_64
        have t1 : Y (54 + 1) 1 = nI S.1 := t.1.1
        have hi6 : i < 6 := Nat.lt_of_lt_of_le hi hN
        have tq := t.1.2.2 i hi
        rw [pAlone_q] at tq
        rw [t1]
        refine br_f (nI_ge hi (by omega)) (br_c (fun c => ?_) (fun c => ⟨vp_in_nI hi6 (by decide), ?_⟩))
        · rintro _ rfl
          rw [nI_1]
          exact ih Y (t.cg rfl rfl (fun s _ => pAlone_n ((ej i hi).mp c)))
        · rw [nI_clamp (by omega)]
          refine c_drop tq (fun Z4 r4 f4 => ?_)
          rintro _ rfl
          rw [nI_1]
          refine ih Z4 ((cT.set (P := pAlone j S i) hN hN hi t r4 f4).cg rfl rfl (fun s _ => ?_))
          rw [pAlone_s, if_pos (fun x => c ((ej i hi).mpr x))]
    · refine br_f (fun x => x rfl) ?_
      unfold wX12_alone
      exact r_has_t hN hr ha (br_f (by decide) (r_win_f hb (br_f (fun x => x rfl) ⟨rfl, h.inv⟩)))
  · refine br_t rfl ?_
    unfold wX12_alone
    exact r_has_f hN hr ha (br_t rfl ⟨rfl, h.inv⟩)
end M4
