/-! FACE: kindBest, send -/
section M6
variable {S Q P : zP} {Z Z0 : zS} {T v s : Nat} {q : zQ} {t : Int32}
theorem zKi_of {k : Nat} (h : k < 6) : zKi (nI k) := by
  unfold zKi
  rcases (show k = 0 ∨ k = 1 ∨ k = 2 ∨ k = 3 ∨ k = 4 ∨ k = 5 by omega) with e | e | e | e | e | e <;> subst e
  · exact Or.inl rfl
  · exact Or.inr (Or.inl rfl)
  · exact Or.inr (Or.inr (Or.inl rfl))
  · exact Or.inr (Or.inr (Or.inr (Or.inl rfl)))
  · exact Or.inr (Or.inr (Or.inr (Or.inr (Or.inl rfl))))
  · exact Or.inr (Or.inr (Or.inr (Or.inr (Or.inr rfl))))
theorem wfQ.kd {k : Int32} (w : wfQ t q) (hk : zKi k) : wfQ t (upd q 0 k) := by
  have e : ∀ m, ¬ m = 0 → upd q 0 k m = q m := fun m hm => if_neg hm
  refine ⟨⟨hk, w.fig, w.bud, w.per, w.part, w.left, w.dl, w.st, w.late, w.done, w.jobs, w.idle, w.rest, w.hold, w.hold0, fun i hi => ?_⟩, w.ready⟩
  rw [e (20 + i) (by omega), e (30 + i) (by omega)]
  exact w.job i hi
theorem wfQ.fg {k : Int32} (w : wfQ t q) (hk : zin k 0 9) : wfQ t (upd q 1 k) := by
  have e : ∀ m, ¬ m = 1 → upd q 1 k m = q m := fun m hm => if_neg hm
  refine ⟨⟨w.kind, hk, w.bud, w.per, w.part, w.left, w.dl, w.st, w.late, w.done, w.jobs, w.idle, w.rest, w.hold, w.hold0, fun i hi => ?_⟩, w.ready⟩
  rw [e (20 + i) (by omega), e (30 + i) (by omega)]
  exact w.job i hi
theorem sRel.u {k : Nat} {x : Int32} (h : sRel v q Z) (hk : k < 11) (h10 : ¬ k = 10) : sRel v (upd q k x) (zU Z v k x) := by
  have h1 := h.f
  refine h.of (fun m hm => ?_) ?_ ?_ ?_ ?_ ?_ ?_
  · simp [zU_ap, upd_ap, h1, hm]
  · rw [zU_k (by omega)]; exact h.h.trans (if_neg (by omega)).symm
  · have e10 : upd q k x 10 = q 10 := if_neg (fun e => h10 e.symm)
    rw [e10]
    intro a
    rw [zU_k (by omega)]; exact (h.2 a).trans (if_neg (by omega)).symm
  · funext i; simp [zU_ap]
  · funext i; simp [zU_ap]
  · rw [show upd q k x 10 = q 10 from if_neg (fun e => h10 e.symm)]; exact Nat.le_refl _
  · intro i hi; exact ⟨upd20 (by omega), upd30 (by omega)⟩
theorem rAt.kd {x : Int32} (h : rAt s q Z) : rAt s (upd q 0 x) (zU Z 98 s x) := by
  obtain ⟨e0, e1, e2, e3, e5, e6, e7, e10, e8, e9, e13, e14, ej⟩ := h
  refine ⟨?_, ?_, ?_, ?_, ?_, ?_, ?_, ?_, ?_, ?_, ?_, ?_, ?_⟩
  case refine_12 => intro a; simpa [zU_ap, upd_ap] using e14 (by simpa [upd_ap] using a)
  case refine_13 => intro i h4 hi; simpa [zU_ap, upd20, upd30] using ej i h4 (by simpa [upd_ap] using hi)
  all_goals simp [zU_ap, upd_ap, e0, e1, e2, e3, e5, e6, e7, e10, e8, e9, e13]
theorem rAt.fg {x : Int32} (h : rAt s q Z) : rAt s (upd q 1 x) (zU Z 98 (6 + s) x) := by
  obtain ⟨e0, e1, e2, e3, e5, e6, e7, e10, e8, e9, e13, e14, ej⟩ := h
  refine ⟨?_, ?_, ?_, ?_, ?_, ?_, ?_, ?_, ?_, ?_, ?_, ?_, ?_⟩
  case refine_12 => intro a; simpa [zU_ap, upd_ap] using e14 (by simpa [upd_ap] using a)
  case refine_13 => intro i h4 hi; simpa [zU_ap, upd20, upd30] using ej i h4 (by simpa [upd_ap] using hi)
  all_goals simp [zU_ap, upd_ap, e0, e1, e2, e3, e5, e6, e7, e10, e8, e9, e13]
def pKind (S : zP) (j k : Nat) : zP := pSet S j (upd (S.2.2 j) 0 (nI k))
def vKL (S : zP) (j n k : Nat) : Int32 := pLate (pGoN n (pKind S j k))
def vKB (S : zP) (j n : Nat) : Nat → Int32 × Int32
  | 0 => (-4, 0)
  | k + 1 => if (vKB S j n k).1 = -4 then (nI k, vKL S j n k) else if (vKB S j n k).2 ≤ vKL S j n k then vKB S j n k else (nI k, vKL S j n k)
theorem vKB_n4 (j n k : Nat) (hk : k < 7) : ¬ (vKB S j n (k + 1)).1 = -4 := by
  induction k with
  | zero =>
    show ¬ (if (-4 : Int32) = -4 then _ else _ : Int32 × Int32).1 = -4
    rw [if_pos rfl]; exact nI_n4 (i := 0) (by decide)
  | succ k ih =>
    have ih := ih (by omega)
    show ¬ (if (vKB S j n (k + 1)).1 = -4 then (nI (k + 1), vKL S j n (k + 1)) else if (vKB S j n (k + 1)).2 ≤ vKL S j n (k + 1) then vKB S j n (k + 1) else (nI (k + 1), vKL S j n (k + 1))).1 = -4
    rw [if_neg ih]
    by_cases c : (vKB S j n (k + 1)).2 ≤ vKL S j n (k + 1)
    · rw [if_pos c]; exact ih
    · rw [if_neg c]; exact nI_n4 (by omega)
theorem m_kindBest {a1 a2 a3 : Int32} (h : zI S Q Z) : wX11_kindBest a1 a2 a3 Z (fun r Z1 => wX12_kindBest a1 a2 a3 Z1 (zD r)) := by
  obtain ⟨hw, hc, hr, -⟩ := id h
  have hN := hw.1
  unfold wX11_kindBest
  refine c_has hN hc (fun ha => ?_) (fun ha => ?_)
  · refine br_f (by decide) (c_win (fun hb => ?_) (fun hb => ?_))
    · refine br_f (by decide) (c_win (fun hd => ?_) (fun hd => ?_))
      · refine br_t (by decide) ?_
        obtain ⟨n, -, hn, rfl⟩ := zW_n 0 60 rfl rfl (by decide) hb
        obtain ⟨j, hj, rfl⟩ := id ha
        have hj6 : j < 6 := Nat.lt_of_lt_of_le hj hN
        have wK : ∀ k, k < 6 → wfP 9999 (pKind S j k) := fun k hk => hw.set ((hw.2.2 j hj).kd (zKi_of hk))
        have in6 : vp_in (nI j) 6 := vp_in_nI hj6 (by decide)
        have ref : ∀ r Z2, kFr Z Z2 → r = (if a3 = 0 then (vKB S j n 6).1 else (vKB S j n 6).2) → wX12_kindBest (nI j) (nI n) a3 Z2 (zD r) := by
          intro r Z2 f2 er
          have h2 := h.k f2
          unfold wX12_kindBest
          refine r_has_t hN h2.2.2.1 ha (br_f (by decide) (r_win_t hb (br_f (by decide) (r_win_t hd (br_t (by decide) (rT_keep h2 (fun Z3 t3 => ?_)))))))
          rintro _ rfl _ rfl _ rfl
          refine pk_loop (σ := Int32 × Int32 × zS) (fun m i s => wX12_kindBest_46 (nI j) (nI n) a3 (zD r) m s.1 s.2.1 (nI i) s.2.2) (fun i s => rT S S Z2 s.2.2 ∧ (0 < i → (s.1, s.2.1) = vKB S j n i)) 6 0 (0, 0, Z3) (Nat.zero_le _) ⟨t3, fun x => absurd x (Nat.lt_irrefl _)⟩ ?_ ?_
          · rintro m ⟨x, y, Y⟩ ⟨t, e⟩
            have e : (x, y) = vKB S j n 6 := e (by decide)
            show wX12_kindBest_46b _ (nI j) (nI n) a3 x y 6 Y _
            unfold wX12_kindBest_46b
            refine br_t (Int32.le_refl _) (br_c (fun c => ⟨?_, (t.I h2).inv⟩) (fun c => ⟨?_, (t.I h2).inv⟩))
            · rw [er, if_neg c, ← e]
            · rw [er, if_pos (Classical.not_not.mp c), ← e]
          · rintro m i ⟨x, y, Y⟩ hi ⟨t, e⟩ ih
            show wX12_kindBest_46b (fun x4 x5 x6 Z => wX12_kindBest_46 (nI j) (nI n) a3 (zD r) m x4 x5 x6 Z) (nI j) (nI n) a3 x y (nI i) Y _
            unfold wX12_kindBest_46b
            refine br_f (nI_ge (b := 6) hi (by decide)) ?_
            simp (disch := omega) only [zlit_add, nI_clamp, vp_in_nI, true_and, Nat.zero_add]
            rintro Z17 rfl
            have t17 : rT S (pKind S j i) Z2 (zU Y 98 j (nI i)) := rT.set (P := S) hN hj t (rAt.kd (t.2.1.2.2 j hj)) (rFr.u _ _ (by omega))
            refine rT_goN (by omega) (wK i hi) t17 (fun Z18 t18 _ => ?_)
            have hN' : (pGoN n (pKind S j i)).1 ≤ 6 := by rw [pGoN_1]; exact hN
            have k92 : ∀ x' y' Z5, rT S (pGoN n (pKind S j i)) Z2 Z5 → (x', y') = vKB S j n (i + 1) → wX12_kindBest_92 (fun x4 x5 x6 Z => wX12_kindBest_46 (nI j) (nI n) a3 (zD r) m x4 x5 x6 Z) (nI j) (nI n) a3 x' y' (nI i) Z5 (zD r) := by
              intro x' y' Z5 t5 e5
              unfold wX12_kindBest_92
              refine rT_back hN t5 (fun Z6 t6 => ?_)
              rintro _ rfl
              rw [nI_1]
              exact ih (x', y', Z6) ⟨t6, fun _ => e5⟩
            have k82 : ((vKB S j n i).1 = -4 ∨ ¬ (vKB S j n i).2 ≤ vKL S j n i) → ∀ Z5, rT S (pGoN n (pKind S j i)) Z2 Z5 → wX12_kindBest_82 (fun x4 x5 x6 Z => wX12_kindBest_46 (nI j) (nI n) a3 (zD r) m x4 x5 x6 Z) (nI j) (nI n) a3 (nI i) Z5 (zD r) := by
              intro c Z5 t5
              unfold wX12_kindBest_82
              refine r_allLate hN' t5.2.1 (k92 _ _ Z5 t5 ?_)
              show _ = (if (vKB S j n i).1 = -4 then (nI i, vKL S j n i) else if (vKB S j n i).2 ≤ vKL S j n i then vKB S j n i else (nI i, vKL S j n i))
              by_cases d : (vKB S j n i).1 = -4
              · rw [if_pos d]; rfl
              · rw [if_neg d, if_neg (c.resolve_left d)]; rfl
            refine br_c (fun c => ?_) (fun c => ?_)
            · have i0 : i = 0 := (nI_eq (a := i) (b := 0) (by omega) (by decide)).mp c
              refine k82 (Or.inl ?_) Z18 t18
              rw [i0]; rfl
            · have i0 : 0 < i := Nat.pos_of_ne_zero (fun z => c (by rw [z]; rfl))
              have e : (x, y) = vKB S j n i := e i0
              have n4 : ¬ (vKB S j n i).1 = -4 := by
                obtain ⟨k, rfl⟩ : ∃ k, i = k + 1 := ⟨i - 1, by omega⟩
                exact vKB_n4 j n k (by omega)
              refine r_allLate hN' t18.2.1 ?_
              have ey : y = (vKB S j n i).2 := by rw [← e]
              refine br_c (fun d => k92 x y Z18 t18 ?_) (fun d => k82 (Or.inr (by rw [← ey]; exact d)) Z18 t18)
              show _ = (if (vKB S j n i).1 = -4 then (nI i, vKL S j n i) else if (vKB S j n i).2 ≤ vKL S j n i then vKB S j n i else (nI i, vKL S j n i))
              rw [if_neg n4, if_pos (by rw [← ey]; exact d), e]
        rintro _ rfl _ rfl _ rfl
        refine pk_loop (σ := Int32 × Int32 × zS) (fun m i s => wX11_kindBest_42 (nI j) (nI n) a3 (fun r Z1 => wX12_kindBest (nI j) (nI n) a3 Z1 (zD r)) m s.1 s.2.1 (nI i) s.2.2) (fun i s => cRel 0 S s.2.2 ∧ kFr Z s.2.2 ∧ (s.1, s.2.1) = vKB S j n i) 6 0 (-4, 0, Z) (Nat.zero_le _) ⟨hc, kFr.rf, rfl⟩ ?_ ?_
        · rintro m ⟨x, y, Y⟩ ⟨c0, f0, e⟩
          have e : (x, y) = vKB S j n 6 := e
          show wX11_kindBest_42b _ (nI j) (nI n) a3 x y 6 Y _
          unfold wX11_kindBest_42b
          refine br_t (Int32.le_refl _) (br_c (fun c => ref _ Y f0 ?_) (fun c => ref _ Y f0 ?_))
          · rw [if_neg c, ← e]
          · rw [if_pos (Classical.not_not.mp c), ← e]
        · rintro m i ⟨x, y, Y⟩ hi ⟨c0, f0, e⟩ ih
          have e : (x, y) = vKB S j n i := e
          show wX11_kindBest_42b (fun x4 x5 x6 Z => wX11_kindBest_42 (nI j) (nI n) a3 (fun r Z1 => wX12_kindBest (nI j) (nI n) a3 Z1 (zD r)) m x4 x5 x6 Z) (nI j) (nI n) a3 x y (nI i) Y _
          unfold wX11_kindBest_42b
          refine br_f (nI_ge (b := 6) hi (by decide)) (cT_becomes hw c0 f0 (fun Z15 t15 => ⟨in6, vp_in_nI hi (by decide), ?_⟩))
          rw [nI_clamp (n := j) (by omega)]
          rintro Z18 rfl
          have t18 : cT S (pKind S j i) Z (zU Z15 (6 * 1 + j) 0 (nI i)) := cT.set (P := S) hN hN hj t15 ((t15.1.2.2 j hj).u (by decide) (by decide)) (sFr.u _ _)
          refine cT_goN hN (by omega) (wK i hi) t18 (fun Z19 t19 _ => ?_)
          have hN' : (pGoN n (pKind S j i)).1 ≤ 6 := by rw [pGoN_1]; exact hN
          refine c_lateOfAll hN' t19.1 ?_
          have ex : x = (vKB S j n i).1 := by rw [← e]
          have ey : y = (vKB S j n i).2 := by rw [← e]
          have eN : vKB S j n (i + 1) = (if (vKB S j n i).1 = -4 then (nI i, vKL S j n i) else if (vKB S j n i).2 ≤ vKL S j n i then vKB S j n i else (nI i, vKL S j n i)) := rfl
          have k118 : ∀ x' y', (x', y') = vKB S j n (i + 1) → wX11_kindBest_118 (fun x4 x5 x6 Z => wX11_kindBest_42 (nI j) (nI n) a3 (fun r Z1 => wX12_kindBest (nI j) (nI n) a3 Z1 (zD r)) m x4 x5 x6 Z) (nI j) (nI n) a3 x' y' (nI i) Z19 (fun r Z1 => wX12_kindBest (nI j) (nI n) a3 Z1 (zD r)) := by
            intro x' y' e'
            unfold wX11_kindBest_118
            rintro _ rfl
            rw [nI_1]
            exact ih (x', y', Z19) ⟨t19.2.1, t19.2.2, e'⟩
          unfold wX11_kindBest_110
          refine br_c (fun c => k118 _ _ ?_) (fun c => br_c (fun d => k118 _ _ ?_) (fun d => k118 _ _ ?_))
          · rw [eN, if_pos (ex.symm.trans c)]; rfl
          · rw [eN, if_neg (fun z => c (ex.trans z)), if_pos (by rw [← ey]; exact d), e]
          · rw [eN, if_neg (fun z => c (ex.trans z)), if_neg (by rw [← ey]; exact d)]; rfl
      · refine br_f (fun x => x rfl) ?_
        unfold wX12_kindBest
        exact r_has_t hN hr ha (br_f (by decide) (r_win_t hb (br_f (by decide) (r_win_f hd (br_f (fun x => x rfl) ⟨rfl, h.inv⟩)))))
    · refine br_t rfl ?_
      unfold wX12_kindBest
      exact r_has_t hN hr ha (br_f (by decide) (r_win_f hb (br_t rfl ⟨rfl, h.inv⟩)))
  · refine br_t rfl ?_
    unfold wX12_kindBest
    exact r_has_f hN hr ha (br_t rfl ⟨rfl, h.inv⟩)
/-! send -/
def pDropS (S : zP) (s : Nat) : zP := pSet S s (qDrop (S.2.2 s))
def vS1 (S : zP) (n s : Nat) : Int32 := pLateBut (nI s) (pGoN n (pDropS S s))
def vS0 (S : zP) (n s : Nat) : Int32 := pLateBut (nI s) (pGoN n S)
def vSend (S : zP) (n : Nat) : Nat → Int32 × Int32
  | 0 => (-4, 0)
  | s + 1 => if vS0 S n s ≤ vS1 S n s then vSend S n s else if (vSend S n s).1 = -4 then (nI s, vS1 S n s) else if (vSend S n s).2 ≤ vS1 S n s then vSend S n s else (nI s, vS1 S n s)
theorem zsum_but {f : Nat → Int32} {n s : Nat} (hs : s < n) : zsum f n - f s = zsum (fun i => if i = s then 0 else f i) n := by
  have key : ∀ m, m ≤ s → zsum (fun i => if i = s then (0 : Int32) else f i) m = zsum f m := fun m hm => zsum_cg (fun i hi => if_neg (by omega))
  have : ∀ m, s < m → zsum f m - f s = zsum (fun i => if i = s then (0 : Int32) else f i) m := by
    intro m
    induction m with
    | zero => intro h; exact absurd h (Nat.not_lt_zero _)
    | succ m ih =>
      intro h
      show zsum f m + f m - f s = zsum (fun i => if i = s then (0 : Int32) else f i) m + (if m = s then 0 else f m)
      by_cases e : m = s
      · rw [if_pos e, e, key s (Nat.le_refl _), Int32.add_zero, Int32.add_sub_cancel]
      · rw [if_neg e, ← ih (by omega), Int32.sub_eq_add_neg, Int32.sub_eq_add_neg, Int32.add_assoc, Int32.add_comm (f m), ← Int32.add_assoc]
  exact this n hs
theorem pLateBut_e {s : Nat} (hN : P.1 ≤ 6) (hs : s < P.1) : pLate P - P.2.2 s 8 = pLateBut (nI s) P := by
  unfold pLate pLateBut
  rw [zsum_but (f := fun s => P.2.2 s 8) hs]
  refine zsum_cg (fun i hi => ?_)
  by_cases e : i = s
  · rw [if_pos e, e, if_pos rfl]
  · rw [if_neg e, if_neg (fun x => e ((nI_eq (a := i) (b := s) (by omega) (by omega)).mp x))]
theorem r_others10 {n : Nat} {a : Int32} {K : Int32 → zS → Prop} (hN : S.1 ≤ 6) (hT : T + n ≤ 20000) (hs : s < P.1) (w : wfP T P) (t : rT S P Z0 Z) (hk : ∀ Z', rT S S Z0 Z' → K (pLateBut (nI s) (pGoN n P)) Z') : wX12_others_10 (nI s) (nI n) a Z K := by
  have hs6 : s < 6 := Nat.lt_of_lt_of_le hs w.1
  unfold wX12_others_10
  refine rT_goN hT w t (fun Z4 t4 _ => ?_)
  have hN' : (pGoN n P).1 ≤ 6 := by rw [pGoN_1]; exact w.1
  have hs' : s < (pGoN n P).1 := by rw [pGoN_1]; exact hs
  refine r_allLate hN' t4.2.1 ?_
  have e8 : Z4 98 (48 + s) = (pGoN n P).2.2 s 8 := (t4.2.1.2.2 s hs').2.2.2.2.2.2.2.2.1
  simp (disch := omega) only [zlit_add, nI_clamp, vp_in_nI, true_and]
  rw [e8]
  rintro _ rfl
  rw [pLateBut_e hN' hs']
  exact rT_back hN t4 hk
theorem m_send {a1 : Int32} (h : zI S Q Z) : wX11_send a1 Z (fun r Z1 => wX12_send a1 Z1 (zD r)) := by
  obtain ⟨hw, hc, hr, -⟩ := id h
  have hN := hw.1
  unfold wX11_send
  refine c_win (fun hb => ?_) (fun hb => ?_)
  · refine br_t (by decide) ?_
    obtain ⟨n, -, hn, rfl⟩ := zW_n 0 60 rfl rfl (by decide) hb
    have wD : ∀ s, s < S.1 → wfP 9999 (pDropS S s) := fun s hs => hw.set (hw.2.2 s hs).1.drop
    have eN : ∀ s, vSend S n (s + 1) = if vS0 S n s ≤ vS1 S n s then vSend S n s else if (vSend S n s).1 = -4 then (nI s, vS1 S n s) else if (vSend S n s).2 ≤ vS1 S n s then vSend S n s else (nI s, vS1 S n s) := fun s => rfl
    have ref : ∀ Z2, kFr Z Z2 → wX12_send (nI n) Z2 (zD (vSend S n S.1).1) := by
      intro Z2 f2
      have h2 := h.k f2
      unfold wX12_send
      refine r_win_t hb (br_t (by decide) (rT_keep h2 (fun Z3 t3 => ?_)))
      rintro _ rfl _ rfl _ rfl
      refine pk_loop (σ := Int32 × Int32 × zS) (fun m i s => wX12_send_28 (nI n) (zD (vSend S n S.1).1) m s.1 s.2.1 (nI i) s.2.2) (fun i s => rT S S Z2 s.2.2 ∧ (s.1, s.2.1) = vSend S n i) S.1 0 (-4, 0, Z3) (Nat.zero_le _) ⟨t3, rfl⟩ ?_ ?_
      · rintro m ⟨x, y, Y⟩ ⟨t, e⟩
        have e : (x, y) = vSend S n S.1 := e
        show wX12_send_28b _ (nI n) x y (nI S.1) Y _
        unfold wX12_send_28b
        have t : rT S S Z2 Y := t
        rw [t.2.1.1]
        exact br_t (Int32.le_refl _) ⟨by rw [← e], (t.I h2).inv⟩
      · rintro m i ⟨x, y, Y⟩ hi ⟨t, e⟩ ih
        have e : (x, y) = vSend S n i := e
        have ex : x = (vSend S n i).1 := by rw [← e]
        have ey : y = (vSend S n i).2 := by rw [← e]
        have hi6 : i < 6 := Nat.lt_of_lt_of_le hi hN
        show wX12_send_28b (fun x2 x3 x4 Z => wX12_send_28 (nI n) (zD (vSend S n S.1).1) m x2 x3 x4 Z) (nI n) x y (nI i) Y _
        unfold wX12_send_28b
        have t : rT S S Z2 Y := t
        rw [t.2.1.1]
        refine br_f (nI_ge hi (by omega)) ?_
        unfold wX12_others
        refine br_f (fun x => x rfl) (r_off hi6 (t.2.1.2.2 i hi) (fun Z4 r4 f4 => ?_))
        have t4 : rT S (pDropS S i) Z2 Z4 := rT.set (P := S) hN hi t r4 f4
        refine r_others10 (P := pDropS S i) hN (by omega) hi (wD i hi) t4 (fun Z5 t5 => ?_)
        refine br_t (by decide) (r_others10 (P := S) hN (by omega) hi hw t5 (fun Z6 t6 => ?_))
        have k81 : ∀ x' y', (x', y') = vSend S n (i + 1) → wX12_send_81 (fun x2 x3 x4 Z => wX12_send_28 (nI n) (zD (vSend S n S.1).1) m x2 x3 x4 Z) (nI n) x' y' (nI i) Z6 (zD (vSend S n S.1).1) := by
          intro x' y' e'
          unfold wX12_send_81
          rintro _ rfl
          rw [nI_1]
          exact ih (x', y', Z6) ⟨t6, e'⟩
        unfold wX12_send_75
        refine br_c (fun c => k81 _ _ ?_) (fun c => br_c (fun d => k81 _ _ ?_) (fun d => br_c (fun g => k81 _ _ ?_) (fun g => k81 _ _ ?_)))
        · have c : vS0 S n i ≤ vS1 S n i := c
          rw [eN, if_pos c, e]
        · have c : ¬ vS0 S n i ≤ vS1 S n i := c
          rw [eN, if_neg c, if_pos (ex.symm.trans d)]; rfl
        · have c : ¬ vS0 S n i ≤ vS1 S n i := c
          have g : vS1 S n i < y := g
          rw [eN, if_neg c, if_neg (fun z => d (ex.trans z)), if_neg (by rw [← ey]; exact Int32.not_le.mpr g)]; rfl
        · have c : ¬ vS0 S n i ≤ vS1 S n i := c
          have g : ¬ vS1 S n i < y := g
          rw [eN, if_neg c, if_neg (fun z => d (ex.trans z)), if_pos (by rw [← ey]; exact Int32.not_lt.mp g), e]
    have h95 : ∀ Y Y' : zS, cFr 1 Y Y' → Y' 95 = Y 95 := fun Y Y' f => f.far (by decide) (by decide)
    refine c_becomes (by decide) (by decide) (by decide) hN (fun s hs => (hw.2.2 s hs).1) hc (fun Z4 r4 f4 => ?_)
    refine c_goOnFor (by decide) (by omega) hw r4 (fun Z5 r5 f5 _ => ?_)
    have c5 : cRel 0 S Z5 := (hc.fr (by decide) hN (by decide) f4).fr (by decide) hN (by decide) f5
    have k5 : kFr Z Z5 := (kFr.c f4).tr (kFr.c f5)
    have hN5 : (pGoN n S).1 ≤ 6 := by rw [pGoN_1]; exact hN
    rintro _ rfl
    have w95 : ∀ (Y : zS) k x, kFr Y (zU Y 95 k x) := fun Y k x => ⟨fun i _ h2 => zU_r (by omega), by rw [zU_r (by decide)]⟩
    refine pk_loop (σ := zS) (fun m i Y => wX11_send_33 (nI n) (fun r Z1 => wX12_send (nI n) Z1 (zD r)) m (nI i) Y) (fun i Y => cRel 1 (pGoN n S) Y ∧ cRel 0 S Y ∧ kFr Z Y ∧ ∀ s, s < i → Y 95 s = vS0 S n s) S.1 0 Z5 (Nat.zero_le _) ⟨r5, c5, k5, fun s hs => absurd hs (Nat.not_lt_zero _)⟩ ?_ ?_
    · rintro m Y ⟨y1, y0, yk, y95⟩
      show wX11_send_33b _ (nI n) (nI S.1) Y _
      unfold wX11_send_33b
      have e1 : Y (54 + 1) 1 = nI S.1 := by rw [y1.1, pGoN_1]
      rw [e1]
      refine br_t (Int32.le_refl _) ?_
      rintro _ rfl _ rfl _ rfl
      refine pk_loop (σ := Int32 × Int32 × zS) (fun m i s => wX11_send_72 (nI n) (fun r Z1 => wX12_send (nI n) Z1 (zD r)) m s.1 s.2.1 (nI i) s.2.2) (fun i s => cRel 0 S s.2.2 ∧ kFr Z s.2.2 ∧ (∀ k, k < S.1 → s.2.2 95 k = vS0 S n k) ∧ (s.1, s.2.1) = vSend S n i) S.1 0 (-4, 0, Y) (Nat.zero_le _) ⟨y0, yk, y95, rfl⟩ ?_ ?_
      · rintro m ⟨x, y, Y⟩ ⟨y0, yk, y95, e⟩
        have e : (x, y) = vSend S n S.1 := e
        show wX11_send_72b _ (nI n) x y (nI S.1) Y _
        unfold wX11_send_72b
        have y0 : cRel 0 S Y := y0
        rw [y0.1]
        refine br_t (Int32.le_refl _) ?_
        rw [show x = (vSend S n S.1).1 by rw [← e]]
        exact ref Y yk
      · rintro m i ⟨x, y, Y⟩ hi ⟨y0, yk, y95, e⟩ ih
        have e : (x, y) = vSend S n i := e
        have ex : x = (vSend S n i).1 := by rw [← e]
        have ey : y = (vSend S n i).2 := by rw [← e]
        have hi6 : i < 6 := Nat.lt_of_lt_of_le hi hN
        have in6 : vp_in (nI i) 6 := vp_in_nI hi6 (by decide)
        show wX11_send_72b (fun x2 x3 x4 Z => wX11_send_72 (nI n) (fun r Z1 => wX12_send (nI n) Z1 (zD r)) m x2 x3 x4 Z) (nI n) x y (nI i) Y _
        unfold wX11_send_72b
        have y0 : cRel 0 S Y := y0
        rw [y0.1]
        refine br_f (nI_ge hi (by omega)) ?_
        refine c_becomes (by decide) (by decide) (by decide) hN (fun s hs => (hw.2.2 s hs).1) y0 (fun Z17 r17 f17 => ⟨in6, ?_⟩)
        rw [nI_clamp (by omega)]
        refine c_drop (r17.2.2 i hi) (fun Z19 r19 f19 => ?_)
        have f19' : cFr 1 Z17 Z19 := cFr.s (p := 1) (by decide) hi6 f19
        have h19 : cRel 1 (pDropS S i) Z19 := cRel.set (by decide) hN hi r17 r19 f19
        refine c_goOnFor (by decide) (by omega) (wD i hi) h19 (fun Z20 r20 f20 _ => ?_)
        have hN' : (pGoN n (pDropS S i)).1 ≤ 6 := by rw [pGoN_1]; exact hN
        have fA : cFr 1 Y Z20 := (f17.tr f19').tr f20
        refine c_lateOfAllBut hN' r20 ⟨in6, ?_⟩
        have e95 : Z20 95 i = vS0 S n i := by rw [h95 _ _ fA]; exact y95 i hi
        rw [e95]
        have k157 : ∀ x' y', (x', y') = vSend S n (i + 1) → wX11_send_157 (fun x2 x3 x4 Z => wX11_send_72 (nI n) (fun r Z1 => wX12_send (nI n) Z1 (zD r)) m x2 x3 x4 Z) (nI n) x' y' (nI i) Z20 (fun r Z1 => wX12_send (nI n) Z1 (zD r)) := by
          intro x' y' e'
          unfold wX11_send_157
          rintro _ rfl
          rw [nI_1]
          exact ih (x', y', Z20) ⟨y0.fr (by decide) hN (by decide) fA, yk.tr (kFr.c fA), fun k hk => by show Z20 95 k = _; rw [h95 _ _ fA]; exact y95 k hk, e'⟩
        unfold wX11_send_151
        refine br_c (fun c => k157 _ _ ?_) (fun c => br_c (fun d => k157 _ _ ?_) (fun d => br_c (fun g => k157 _ _ ?_) (fun g => k157 _ _ ?_)))
        · have c : vS0 S n i ≤ vS1 S n i := c
          rw [eN, if_pos c, e]
        · have c : ¬ vS0 S n i ≤ vS1 S n i := c
          rw [eN, if_neg c, if_pos (ex.symm.trans d)]; rfl
        · have c : ¬ vS0 S n i ≤ vS1 S n i := c
          have g : y ≤ vS1 S n i := g
          rw [eN, if_neg c, if_neg (fun z => d (ex.trans z)), if_pos (by rw [← ey]; exact g), e]
        · have c : ¬ vS0 S n i ≤ vS1 S n i := c
          have g : ¬ y ≤ vS1 S n i := g
          rw [eN, if_neg c, if_neg (fun z => d (ex.trans z)), if_neg (by rw [← ey]; exact g)]; rfl
    · rintro m i Y hi ⟨y1, y0, yk, y95⟩ ih
      have hi6 : i < 6 := Nat.lt_of_lt_of_le hi hN
      have in6 : vp_in (nI i) 6 := vp_in_nI hi6 (by decide)
      show wX11_send_33b (fun x2 Z => wX11_send_33 (nI n) (fun r Z1 => wX12_send (nI n) Z1 (zD r)) m x2 Z) (nI n) (nI i) Y _
      unfold wX11_send_33b
      have e1 : Y (54 + 1) 1 = nI S.1 := by rw [y1.1, pGoN_1]
      rw [e1]
      refine br_f (nI_ge hi (by omega)) (c_lateOfAllBut hN5 y1 ⟨in6, ?_⟩)
      rw [nI_clamp (by omega)]
      rintro Z14 rfl _ rfl
      rw [nI_1]
      have o : ∀ j, ¬ j = 95 → zU Y 95 i (pLateBut (nI i) (pGoN n S)) j = Y j := fun j hj => zU_r hj
      refine ih _ ⟨?_, ?_, yk.tr (w95 Y _ _), fun s hs => ?_⟩
      · refine ⟨by rw [o _ (by decide)]; exact y1.1, by rw [o _ (by decide)]; exact y1.2.1, fun s hs => ?_⟩
        have hs6 : s < 6 := Nat.lt_of_lt_of_le hs hN5
        exact (y1.2.2 s hs).mv (o _ (by omega)) (o _ (by omega)) (o _ (by omega))
      · refine ⟨by rw [o _ (by decide)]; exact y0.1, by rw [o _ (by decide)]; exact y0.2.1, fun s hs => ?_⟩
        have hs6 : s < 6 := Nat.lt_of_lt_of_le hs hN
        exact (y0.2.2 s hs).mv (o _ (by omega)) (o _ (by omega)) (o _ (by omega))
      · by_cases z : s = i
        · rw [z, zU_s]; rfl
        · rw [zU_k z]; exact y95 s (by omega)
  · refine br_f (fun x => x rfl) ?_
    unfold wX12_send
    exact r_win_f hb (br_f (fun x => x rfl) ⟨rfl, h.inv⟩)
end M6
