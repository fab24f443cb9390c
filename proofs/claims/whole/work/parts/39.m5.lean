/-! FACE: needs, kindBest, send -/
section M5
variable {S Q P : zP} {Z Z0 : zS} {T v s : Nat} {q : zQ} {t : Int32}
def qBud (b p : Int32) (q : zQ) : zQ := upd (upd (upd q 2 b) 3 p) 4 (60 * b / p)
theorem zshare {b p : Nat} (b1 : 1 ≤ b) (b2 : b ≤ 30) (p1 : b ≤ p) (p2 : p ≤ 60) : zin (60 * nI b / nI p) 1 60 := by
  have e : (60 * nI b / nI p : Int32) = nI (60 * b / p) := by
    rw [zlit_mul]
    exact pk_div (by omega) (by omega) (by omega)
  have h1 : 60 * b / p ≤ 60 := Nat.div_le_of_le_mul (by rw [Nat.mul_comm]; exact Nat.mul_le_mul_right _ p1)
  have h2 : 1 ≤ 60 * b / p := Nat.div_pos (by omega) (by omega)
  rw [e]
  unfold zin
  rw [nI_toInt (by omega)]
  omega
theorem wfQ.budget {b p : Nat} (w : wfQ t q) (b1 : 1 ≤ b) (b2 : b ≤ 30) (p1 : b ≤ p) (p2 : p ≤ 60) : wfQ t (qBud (nI b) (nI p) q) := by
  have tb := nI_toInt (n := b) (by omega)
  have tp := nI_toInt (n := p) (by omega)
  have e : ∀ k, ¬ k = 2 → ¬ k = 3 → ¬ k = 4 → qBud (nI b) (nI p) q k = q k := fun k x y z => by simp [qBud, upd_ap, x, y, z]
  have k2 : qBud (nI b) (nI p) q 2 = nI b := by simp [qBud, upd_ap]
  have k3 : qBud (nI b) (nI p) q 3 = nI p := by simp [qBud, upd_ap]
  have k4 : qBud (nI b) (nI p) q 4 = 60 * nI b / nI p := by simp [qBud, upd_ap]
  refine ⟨⟨w.kind, w.fig, ?_, ?_, ?_, w.left, w.dl, w.st, w.late, w.done, w.jobs, w.idle, w.rest, w.hold, w.hold0, fun i hi => ?_⟩, w.ready⟩
  · rw [k2]; unfold zin; rw [tb]; omega
  · rw [k2, k3, tb, tp]; omega
  · rw [k2, k3, k4]; exact ⟨rfl, zshare b1 b2 p1 p2⟩
  · rw [e (20 + i) (by omega) (by omega) (by omega), e (30 + i) (by omega) (by omega) (by omega)]
    exact w.job i hi
theorem c_setBudget {b p : Int32} {K : zS → Prop} (hb : zW b 1 30) (hp : zW p b 60) (h : sRel v q Z) (hk : ∀ Z', sRel v (qBud b p q) Z' → sFr v Z Z' → K Z') : wX5_setBudget v b p Z K := by
  have h1 := h.f
  unfold wX5_setBudget
  rintro Z1 hZ1 Z2 hZ2
  refine c_partOf hb hp ?_
  rintro Z5 hZ5
  refine hk _ (h.of (fun k hk => ?_) ?_ ?_ ?_ ?_ ?_ ?_) (by rw [hZ5, hZ2, hZ1]; exact ((sFr.u _ _).tr (sFr.u _ _)).tr (sFr.u _ _))
  · rw [hZ5, hZ2, hZ1]; simp [zU_ap, qBud, upd_ap, h1, hk]
  · rw [hZ5, hZ2, hZ1]; simp [zU_ap, qBud, upd_ap, h.h]
  · rw [hZ5, hZ2, hZ1]; simpa [zU_ap, qBud, upd_ap] using h.2
  · rw [hZ5, hZ2, hZ1]; funext i; simp [zU_ap]
  · rw [hZ5, hZ2, hZ1]; funext i; simp [zU_ap]
  · simp [qBud, upd_ap]
  · intro i hi; simp [qBud, upd20, upd30]
theorem r_bud {b p : Int32} (h : rAt s q Z) (hp : q 3 = p) : rAt s (qBud b p q) (zU Z 98 (12 + s) b) := by
  obtain ⟨e0, e1, e2, e3, e5, e6, e7, e10, e8, e9, e13, e14, ej⟩ := h
  refine ⟨?_, ?_, ?_, ?_, ?_, ?_, ?_, ?_, ?_, ?_, ?_, ?_, ?_⟩
  case refine_12 => intro a; simpa [zU_ap, qBud, upd_ap] using e14 (by simpa [qBud, upd_ap] using a)
  case refine_13 => intro i h4 hi; simpa [zU_ap, qBud, upd20, upd30] using ej i h4 (by simpa [qBud, upd_ap] using hi)
  all_goals simp [zU_ap, qBud, upd_ap, e0, e1, e2, e3, e5, e6, e7, e10, e8, e9, e13, hp]
def pBud (S : zP) (j b : Nat) : zP := pSet S j (qBud (nI b) (S.2.2 j 3) (S.2.2 j))
def vNeed (S : zP) (j n b : Nat) : Prop := (pGoN n (pBud S j b)).2.2 j 8 = S.2.2 j 8
theorem zmin30 {p : Nat} (hp : p ≤ 60) : (if nI p < 30 then nI p else (30 : Int32)) = nI (if p < 30 then p else 30) := by
  by_cases c : p < 30
  · have h : nI p < 30 := nI_lt (b := 30) c (by decide)
    rw [if_pos c, if_pos h]
  · have h : ¬ nI p < 30 := nI_nlt (b := 30) (by omega) (by omega)
    rw [if_neg c, if_neg h]; rfl
theorem pBud_8 (j b : Nat) : (pBud S j b).2.2 j 8 = S.2.2 j 8 := by
  unfold pBud
  rw [pSet_at, if_pos rfl]
  simp [qBud, upd_ap]
theorem m_needs {a1 a2 : Int32} (h : zI S Q Z) : wX11_needs a1 a2 Z (fun r Z1 => wX12_needs a1 a2 Z1 (zD r)) := by
  obtain ⟨hw, hc, hr, -⟩ := id h
  have hN := hw.1
  have hl8 : ∀ s, s < S.1 → zin (S.2.2 s 8) 0 999 := fun s hs => (hw.2.2 s hs).late
  unfold wX11_needs
  refine c_has hN hc (fun ha => ?_) (fun ha => ?_)
  · refine br_f (by decide) (c_win (fun hb => ?_) (fun hb => ?_))
    · obtain ⟨n, -, hn, rfl⟩ := zW_n 0 60 rfl rfl (by decide) hb
      obtain ⟨j, hj, rfl⟩ := id ha
      have hj6 : j < 6 := Nat.lt_of_lt_of_le hj hN
      have wq := hw.2.2 j hj
      have b1 := wq.bud.1
      have p1 := wq.per.1
      have p2 := wq.per.2
      obtain ⟨p, hp, ep⟩ := zin_nI (n := 60) (x := S.2.2 j 3) ⟨by omega, by omega⟩ (by decide)
      have hp1 : 1 ≤ p := by
        have := nI_toInt (n := p) (by omega)
        rw [← ep] at this
        omega
      -- the bound
      obtain ⟨B, eB, hB1⟩ : ∃ B : Nat, (B = if p < 30 then p else 30) ∧ 1 ≤ B := ⟨_, rfl, by split <;> omega⟩
      have hB30 : B ≤ 30 := by rw [eB]; split <;> omega
      have hBp : B ≤ p := by rw [eB]; split <;> omega
      have wB : ∀ b, 1 ≤ b → b ≤ B → wfP 9999 (pBud S j b) := fun b h1 h2 => hw.set (by rw [ep]; exact wq.budget h1 (by omega) (by omega) hp)
      have in6 : vp_in (nI j) 6 := vp_in_nI hj6 (by decide)
      have ref : ∀ r Z2, kFr Z Z2 → zFst (vNeed S j n) 1 (B + 1) r → wX12_needs (nI j) (nI n) Z2 (zD r) := by
        intro r Z2 f2 hz
        have h2 := h.k f2
        unfold wX12_needs
        refine r_has_t hN h2.2.2.1 ha (br_f (by decide) (r_win_t hb (br_t (by decide) (rT_keep h2 (fun Z3 t3 => ?_)))))
        rintro _ rfl _ rfl
        refine pk_loop (σ := Int32 × zS) (fun m i s => wX12_needs_34 (nI j) (nI n) (zD r) m s.1 (nI (i + 1)) s.2) (fun i s => rT S S Z2 s.2 ∧ ((s.1 = -4 ∧ ∀ b, 1 ≤ b → b < i + 1 → ¬ vNeed S j n b) ∨ (¬ s.1 = -4 ∧ zFst (vNeed S j n) 1 (B + 1) s.1))) B 0 (-4, Z3) (Nat.zero_le _) ⟨t3, Or.inl ⟨rfl, fun b h1 h2 => absurd h2 (by omega)⟩⟩ ?_ ?_
        · rintro m ⟨x, Y⟩ ⟨t, e⟩
          show wX12_needs_34b _ (nI j) (nI n) x (nI (B + 1)) Y _
          have e3 : Y 98 (18 + j) = nI p := ((t.2.1.2.2 j hj).2.2.2.1).trans ep
          unfold wX12_needs_34b
          simp (disch := omega) only [zlit_add, nI_clamp, vp_in_nI, true_and]
          rw [e3]
          have em : (if nI p < 30 then nI p else (30 : Int32)) = nI B := by
            rw [eB]; exact zmin30 hp
          rw [em]
          refine br_t (nI_lt (by omega) (by omega)) ⟨?_, (t.I h2).inv⟩
          rcases e with e | e
          · exact zFst.u (Or.inr e) hz
          · exact e.2.u hz
        · rintro m i ⟨x, Y⟩ hi ⟨t, e⟩ ih
          show wX12_needs_34b (fun x3 x4 Z => wX12_needs_34 (nI j) (nI n) (zD r) m x3 x4 Z) (nI j) (nI n) x (nI (i + 1)) Y _
          have rj := t.2.1.2.2 j hj
          have e3 : Y 98 (18 + j) = nI p := (rj.2.2.2.1).trans ep
          unfold wX12_needs_34b
          simp (disch := omega) only [zlit_add, nI_clamp, vp_in_nI, true_and]
          rw [e3]
          have em : (if nI p < 30 then nI p else (30 : Int32)) = nI B := by
            rw [eB]; exact zmin30 hp
          rw [em]
          refine br_f (nI_nlt (by omega) (by omega)) (br_c (fun c => ⟨?_, (t.I h2).inv⟩) (fun c => ?_))
          · rcases e with e | e
            · exact absurd e.1 c
            · exact e.2.u hz
          · have c := Classical.not_not.mp c
            have e' := (e.resolve_right (fun z => z.1 c)).2
            rintro Z14 rfl
            have t14 : rT S (pBud S j (i + 1)) Z2 (zU Y 98 (12 + j) (nI (i + 1))) := rT.set (P := S) hN hj t (r_bud rj rfl) (rFr.u _ _ (by omega))
            refine rT_goN (by omega) (wB (i + 1) (by omega) (by omega)) t14 (fun Z15 t15 _ => ?_)
            have e8 : Z15 98 (48 + j) = (pGoN n (pBud S j (i + 1))).2.2 j 8 := (t15.2.1.2.2 j (by rw [pGoN_1]; exact hj)).2.2.2.2.2.2.2.2.1
            have a8 : Z15 102 (48 + j) = S.2.2 j 8 := (t15.1.2.2 j hj).2.2.2.2.2.2.2.2.1
            rw [e8, a8]
            unfold wX12_needs_99
            refine br_c (fun d => rT_back hN t15 (fun Z5 t5 => ?_)) (fun d => rT_back hN t15 (fun Z5 t5 => ?_))
            · rintro _ rfl
              rw [nI_1]
              refine ih (x, Z5) ⟨t5, Or.inl ⟨c, fun b h1 h2 => ?_⟩⟩
              by_cases z : b = i + 1
              · rw [z]; exact d
              · exact e' b h1 (by omega)
            · rintro _ rfl
              rw [nI_1]
              exact ih (nI (i + 1), Z5) ⟨t5, Or.inr ⟨nI_n4 (by omega), Or.inl ⟨i + 1, by omega, by omega, rfl, Classical.not_not.mp d, e'⟩⟩⟩
      refine br_t (by decide) ⟨in6, ?_⟩
      rw [nI_clamp (by omega), (hc.2.2 j hj).f 3 (by decide), ep]
      rintro _ rfl _ rfl
      refine pk_loop (σ := zS) (fun m i Y => wX11_needs_39 (nI j) (nI n) (fun r Z1 => wX12_needs (nI j) (nI n) Z1 (zD r)) m (nI p) (nI (i + 1)) Y) (fun i Y => cRel 0 S Y ∧ kFr Z Y ∧ ∀ b, 1 ≤ b → b < i + 1 → ¬ vNeed S j n b) B 0 Z (Nat.zero_le _) ⟨hc, kFr.rf, fun b h1 h2 => absurd h2 (by omega)⟩ ?_ ?_
      · rintro m Y ⟨c0, f0, e⟩
        show wX11_needs_39b _ (nI j) (nI n) (nI p) (nI (B + 1)) Y _
        unfold wX11_needs_39b
        by_cases z : p < 30
        · rw [if_pos z] at eB
          refine br_f (nI_nlt (a := 30) (b := B + 1) (by omega) (by decide)) (br_t (nI_lt (by omega) (by omega)) (ref _ Y f0 (Or.inr ⟨rfl, e⟩)))
        · rw [if_neg z] at eB
          exact br_t (nI_lt (a := 30) (b := B + 1) (by omega) (by omega)) (ref _ Y f0 (Or.inr ⟨rfl, e⟩))
      · rintro m i Y hi ⟨c0, f0, e⟩ ih
        show wX11_needs_39b (fun x3 x4 Z => wX11_needs_39 (nI j) (nI n) (fun r Z1 => wX12_needs (nI j) (nI n) Z1 (zD r)) m x3 x4 Z) (nI j) (nI n) (nI p) (nI (i + 1)) Y _
        unfold wX11_needs_39b
        refine br_f (nI_nlt (a := 30) (b := i + 1) (by omega) (by decide)) (br_f (nI_nlt (by omega) (by omega)) ?_)
        refine cT_becomes hw c0 f0 (fun Z12 t12 => ⟨in6, ?_⟩)
        rw [nI_clamp (n := j) (by omega)]
        have ti := nI_toInt (n := i + 1) (by omega)
        have tp := nI_toInt (n := p) (by omega)
        have zb : zW (nI (i + 1)) 1 30 := ⟨zle.mpr (by rw [zi1, ti]; omega), zle.mpr (by rw [ti]; show _ ≤ (30 : Int); omega)⟩
        have zp : zW (nI p) (nI (i + 1)) 60 := ⟨zle.mpr (by rw [tp, ti]; omega), zle.mpr (by rw [tp]; show _ ≤ (60 : Int); omega)⟩
        refine c_setBudget zb zp (t12.1.2.2 j hj) (fun Z14 r14 f14 => ?_)
        have t14 : cT S (pBud S j (i + 1)) Z Z14 := by
          unfold pBud
          rw [ep]
          exact cT.set (P := S) hN hN hj t12 r14 f14
        have wb := wB (i + 1) (by omega) (by omega)
        refine c_tillLate (P := pBud S j (i + 1)) hN hl8 wb (by omega) (by omega) rfl hj t14 (fun r Z' hz c' f' => ?_)
        have mono : ∀ x, x ≤ n → ((pGoN x (pBud S j (i + 1))).2.2 j 8).toInt ≤ ((pGoN n (pBud S j (i + 1))).2.2 j 8).toInt := fun x hx => late_goN wb hj hx (by omega)
        have m0 := mono 0 (Nat.zero_le _)
        have e0 : (pGoN 0 (pBud S j (i + 1))).2.2 j 8 = S.2.2 j 8 := pBud_8 j (i + 1)
        rw [e0] at m0
        refine br_c (fun d => ?_) (fun d => ?_)
        · rintro _ rfl
          rw [nI_1]
          refine ih Z' ⟨c', f', fun b h1 h2 => ?_⟩
          by_cases z : b = i + 1
          · rw [z]
            rcases hz with ⟨x, g1, g2, g3, g4, g5⟩ | ⟨g1, -⟩
            · intro q
              unfold vNeed at q
              have := mono x (by omega)
              unfold vLate at g4
              rw [q] at this
              omega
            · exact absurd g1 d
          · exact e b h1 (by omega)
        · refine ref _ Z' f' (Or.inl ⟨i + 1, by omega, by omega, rfl, ?_, e⟩)
          have d := Classical.not_not.mp d
          rcases hz with ⟨x, g1, g2, g3, -⟩ | ⟨-, g2⟩
          · rw [g3] at d
            exact absurd d (nI_n4 (by omega))
          · unfold vNeed
            rcases Nat.eq_zero_or_pos n with z | z
            · rw [z]; exact e0
            · have := g2 n z (by omega)
              unfold vLate at this
              exact Int32.toInt_inj.mp (by omega)
    · refine br_f (fun x => x rfl) ?_
      unfold wX12_needs
      exact r_has_t hN hr ha (br_f (by decide) (r_win_f hb (br_f (fun x => x rfl) ⟨rfl, h.inv⟩)))
  · refine br_t rfl ?_
    unfold wX12_needs
    exact r_has_f hN hr ha (br_t rfl ⟨rfl, h.inv⟩)
end M5
