/-! FACE: server, job, drops, sends, ticks -/
section M1
variable {S Q : zP} {Z : zS}
/-- what is asked of a face method: the reference, behind the class, answers the same, and all holds again -/
abbrev zD (r : Int32) : Int32 → zS → Prop := fun r2 Z2 => r2 = r ∧ zInv Z2
theorem zI.inv {S Q : zP} {Z : zS} (h : zI S Q Z) : zInv Z := ⟨S, Q, h⟩
theorem m_server {a1 a2 : Int32} (h : zI S Q Z) : wX11_server a1 a2 Z (fun r Z1 => wX12_server a1 a2 Z1 (zD r)) := by
  obtain ⟨hw, hc, hr, -⟩ := id h
  have hN := hw.1
  unfold wX11_server
  refine c_has hN hc (fun ha => ?_) (fun ha => ?_)
  · obtain ⟨j, hj, rfl⟩ := id ha
    have hj6 : j < 6 := Nat.lt_of_lt_of_le hj hN
    have hs := hc.2.2 j hj
    have wq := hw.2.2 j hj
    obtain ⟨e0, e1, e2, e3, e5, e6, e7, e10, e8, e9, e13, e14, ej⟩ := id (hr.2.2 j hj)
    refine br_t (by decide) ⟨vp_in_nI hj6 (by decide), ?_⟩
    rw [nI_clamp (by omega)]
    rintro _ rfl y6 rfl
    refine br_c (fun e => ?_) (fun n0 => ?_)
    · subst e
      rw [hs.f 0 (by decide)]
      refine ⟨wq.kind, ?_⟩
      unfold wX12_server
      refine r_has_t hN hr ha (br_t (by decide) ?_)
      rintro _ rfl
      refine br_t rfl ?_
      simp (disch := omega) only [zlit_add, nI_clamp, vp_in_nI, true_and, Nat.zero_add]
      exact ⟨e0, h.inv⟩
    refine br_c (fun e => ?_) (fun n1 => ?_)
    · subst e
      rw [hs.f 1 (by decide)]
      unfold wX12_server
      refine r_has_t hN hr ha (br_t (by decide) ?_)
      rintro _ rfl
      refine br_f (by decide) (br_t rfl ?_)
      simp (disch := omega) only [zlit_add, nI_clamp, vp_in_nI, true_and, Nat.zero_add]
      exact ⟨e1, h.inv⟩
    refine br_c (fun e => ?_) (fun n2 => ?_)
    · subst e
      rw [hs.f 2 (by decide)]
      unfold wX12_server
      refine r_has_t hN hr ha (br_t (by decide) ?_)
      rintro _ rfl
      refine br_f (by decide) (br_f (by decide) (br_t rfl ?_))
      simp (disch := omega) only [zlit_add, nI_clamp, vp_in_nI, true_and, Nat.zero_add]
      exact ⟨e2, h.inv⟩
    refine br_c (fun e => ?_) (fun n3 => ?_)
    · subst e
      rw [hs.f 3 (by decide)]
      unfold wX12_server
      refine r_has_t hN hr ha (br_t (by decide) ?_)
      rintro _ rfl
      refine br_f (by decide) (br_f (by decide) (br_f (by decide) (br_t rfl ?_)))
      simp (disch := omega) only [zlit_add, nI_clamp, vp_in_nI, true_and, Nat.zero_add]
      exact ⟨e3, h.inv⟩
    refine br_c (fun e => ?_) (fun n4 => ?_)
    · subst e
      rw [hs.f 4 (by decide)]
      unfold wX12_server
      refine r_has_t hN hr ha (br_t (by decide) ?_)
      rintro _ rfl
      refine br_f (by decide) (br_f (by decide) (br_f (by decide) (br_f (by decide) (br_t rfl ?_))))
      exact r_share' hj6 (hr.2.2 j hj) wq.1.sh ⟨rfl, h.inv⟩
    refine br_c (fun e => ?_) (fun n5 => ?_)
    · subst e
      rw [hs.f 5 (by decide)]
      unfold wX12_server
      refine r_has_t hN hr ha (br_t (by decide) ?_)
      rintro _ rfl
      refine br_f (by decide) (br_f (by decide) (br_f (by decide) (br_f (by decide) (br_f (by decide) (br_t rfl ?_)))))
      simp (disch := omega) only [zlit_add, nI_clamp, vp_in_nI, true_and, Nat.zero_add]
      rw [e5]
      exact ⟨rfl, h.inv⟩
    refine br_c (fun e => ?_) (fun n6 => ?_)
    · subst e
      rw [hs.f 6 (by decide)]
      unfold wX12_server
      refine r_has_t hN hr ha (br_t (by decide) ?_)
      rintro _ rfl
      refine br_f (by decide) (br_f (by decide) (br_f (by decide) (br_f (by decide) (br_f (by decide) (br_f (by decide) (br_t rfl ?_))))))
      simp (disch := omega) only [zlit_add, nI_clamp, vp_in_nI, true_and, Nat.zero_add]
      exact ⟨e6, h.inv⟩
    refine br_c (fun e => ?_) (fun n7 => ?_)
    · subst e
      rw [hs.f 7 (by decide)]
      unfold wX12_server
      refine r_has_t hN hr ha (br_t (by decide) ?_)
      rintro _ rfl
      refine br_f (by decide) (br_f (by decide) (br_f (by decide) (br_f (by decide) (br_f (by decide) (br_f (by decide) (br_f (by decide) (br_t rfl ?_)))))))
      simp (disch := omega) only [zlit_add, nI_clamp, vp_in_nI, true_and, Nat.zero_add]
      exact ⟨e7, h.inv⟩
    refine br_c (fun e => ?_) (fun n8 => ?_)
    · subst e
      rw [hs.f 10 (by decide)]
      unfold wX12_server
      refine r_has_t hN hr ha (br_t (by decide) ?_)
      rintro _ rfl
      refine br_f (by decide) (br_f (by decide) (br_f (by decide) (br_f (by decide) (br_f (by decide) (br_f (by decide) (br_f (by decide) (br_f (by decide) (br_t rfl ?_))))))))
      simp (disch := omega) only [zlit_add, nI_clamp, vp_in_nI, true_and, Nat.zero_add]
      exact ⟨e10, h.inv⟩
    refine br_c (fun e => ?_) (fun n9 => ?_)
    · subst e
      rw [hs.f 8 (by decide)]
      unfold wX12_server
      refine r_has_t hN hr ha (br_t (by decide) ?_)
      rintro _ rfl
      refine br_f (by decide) (br_f (by decide) (br_f (by decide) (br_f (by decide) (br_f (by decide) (br_f (by decide) (br_f (by decide) (br_f (by decide) (br_f (by decide) (br_t rfl ?_)))))))))
      simp (disch := omega) only [zlit_add, nI_clamp, vp_in_nI, true_and, Nat.zero_add]
      exact ⟨e8, h.inv⟩
    refine br_c (fun e => ?_) (fun n10 => ?_)
    · subst e
      rw [hs.f 9 (by decide)]
      unfold wX12_server
      refine r_has_t hN hr ha (br_t (by decide) ?_)
      rintro _ rfl
      refine br_f (by decide) (br_f (by decide) (br_f (by decide) (br_f (by decide) (br_f (by decide) (br_f (by decide) (br_f (by decide) (br_f (by decide) (br_f (by decide) (br_f (by decide) (br_t rfl ?_))))))))))
      simp (disch := omega) only [zlit_add, nI_clamp, vp_in_nI, true_and, Nat.zero_add]
      exact ⟨e9, h.inv⟩
    refine br_c (fun e => ?_) (fun n11 => ?_)
    · subst e
      refine c_load (by decide) hN hc ?_
      refine c_pays hs wq.kind ?_
      unfold wX12_server
      refine r_has_t hN hr ha (br_t (by decide) ?_)
      rintro _ rfl
      refine br_f (by decide) (br_f (by decide) (br_f (by decide) (br_f (by decide) (br_f (by decide) (br_f (by decide) (br_f (by decide) (br_f (by decide) (br_f (by decide) (br_f (by decide) (br_f (by decide) (br_t rfl ?_)))))))))))
      exact r_pays hN hj hr (fun s hs => (hw.2.2 s hs).1.sh) wq.kind ⟨rfl, h.inv⟩
    unfold wX12_server
    refine r_has_t hN hr ha (br_t (by decide) ?_)
    rintro _ rfl
    exact br_f n0 (br_f n1 (br_f n2 (br_f n3 (br_f n4 (br_f n5 (br_f n6 (br_f n7 (br_f n8 (br_f n9 (br_f n10 (br_f n11 ⟨rfl, h.inv⟩)))))))))))
  · refine br_f (fun x => x rfl) ?_
    unfold wX12_server
    exact r_has_f hN hr ha (br_f (fun x => x rfl) ⟨rfl, h.inv⟩)
theorem m_job {a1 a2 a3 : Int32} (h : zI S Q Z) : wX11_job a1 a2 a3 Z (fun r Z1 => wX12_job a1 a2 a3 Z1 (zD r)) := by
  obtain ⟨hw, hc, hr, -⟩ := id h
  have hN := hw.1
  unfold wX11_job
  refine c_has hN hc (fun ha => ?_) (fun ha => ?_)
  · obtain ⟨j, hj, rfl⟩ := id ha
    have hj6 : j < 6 := Nat.lt_of_lt_of_le hj hN
    have hs := hc.2.2 j hj
    have wq := hw.2.2 j hj
    obtain ⟨e0, e1, e2, e3, e5, e6, e7, e10, e8, e9, e13, e14, ej⟩ := id (hr.2.2 j hj)
    obtain ⟨c, hc4, ec⟩ := zin_nI (n := 4) wq.jobs (by decide)
    have g10 : Z (6 * 0 + (nI j).toNatClampNeg) 10 = nI c := by rw [nI_clamp (by omega), hs.f 10 (by decide), ec]
    have in6 : vp_in (nI j) 6 := vp_in_nI hj6 (by decide)
    have ref : ∀ r, wX12_within a2 0 (nI c - 1) Z (fun r6 Z5 => ((¬ r6 = 0 → ∀ y8 : Int32, y8 = a3 → ((y8 = 0 → vp_in (((4 * (nI j)) + a2)) 24 ∧ (zD r) ((Z5 99 (((4 * (nI j)) + a2) : Int32).toNatClampNeg)) Z5) ∧ (¬ y8 = 0 → ((y8 = 1 → vp_in (((4 * (nI j)) + a2)) 24 ∧ (zD r) ((Z5 100 (((4 * (nI j)) + a2) : Int32).toNatClampNeg)) Z5) ∧ (¬ y8 = 1 → ((y8 = 2 → ((¬ a2 = 0 → (zD r) 0 Z5) ∧ (¬ (¬ a2 = 0) → vp_in ((66 + (nI j))) 72 ∧ (zD r) ((Z5 98 ((66 + (nI j)) : Int32).toNatClampNeg)) Z5))) ∧ (¬ y8 = 2 → ((y8 = 3 → ((¬ a2 = 0 → (zD r) ((-4)) Z5) ∧ (¬ (¬ a2 = 0) → vp_in ((60 + (nI j))) 72 ∧ (zD r) ((Z5 98 ((60 + (nI j)) : Int32).toNatClampNeg)) Z5))) ∧ (¬ y8 = 3 → (zD r) ((-1)) Z5))))))))) ∧ (¬ (¬ r6 = 0) → (zD r) ((-1)) Z5))) → wX12_job (nI j) a2 a3 Z (zD r) := by
      intro r hh
      unfold wX12_job
      refine r_has_t hN hr ha (br_f (by decide) ?_)
      have x1 : vp_in (42 + nI j) 72 := by rw [zlit_add]; exact vp_in_nI (by omega) (by decide)
      have x2 : (42 + nI j : Int32).toNatClampNeg = 42 + j := by rw [zlit_add]; exact nI_clamp (by omega)
      refine ⟨x1, ?_⟩
      rw [x2, e10, ec]
      exact hh
    refine br_f (by decide) ⟨in6, ?_⟩
    rw [g10]
    refine c_win (fun hb => ?_) (fun hb => ?_)
    · refine br_t (by decide) ⟨in6, ?_⟩
      rintro _ rfl _ rfl
      obtain ⟨i, hi, rfl⟩ := (zW_of (n := c) (zN1 (by omega)) (by omega)).mp hb
      have x1 : vp_in (4 * nI j + nI i) 24 := by rw [zlit_mul, nI_add]; exact vp_in_nI (by omega) (by decide)
      have x2 : (4 * nI j + nI i : Int32).toNatClampNeg = 4 * j + i := by rw [zlit_mul, nI_add]; exact nI_clamp (by omega)
      have x3 : vp_in (66 + nI j) 72 := by rw [zlit_add]; exact vp_in_nI (by omega) (by decide)
      have x4 : (66 + nI j : Int32).toNatClampNeg = 66 + j := by rw [zlit_add]; exact nI_clamp (by omega)
      have x5 : vp_in (60 + nI j) 72 := by rw [zlit_add]; exact vp_in_nI (by omega) (by decide)
      have x6 : (60 + nI j : Int32).toNatClampNeg = 60 + j := by rw [zlit_add]; exact nI_clamp (by omega)
      have in4 : vp_in (nI i) 4 := vp_in_nI (by omega) (by decide)
      have hij : i < (S.2.2 j 10).toNatClampNeg := by rw [ec, nI_clamp (by omega)]; exact hi
      have sj := hs.j i hij
      have rj := ej i (by omega) hij
      have n10 : ¬ S.2.2 j 10 = 0 := by rw [ec]; exact nI_ne0 (by omega) (by omega)
      rw [nI_clamp (n := j) (by omega), nI_clamp (n := i) (by omega)]
      refine br_c (fun e => ⟨in4, ?_⟩) (fun n0 => br_c (fun e => ⟨in4, ?_⟩) (fun n1 => br_c (fun e => ?_) (fun n2 => br_c (fun e => ?_) (fun n3 => ?_))))
      · subst e
        refine ref _ (r_win_t hb (br_t (by decide) ?_))
        rintro _ rfl
        refine br_t rfl ⟨x1, ?_⟩
        rw [x2]
        exact ⟨rj.1.trans sj.1.symm, h.inv⟩
      · subst e
        refine ref _ (r_win_t hb (br_t (by decide) ?_))
        rintro _ rfl
        refine br_f (by decide) (br_t rfl ⟨x1, ?_⟩)
        rw [x2]
        exact ⟨rj.2.trans sj.2.symm, h.inv⟩
      · subst e
        refine br_c (fun i0 => ?_) (fun i0 => ?_)
        · refine ref _ (r_win_t hb (br_t (by decide) ?_))
          rintro _ rfl
          exact br_f (by decide) (br_f (by decide) (br_t rfl (br_t i0 ⟨rfl, h.inv⟩)))
        · rw [hs.h]
          refine br_c (fun d => ?_) (fun d => ?_) <;> refine ref _ (r_win_t hb (br_t (by decide) ?_)) <;> rintro _ rfl <;> refine br_f (by decide) (br_f (by decide) (br_t rfl (br_f i0 ⟨x3, ?_⟩))) <;> rw [x4, e13]
          · exact ⟨d, h.inv⟩
          · exact ⟨wq.hold.resolve_left d, h.inv⟩
      · subst e
        refine br_c (fun i0 => ?_) (fun i0 => ?_)
        · refine ref _ (r_win_t hb (br_t (by decide) ?_))
          rintro _ rfl
          exact br_f (by decide) (br_f (by decide) (br_f (by decide) (br_t rfl (br_t i0 ⟨rfl, h.inv⟩))))
        · rw [hs.2 n10]
          refine ref _ (r_win_t hb (br_t (by decide) ?_))
          rintro _ rfl
          refine br_f (by decide) (br_f (by decide) (br_f (by decide) (br_t rfl (br_f i0 ⟨x5, ?_⟩))))
          rw [x6]
          exact ⟨e14 n10, h.inv⟩
      · refine ref _ (r_win_t hb (br_t (by decide) ?_))
        rintro _ rfl
        exact br_f n0 (br_f n1 (br_f n2 (br_f n3 ⟨rfl, h.inv⟩)))
    · refine br_f (fun x => x rfl) (ref _ (r_win_f hb (br_f (fun x => x rfl) ⟨rfl, h.inv⟩)))
  · refine br_t rfl ?_
    unfold wX12_job
    exact r_has_f hN hr ha (br_t rfl ⟨rfl, h.inv⟩)
theorem m_drops {a1 : Int32} (h : zI S Q Z) : wX11_drops a1 Z (fun r Z1 => wX12_drops a1 Z1 (zD r)) := by
  obtain ⟨hw, hc, hr, -⟩ := id h
  have hN := hw.1
  unfold wX11_drops
  refine c_has hN hc (fun ha => ?_) (fun ha => ?_)
  · obtain ⟨j, hj, rfl⟩ := id ha
    have hj6 : j < 6 := Nat.lt_of_lt_of_le hj hN
    have hs := hc.2.2 j hj
    have in6 : vp_in (nI j) 6 := vp_in_nI hj6 (by decide)
    refine br_t (by decide) ⟨in6, ?_⟩
    rw [nI_clamp (by omega), hs.f 10 (by decide)]
    rintro _ rfl
    refine ⟨in6, c_drop hs (fun Z' r f => ?_)⟩
    have w' : wfP 9999 (pSet S j (qDrop (S.2.2 j))) := hw.set (hw.2.2 j hj).1.drop
    have hJ := h.c (cFr.s (p := 0) (by decide) hj6 f) (cRel.set (by decide) hN hj hc r f) w'
    have hr' := hJ.2.2.2.1
    unfold wX12_drops
    refine r_has_t hN hr' ha (br_f (by decide) ?_)
    exact r_off hj6 (hr'.2.2 j hj) (fun Z2 r2 f2 => ⟨rfl, (hJ.r (hFr.g (gFr.s f2)) (hr'.set hN hj r2 f2)).inv⟩)
  · refine br_f (fun x => x rfl) ?_
    unfold wX12_drops
    exact r_has_f hN hr ha (br_t rfl ⟨rfl, h.inv⟩)
theorem zW_in {a lo hi : Int32} {l u : Int} (h : zW a lo hi) (hl : lo.toInt = l) (hu : hi.toInt = u) : zin a l u := ⟨by rw [← hl]; exact zle.mp h.1, by rw [← hu]; exact zle.mp h.2⟩
theorem m_sends {a1 a2 a3 : Int32} (h : zI S Q Z) : wX11_sends a1 a2 a3 Z (fun r Z1 => wX12_sends a1 a2 a3 Z1 (zD r)) := by
  obtain ⟨hw, hc, hr, -⟩ := id h
  have hN := hw.1
  unfold wX11_sends wX3_sendingRefusal
  refine c_has hN hc (fun ha => ?_) (fun ha => ?_)
  · refine br_f (by decide) (c_win (fun hb => ?_) (fun hb => ?_))
    · refine br_f (by decide) (c_win (fun hd => ?_) (fun hd => ?_))
      · obtain ⟨j, hj, rfl⟩ := id ha
        have hj6 : j < 6 := Nat.lt_of_lt_of_le hj hN
        have hs := hc.2.2 j hj
        have wq := hw.2.2 j hj
        have e10 : Z 98 (42 + j) = S.2.2 j 10 := (hr.2.2 j hj).2.2.2.2.2.2.2.1
        obtain ⟨c, hc4, ec⟩ := zin_nI (n := 4) wq.jobs (by decide)
        have in6 : vp_in (nI j) 6 := vp_in_nI hj6 (by decide)
        have x1 : vp_in (42 + nI j) 72 := by rw [zlit_add]; exact vp_in_nI (by omega) (by decide)
        have x2 : (42 + nI j : Int32).toNatClampNeg = 42 + j := by rw [zlit_add]; exact nI_clamp (by omega)
        refine br_t (by decide) ⟨in6, ?_⟩
        rw [nI_clamp (by omega)]
        unfold wX5_isFull
        rw [hs.f 10 (by decide), ec]
        refine br_c (fun l4 => ?_) (fun l4 => ?_)
        · have hc4' : c < 4 := by
            rcases Nat.lt_or_ge c 4 with x | x
            · exact x
            · exact absurd l4 (nI_nlt (b := 4) x (by omega))
          refine br_t rfl (br_t rfl ⟨in6, ?_⟩)
          rw [hc.2.1]
          refine c_take hs ec hc4' wq.st wq.idle (fun Z' r f => ⟨in6, ?_⟩)
          have e' : Z' (6 * 0 + j) 10 = nI (c + 1) := by
            rw [r.f 10 (by decide)]
            have eJ := qJob_e (w := a2) (l := a3) ec (by omega)
            unfold qTake
            by_cases x : S.2.2 j 7 = 1 ∨ S.2.2 j 7 = 2
            · rw [if_pos x, eJ]; simp [upd_ap]
            · rw [if_neg x]
              by_cases y : S.2.2 j 7 = 0 ∨ S.2.2 j 5 ≤ 0 ∨ ¬ (S.2.2 j 5 * S.2.2 j 3 < 60 * S.2.2 j 2 * (S.2.2 j 6 - S.2.1))
              · rw [if_pos y, eJ]; simp [upd_ap]
              · rw [if_neg y, eJ]; simp [upd_ap]
          have t0 := hw.2.1.1
          have t1 := hw.2.1.2
          have w' : wfP 9999 (pSet S j (qTake S.2.1 a2 a3 (S.2.2 j))) := hw.set (wq.take t0 (by omega) ec hc4' (zW_in hb rfl rfl) (zW_in hd rfl rfl))
          have hJ := h.c (cFr.s (p := 0) (by decide) hj6 f) (cRel.set (by decide) hN hj hc r f) w'
          have hr' := hJ.2.2.2.1
          rw [e']
          unfold wX12_sends
          refine r_has_t hN hr' ha (br_f (by decide) (r_win_t hb (br_f (by decide) (r_win_t hd (br_t (by decide) ⟨x1, ?_⟩)))))
          have e10' : Z' 98 (42 + j) = S.2.2 j 10 := (hr'.2.2 j hj).2.2.2.2.2.2.2.1
          rw [x2, e10', ec]
          refine br_t (fun x => ?_) ?_
          · have := (nI_eq (a := c) (b := 4) (by omega) (by decide)).mp x
            omega
          refine r_take hj6 (hr'.2.2 j hj) hr'.2.1 wq.1 t0 (by omega) ec hc4' (fun Z2 r2 f2 => ⟨x1, ?_⟩)
          refine ⟨?_, (hJ.r (hFr.g (gFr.s f2)) (hr'.set hN hj r2 f2)).inv⟩
          have y : Z2 98 (42 + j) = qTake S.2.1 a2 a3 (S.2.2 j) 10 := r2.2.2.2.2.2.2.2.1
          rw [y, ← e', r.f 10 (by decide)]
        · have hc4' : c = 4 := by
            rcases Nat.lt_or_ge c 4 with x | x
            · exact absurd (nI_lt (b := 4) x (by decide)) l4
            · omega
          refine br_f (by decide) (br_f (by decide) ?_)
          unfold wX12_sends
          refine r_has_t hN hr ha (br_f (by decide) (r_win_t hb (br_f (by decide) (r_win_t hd (br_t (by decide) ⟨x1, ?_⟩)))))
          rw [x2, e10, ec, hc4']
          exact br_f (fun x => x rfl) ⟨rfl, h.inv⟩
      · refine br_f (fun x => x rfl) (br_f (by decide) ?_)
        unfold wX12_sends
        exact r_has_t hN hr ha (br_f (by decide) (r_win_t hb (br_f (by decide) (r_win_f hd (br_f (fun x => x rfl) ⟨rfl, h.inv⟩)))))
    · refine br_t rfl (br_f (by decide) ?_)
      unfold wX12_sends
      exact r_has_t hN hr ha (br_f (by decide) (r_win_f hb (br_t rfl ⟨rfl, h.inv⟩)))
  · refine br_t rfl (br_f (by decide) ?_)
    unfold wX12_sends
    exact r_has_f hN hr ha (br_t rfl ⟨rfl, h.inv⟩)
theorem wfP.T {T T' : Nat} (h : wfP T S) (hT : S.2.1.toInt ≤ T') : wfP T' S := ⟨h.1, ⟨h.2.1.1, hT⟩, h.2.2⟩
theorem pGoN_t {T : Nat} (n : Nat) (w : wfP T S) (hT : T + n ≤ 20000) : (pGoN n S).2.1.toInt = S.2.1.toInt + n := by
  induction n with
  | zero => show S.2.1.toInt = _; omega
  | succ n ih =>
    have i := ih (by omega)
    have t0 := w.2.1.1
    have t1 := w.2.1.2
    show (pGo 0 (pGoN n S)).2.1.toInt = _
    rw [(pGo_1 0).2, zadd (by rw [zi1]; omega) (by rw [zi1]; omega), zi1]
    omega
theorem m_ticks {a1 : Int32} (h : zI S Q Z) : wX11_ticks a1 Z (fun r Z1 => wX12_ticks a1 Z1 (zD r)) := by
  obtain ⟨hw, hc, hr, -⟩ := id h
  have hN := hw.1
  have t0 := hw.2.1.1
  have t1 := hw.2.1.2
  unfold wX11_ticks wX3_tickingRefusal
  refine c_win (fun hb => ?_) (fun hb => ?_)
  · obtain ⟨n, hn1, hn, rfl⟩ := zW_n 1 60 rfl rfl (by decide) hb
    refine br_t (by decide) ?_
    rw [hc.2.1]
    refine br_c (fun hT => ?_) (fun hT => ?_)
    · have hT2 : S.2.1.toInt + n ≤ 9999 := by
        have := zle.mp hT
        rw [zadd (by rw [nI_toInt (by omega)]; omega) (by rw [nI_toInt (by omega)]; omega), nI_toInt (by omega)] at this
        exact this
      refine br_t rfl (c_goOnFor (by decide) (by omega) hw hc (fun Z' r f _ => ?_))
      have hN' : (pGoN n S).1 ≤ 6 := by rw [pGoN_1]; exact hN
      refine c_lateOfAll hN' r ?_
      have w' : wfP 9999 (pGoN n S) := (hw.goN n (by omega)).T (by rw [pGoN_t n hw (by omega)]; exact hT2)
      have hJ := h.c f r w'
      have hr' := hJ.2.2.2.1
      unfold wX12_ticks
      refine r_win_t hb (br_t (by decide) ?_)
      rw [hr'.2.1]
      refine br_t hT ?_
      rintro _ rfl
      refine pk_loop (σ := zS) (fun m i Y => wX12_ticks_29 (nI n) (zD (pLate (pGoN n S))) m (nI i) Y) (fun i Y => rRel (pGoN i S) Y ∧ gFr Z' Y) n 0 Z' (Nat.zero_le _) ⟨hr', gFr.rf⟩ ?_ ?_
      · rintro m Y ⟨y, f⟩
        show wX12_ticks_29b _ (nI n) (nI n) Y _
        unfold wX12_ticks_29b
        exact br_t (Int32.le_refl _) (r_allLate hN' y ⟨rfl, (hJ.r (hFr.g f) y).inv⟩)
      · rintro m i Y hi ⟨y, f⟩ ih
        show wX12_ticks_29b (fun x2 Z => wX12_ticks_29 (nI n) (zD (pLate (pGoN n S))) m x2 Z) (nI n) (nI i) Y _
        unfold wX12_ticks_29b
        refine br_f (nI_ge hi (by omega)) ?_
        refine r_goes (T := 9999 + i) (by omega) (hw.goN i (by omega)) y (fun Z' y' f' c3 c4 => ?_)
        rintro _ rfl
        rw [nI_1]
        exact ih Z' ⟨y', f.tr f'⟩
    · refine br_f (by decide) ?_
      unfold wX12_ticks
      refine r_win_t hb (br_t (by decide) ?_)
      rw [hr.2.1]
      exact br_f hT ⟨rfl, h.inv⟩
  · refine br_f (fun x => x rfl) (br_f (by decide) ?_)
    unfold wX12_ticks
    exact r_win_f hb (br_f (fun x => x rfl) ⟨rfl, h.inv⟩)
end M1
