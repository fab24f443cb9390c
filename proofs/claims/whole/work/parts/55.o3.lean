/-! FACE: share -/
section O3
variable {S Q P : zP} {Z Z0 Z' : zS} {T : Nat}
abbrev zDL (r : Int64) : Int64 → zS → Prop := fun r2 Z2 => r2 = r ∧ zInv Z2
theorem pLoad_nat (w : wfP T S) : ∃ L, L ≤ 360 ∧ pLoad S = nI L ∧ ∀ j, j < S.1 → ¬ S.2.2 j 7 = 0 → 1 ≤ L := by
  have key : ∀ n, n ≤ S.1 → ∃ L, L ≤ 60 * n ∧ zsum (fun s => if S.2.2 s 7 = 0 then 0 else S.2.2 s 4) n = nI L ∧ ∀ j, j < n → ¬ S.2.2 j 7 = 0 → 1 ≤ L := by
    intro n
    induction n with
    | zero => intro _; exact ⟨0, by omega, rfl, fun j hj => absurd hj (Nat.not_lt_zero _)⟩
    | succ n ih =>
      intro hn
      obtain ⟨L, h1, h2, h3⟩ := ih (by omega)
      have hN := w.1
      have wq := (w.2.2 n (by omega)).part.2
      obtain ⟨p, hp, ep⟩ := zin_nI (n := 60) (x := S.2.2 n 4) ⟨by have := wq.1; omega, wq.2⟩ (by decide)
      have p1 : 1 ≤ p := by
        have := wq.1
        rw [ep, nI_toInt (by omega)] at this
        omega
      by_cases c : S.2.2 n 7 = 0
      · refine ⟨L, by omega, ?_, fun j hj hne => ?_⟩
        · show zsum _ n + (if S.2.2 n 7 = 0 then 0 else S.2.2 n 4) = _
          rw [if_pos c, h2, Int32.add_zero]
        · by_cases e : j = n
          · rw [e] at hne; exact absurd c hne
          · exact h3 j (by omega) hne
      · refine ⟨L + p, by omega, ?_, fun j hj hne => by omega⟩
        show zsum _ n + (if S.2.2 n 7 = 0 then 0 else S.2.2 n 4) = _
        rw [if_neg c, h2, ep, nI_add]
  obtain ⟨L, h1, h2, h3⟩ := key S.1 (Nat.le_refl _)
  have hN := w.1
  exact ⟨L, by omega, h2, h3⟩
theorem m_share {a1 a2 : Int32} (h : zI S Q Z) : wX11_share a1 a2 Z (fun r Z1 => wX12_share_ a1 a2 Z1 (zDL r)) := by
  obtain ⟨hw, hc, hr, -⟩ := id h
  have hN := hw.1
  unfold wX11_share
  refine c_has hN hc (fun ha => br_f (by decide) ?_) (fun ha => ?_)
  · refine c_win (fun hd => br_t (by decide) ?_) (fun hd => br_f (fun x => x rfl) ?_)
    · obtain ⟨j, hj, rfl⟩ := id ha
      have hj6 : j < 6 := Nat.lt_of_lt_of_le hj hN
      have in6 : vp_in (nI j) 6 := vp_in_nI hj6 (by decide)
      obtain ⟨L, hL, eL, hL1⟩ := pLoad_nat hw
      have wq := (hw.2.2 j hj).part.2
      obtain ⟨p, hp, ep⟩ := zin_nI (n := 60) (x := S.2.2 j 4) ⟨by have := wq.1; omega, wq.2⟩ (by decide)
      have hs := hc.2.2 j hj
      have e7 : Z 98 (36 + j) = S.2.2 j 7 := (hr.2.2 j hj).2.2.2.2.2.2.1
      refine ⟨in6, ?_⟩
      rw [nI_clamp (by omega)]
      intro v e
      have e := e.symm
      subst e
      refine c_load (by decide) hN hc ?_
      rw [hs.f 7 (by decide), hs.f 4 (by decide), eL]
      have ref : ∀ r : Int64, (¬ L = 0 → r = vPart (if S.2.2 j 7 = 0 then 0 else p) L a2) → (L = 0 → r = Int32.toInt64 a2) → wX12_share_ (nI j) a2 Z (zDL r) := by
        intro r q1 q2
        unfold wX12_share_
        refine r_has_t hN hr ha (br_f (by decide) (r_win_t hd (br_t (by decide) (r_load hN hr (fun s hs => (hw.2.2 s hs).1.sh) ?_))))
        rw [eL]
        refine br_c (fun c => ?_) (fun c => ?_)
        · have l0 : ¬ L = 0 := fun z => c (by rw [z]; rfl)
          simp (disch := omega) only [zlit_add, nI_clamp, vp_in_nI, true_and]
          rw [e7]
          refine br_c (fun c7 => ?_) (fun c7 => ?_)
          · refine r_share' hj6 (hr.2.2 j hj) (hw.2.2 j hj).1.sh ?_
            unfold wX12_share__57
            rw [ep, lI_nI (by omega), lI_nI (by omega)]
            refine r_part (by omega) (by omega) (by omega) ⟨?_, h.inv⟩
            rw [q1 l0, if_neg c7]
          · have c7 := Classical.not_not.mp c7
            unfold wX12_share__57
            rw [lI_nI (by omega)]
            refine r_part (a := 0) (by omega) (by omega) (by omega) ⟨?_, h.inv⟩
            rw [q1 l0, if_pos c7]
        · have l0 : L = 0 := (nI_eq (a := L) (b := 0) (by omega) (by decide)).mp (Classical.not_not.mp c)
          exact ⟨(q2 l0).symm, h.inv⟩
      have k58 : ∀ s : Nat, s ≤ 60 → s = (if S.2.2 j 7 = 0 then 0 else p) → wX11_share_58 (nI j) a2 (nI L) (nI s) Z (fun r Z1 => wX12_share_ (nI j) a2 Z1 (zDL r)) := by
        intro s hs es
        unfold wX11_share_58 wX11_share_75
        refine br_c (fun c => ?_) (fun c => ?_)
        · have l0 : ¬ L = 0 := fun z => c (by rw [z]; rfl)
          rw [lI_nI (by omega), lI_nI (by omega)]
          refine c_least (by omega) (by omega) (by omega) (ref _ (fun _ => by rw [es]) (fun x => absurd x l0))
        · have l0 : L = 0 := (nI_eq (a := L) (b := 0) (by omega) (by decide)).mp (Classical.not_not.mp c)
          have s7 : S.2.2 j 7 = 0 := Classical.byContradiction (fun x => by have := hL1 j hj x; omega)
          rw [lI_nI (by omega)]
          have s0 : s = 0 := by rw [es, if_pos s7]
          subst s0
          refine c_least (b := 1) (by omega) (by omega) (by omega) (ref _ (fun x => absurd l0 x) (fun _ => ?_))
          obtain ⟨n, -, hn, rfl⟩ := zW_n 0 1 rfl rfl (by decide) hd
          rcases (show n = 0 ∨ n = 1 by omega) with z | z <;> subst z <;> rfl
      refine br_c (fun c => ?_) (fun c => k58 0 (by decide) (if_pos (Classical.not_not.mp c)).symm)
      rw [ep]
      exact k58 p hp (if_neg c).symm
    · unfold wX12_share_
      exact r_has_t hN hr ha (br_f (by decide) (r_win_f hd (br_f (fun x => x rfl) ⟨rfl, h.inv⟩)))
  · refine br_t rfl ?_
    unfold wX12_share_
    exact r_has_f hN hr ha (br_t rfl ⟨rfl, h.inv⟩)
end O3
