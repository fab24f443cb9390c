/-! FACE: quotient; bits, wide -/
section O6
variable {S Q P : zP} {Z Z0 Z' : zS} {K : Int64 → zS → Prop} {T : Nat}
def eFr (Z Z' : zS) : Prop := (∀ i, ¬ i = 97 → Z' i = Z i) ∧ ∀ k, ¬ k = 8 → Z' 97 k = Z 97 k
theorem eFr.u {x : Int32} (f : eFr Z Z') : eFr Z (zU Z' 97 8 x) := ⟨fun i hi => (zU_r hi).trans (f.1 i hi), fun k hk => (zU_k hk).trans (f.2 k hk)⟩
theorem zI.e (h : zI S Q Z) (f : eFr Z Z') : zI S Q Z' := by
  refine h.h ⟨fun i hi => f.1 i (by omega), f.2 11 (by decide)⟩ ?_
  exact h.2.2.1.mv (f.2 0 (by decide)) (f.2 1 (by decide)) (f.1 98 (by decide)) (f.1 99 (by decide)) (f.1 100 (by decide))
theorem r_quot {a b e f n : Nat} (hn : n ≤ 52) (he : e ≤ 11) (hf : f ≤ 6) (hE : a < 2 * (b * 2 ^ e) ∧ ∀ i, i < e → ¬ a < 2 * (b * 2 ^ i)) (hF : ¬ a * 2 ^ f < b * 2 ^ e ∧ ∀ i, i < f → a * 2 ^ i < b * 2 ^ e) (hB : b * 2 ^ e < 2 ^ 20) (hA : ∀ i, i ≤ f → a * 2 ^ i < 2 ^ 20) (hk : ∀ Z', eFr Z Z' → Z' 97 8 = nI e - nI f → K (vRs (lI (a * 2 ^ f)) (lI (b * 2 ^ e)) n) Z') : wX12_quotient (lI a) (lI b) (nI n) Z K := by
  have ha : a < 2 ^ 20 := by have := hA 0 (Nat.zero_le _); omega
  have bi : ∀ i, i ≤ e → b * 2 ^ i < 2 ^ 20 := fun i hi => by
    have p : 2 ^ i ≤ 2 ^ e := Nat.pow_le_pow_right (by decide) hi
    have := Nat.mul_le_mul_left b p
    omega
  have k79 : ∀ Y, eFr Z Y → Y 97 8 = nI e - nI f → ∀ y6 : Int64, y6 = 0 → ∀ y7 : Int32, y7 = 0 → ∃ n79 : Nat, wX12_quotient_79 (lI a) (lI b) (nI n) K n79 (lI (a * 2 ^ f)) (lI (b * 2 ^ e)) y6 y7 Y := by
    intro Y fY eY
    have hK := hk Y fY eY
    rintro _ rfl _ rfl
    refine pk_loop (σ := Int64 × Int64) (fun m i s => wX12_quotient_79 (lI a) (lI b) (nI n) K m s.1 (lI (b * 2 ^ e)) s.2 (nI i) Y) (fun i s => s = vQ (lI (a * 2 ^ f)) (lI (b * 2 ^ e)) i) (n + 1) 0 (lI (a * 2 ^ f), 0) (Nat.zero_le _) rfl ?_ ?_
    · rintro m ⟨u, v⟩ es
      have eu : u = (vQ (lI (a * 2 ^ f)) (lI (b * 2 ^ e)) (n + 1)).1 := congrArg Prod.fst es
      have ev : v = (vQ (lI (a * 2 ^ f)) (lI (b * 2 ^ e)) (n + 1)).2 := congrArg Prod.snd es
      have eR : vRs (lI (a * 2 ^ f)) (lI (b * 2 ^ e)) n = vRd u v (lI (b * 2 ^ e)) := by rw [eu, ev]; rfl
      rw [eR] at hK
      show wX12_quotient_79b _ (lI a) (lI b) (nI n) u (lI (b * 2 ^ e)) v (nI (n + 1)) Y K
      unfold wX12_quotient_79b wX12_quotient_156
      unfold vRd at hK
      refine br_t (nI_lt (by omega) (by omega)) (br_c (fun c => ?_) (fun c => br_c (fun d => ?_) (fun d => ⟨by decide, br_c (fun g => ?_) (fun g => ?_)⟩)))
      · rintro _ rfl
        rw [if_pos c] at hK; exact hK
      · rw [if_neg c, if_neg d] at hK; exact hK
      · rw [if_neg c, if_pos (Classical.not_not.mp d), if_neg g] at hK; exact hK
      · rintro _ rfl
        rw [if_neg c, if_pos (Classical.not_not.mp d), if_pos (Classical.not_not.mp g)] at hK; exact hK
    · rintro m i ⟨u, v⟩ hi es ih
      show wX12_quotient_79b (fun x6 x8 x10 x12 Z => wX12_quotient_79 (lI a) (lI b) (nI n) K m x6 x8 x10 x12 Z) (lI a) (lI b) (nI n) u (lI (b * 2 ^ e)) v (nI i) Y K
      have eN : vQ (lI (a * 2 ^ f)) (lI (b * 2 ^ e)) (i + 1) = vQs (lI (b * 2 ^ e)) (u, v) := by
        have es : (u, v) = vQ (lI (a * 2 ^ f)) (lI (b * 2 ^ e)) i := es
        rw [es]; rfl
      have ih : ∀ s', s' = vQs (lI (b * 2 ^ e)) (u, v) → wX12_quotient_79 (lI a) (lI b) (nI n) K m s'.1 (lI (b * 2 ^ e)) s'.2 (nI (i + 1)) Y := fun s' e' => ih s' (e'.trans eN.symm)
      unfold vQs at ih
      unfold wX12_quotient_79b wX12_quotient_115
      refine br_f (nI_nlt (by omega) (by omega)) ?_
      rintro _ rfl
      refine br_c (fun c => ?_) (fun c => ?_)
      · rintro _ rfl _ rfl
        rw [nI_1]
        exact ih (u * 2, v * 2) (if_pos c).symm
      · rintro _ rfl _ rfl _ rfl _ rfl
        rw [nI_1]
        exact ih ((u - lI (b * 2 ^ e)) * 2, v * 2 + 1) (if_neg c).symm
  have k44 : ∀ Y, eFr Z Y → Y 97 8 = nI e → ∃ n44 : Nat, wX12_quotient_44 (lI a) (lI b) (nI n) K n44 (lI a) (lI (b * 2 ^ e)) Y := by
    intro Y fY eY
    have z : ∃ m, wX12_quotient_44 (lI a) (lI b) (nI n) K m (lI (a * 2 ^ 0)) (lI (b * 2 ^ e)) Y := by
      refine pk_loop (σ := zS) (fun m i W => wX12_quotient_44 (lI a) (lI b) (nI n) K m (lI (a * 2 ^ i)) (lI (b * 2 ^ e)) W) (fun i W => eFr Z W ∧ W 97 8 = nI e - nI i) f 0 Y (Nat.zero_le _) ⟨fY, by rw [eY, show nI 0 = 0 from rfl, Int32.sub_zero]⟩ ?_ ?_
      · rintro m W ⟨w1, w2⟩
        show wX12_quotient_44b _ (lI a) (lI b) (nI n) (lI (a * 2 ^ f)) (lI (b * 2 ^ e)) W K
        unfold wX12_quotient_44b
        exact br_t ((lI_ge (by have := hA f (Nat.le_refl _); omega) (by omega)).mpr hF.1) (k79 W w1 w2)
      · rintro m i W hi ⟨w1, w2⟩ ih
        show wX12_quotient_44b (fun x6 x8 Z => wX12_quotient_44 (lI a) (lI b) (nI n) K m x6 x8 Z) (lI a) (lI b) (nI n) (lI (a * 2 ^ i)) (lI (b * 2 ^ e)) W K
        unfold wX12_quotient_44b
        have hAi := hA i (by omega)
        refine br_f (fun z => (lI_ge (by omega) (by omega)).mp z (hF.2 i hi)) ?_
        rintro _ rfl _ rfl
        rw [lI_2 (by omega), Nat.mul_assoc, ← Nat.pow_succ]
        exact ih _ ⟨w1.u, by rw [zU_s, w2, z_dn']⟩
    rw [Nat.pow_zero, Nat.mul_one] at z
    exact z
  unfold wX12_quotient
  intro Z1 e1
  have z : ∃ m, wX12_quotient_11 (lI a) (lI b) (nI n) K m (lI a) (lI (b * 2 ^ 0)) Z1 := by
    refine pk_loop (σ := zS) (fun m i W => wX12_quotient_11 (lI a) (lI b) (nI n) K m (lI a) (lI (b * 2 ^ i)) W) (fun i W => eFr Z W ∧ W 97 8 = nI i) e 0 Z1 (Nat.zero_le _) ⟨by rw [e1]; exact eFr.u ⟨fun _ _ => rfl, fun _ _ => rfl⟩, by rw [e1, zU_s]; rfl⟩ ?_ ?_
    · rintro m W ⟨w1, w2⟩
      show wX12_quotient_11b _ (lI a) (lI b) (nI n) (lI a) (lI (b * 2 ^ e)) W K
      unfold wX12_quotient_11b
      rw [lI_2' (by omega)]
      exact br_t ((lI_lt (by omega) (by omega)).mpr hE.1) (k44 W w1 w2)
    · rintro m i W hi ⟨w1, w2⟩ ih
      show wX12_quotient_11b (fun x6 x8 Z => wX12_quotient_11 (lI a) (lI b) (nI n) K m x6 x8 Z) (lI a) (lI b) (nI n) (lI a) (lI (b * 2 ^ i)) W K
      unfold wX12_quotient_11b
      have hBi := bi i (by omega)
      rw [lI_2' (by omega)]
      refine br_f (fun z => hE.2 i hi ((lI_lt (by omega) (by omega)).mp z)) ?_
      rintro _ rfl _ rfl
      rw [lI_2 (by omega), Nat.mul_assoc, ← Nat.pow_succ]
      exact ih _ ⟨w1.u, by rw [zU_s, w2, nI_1]⟩
  rw [Nat.pow_zero, Nat.mul_one] at z
  exact z
theorem e_bits : ∀ e, e < 12 → ∀ f, f < 7 → Int32.toInt64 (127 + nI e - nI f - 1) = 126 + Int32.toInt64 (nI e - nI f) := by decide +kernel
theorem e_wide : ∀ e, e < 12 → ∀ f, f < 7 → Int32.toInt64 (1023 + nI e - nI f - 1) = 1022 + Int32.toInt64 (nI e - nI f) := by decide +kernel
theorem m_bits {a1 : Int32} (h : zI S Q Z) : wX11_bits a1 Z (fun r Z1 => wX12_bits a1 Z1 (zD r)) := by
  obtain ⟨hw, hc, hr, -⟩ := id h
  have hN := hw.1
  unfold wX11_bits
  refine c_has hN hc (fun ha => ?_) (fun ha => ?_)
  · obtain ⟨j, hj, rfl⟩ := id ha
    have hj6 : j < 6 := Nat.lt_of_lt_of_le hj hN
    have in6 : vp_in (nI j) 6 := vp_in_nI hj6 (by decide)
    have hs := hc.2.2 j hj
    have wq := hw.2.2 j hj
    obtain ⟨b, hb, eb⟩ := zin_nI (n := 30) (x := S.2.2 j 2) ⟨by have := wq.bud.1; omega, wq.bud.2⟩ (by decide)
    have b1 : 1 ≤ b := by
      have := wq.bud.1
      rw [eb, nI_toInt (by omega)] at this; omega
    have w1 := wq.per.1
    have w2 := wq.per.2
    obtain ⟨p, hp, ep⟩ := zin_nI (n := 60) (x := S.2.2 j 3) ⟨by have := wq.bud.1; omega, wq.per.2⟩ (by decide)
    have p1 : 1 ≤ p := by
      have := wq.bud.1
      rw [ep, nI_toInt (by omega)] at w1; omega
    obtain ⟨e, f, he, hf, hE, hF, hB, hA⟩ := exps (a := b) (b := p) b1 (by omega) p1 hp
    refine br_t (by decide) ⟨in6, in6, ?_⟩
    rw [nI_clamp (by omega), hs.f 2 (by decide), hs.f 3 (by decide), eb, ep, lI_nI (by omega), lI_nI (by omega)]
    refine c_near (n := 23) (x := 127) (by decide) he hf hE hF hB hA ?_
    unfold wX12_bits
    have e2 : Z 98 (12 + j) = nI b := (hr.2.2 j hj).2.2.1.trans eb
    have e3 : Z 98 (18 + j) = nI p := (hr.2.2 j hj).2.2.2.1.trans ep
    refine r_has_t hN hr ha (br_t (by decide) ?_)
    simp (disch := omega) only [zlit_add, nI_clamp, vp_in_nI, true_and]
    rw [e2, e3, lI_nI (by omega), lI_nI (by omega)]
    refine r_quot (n := 23) (by decide) he hf hE hF hB hA (fun Z' f' e8 => ⟨?_, (h.e f').inv⟩)
    have k := e_bits e (by omega) f (by omega)
    rw [zlit_add] at k
    rw [e8, k, Int64.add_comm]
    rfl
  · refine br_f (fun x => x rfl) ?_
    unfold wX12_bits
    exact r_has_f hN hr ha (br_f (fun x => x rfl) ⟨rfl, h.inv⟩)
theorem m_wide {a1 : Int32} (h : zI S Q Z) : wX11_wide a1 Z (fun r Z1 => wX12_wide a1 Z1 (zDL r)) := by
  obtain ⟨hw, hc, hr, -⟩ := id h
  have hN := hw.1
  unfold wX11_wide
  refine c_has hN hc (fun ha => ?_) (fun ha => ?_)
  · obtain ⟨j, hj, rfl⟩ := id ha
    have hj6 : j < 6 := Nat.lt_of_lt_of_le hj hN
    have in6 : vp_in (nI j) 6 := vp_in_nI hj6 (by decide)
    have hs := hc.2.2 j hj
    have wq := hw.2.2 j hj
    have l := wq.left
    have e5 : Z 98 (24 + j) = S.2.2 j 5 := (hr.2.2 j hj).2.2.2.2.1
    refine br_t (by decide) ⟨in6, ?_⟩
    rw [nI_clamp (by omega), hs.f 5 (by decide)]
    generalize S.2.2 j 5 = x at l e5
    have ref : ∀ r, (¬ x = 0 → (0 ≤ x → wX12_wide_41 (nI j) x (Int32.toInt64 x) Z (zDL r)) ∧ (¬ 0 ≤ x → wX12_wide_41 (nI j) x (Int32.toInt64 (-x)) Z (zDL r))) → (x = 0 → r = 0) → wX12_wide (nI j) Z (zDL r) := by
      intro r q1 q2
      unfold wX12_wide
      refine r_has_t hN hr ha (br_t (by decide) ?_)
      simp (disch := omega) only [zlit_add, nI_clamp, vp_in_nI, true_and]
      rw [e5]
      rintro _ rfl
      exact br_c q1 (fun c => ⟨(q2 (Classical.not_not.mp c)).symm, h.inv⟩)
    intro v ev
    have ev := ev.symm
    subst ev
    refine br_c (fun c => ?_) (fun c => ref _ (fun y => absurd (Classical.not_not.mp c) y) (fun _ => rfl))
    have xi : ¬ x.toInt = 0 := fun z => c (Int32.toInt_inj.mp (by rw [z]; rfl))
    have tn : (-x).toInt = -x.toInt := by
      have := zsub (a := 0) (b := x) (by rw [zi0]; have := l.1; have := l.2; omega) (by rw [zi0]; have := l.1; have := l.2; omega)
      rw [Int32.zero_sub, zi0] at this
      omega
    have go : ∀ y : Int32, 1 ≤ y.toInt → y.toInt ≤ 1800 → ∀ s0 : Int64, (∀ v : Int64, (0 ≤ x → v = s0 ||| v) ∧ (¬ 0 ≤ x → v ||| (-9223372036854775808) = s0 ||| v)) → (∀ r, wX12_wide_41 (nI j) x (Int32.toInt64 y) Z (zDL r) → wX12_wide (nI j) Z (zDL r)) → (if 0 ≤ x then x else 0 - x) = y → wX11_wide_45 (nI j) x s0 Z (fun r Z1 => wX12_wide (nI j) Z1 (zDL r)) := by
      intro y y1 y2 s0 hs0 hr' ey
      unfold wX11_wide_45
      rw [ey]
      obtain ⟨a, ha1, ea⟩ := zin_nI (n := 1800) (x := y) ⟨by omega, y2⟩ (by decide)
      have a1 : 1 ≤ a := by rw [ea, nI_toInt (by omega)] at y1; omega
      obtain ⟨e, f, he, hf, hE, hF, hB, hA⟩ := exps (a := a) (b := 60) a1 ha1 (by decide) (by decide)
      rw [ea, lI_nI (by omega)] at hr' ⊢
      refine c_near (n := 52) (x := 1023) (b := 60) (by decide) he hf hE hF hB hA ?_
      refine hr' _ ?_
      unfold wX12_wide_41
      refine r_quot (n := 52) (b := 60) (by decide) he hf hE hF hB hA (fun Z' f' e8 => ?_)
      rintro _ rfl
      rw [e8, e_wide e (by omega) f (by omega), Int64.add_comm (vRs _ _ _)]
      exact br_c (fun p => ⟨(hs0 _).1 p, (h.e f').inv⟩) (fun p => ⟨(hs0 _).2 p, (h.e f').inv⟩)
    refine br_c (fun p => ?_) (fun p => ?_)
    · have p' := zle.mp p
      rw [zi0] at p'
      refine go x (by omega) l.2 0 (fun v => ⟨fun _ => by rw [Int64.zero_or], fun q => absurd p q⟩) (fun r q => ref r (fun _ => ⟨fun _ => q, fun z => absurd p z⟩) (fun z => absurd z c)) (if_pos p)
    · have p' : ¬ (0 : Int32).toInt ≤ x.toInt := fun z => p (zle.mpr z)
      rw [zi0] at p'
      have l1 := l.1
      refine go (-x) (by rw [tn]; omega) (by rw [tn]; omega) (-9223372036854775808) (fun v => ⟨fun q => absurd q p, fun _ => by rw [Int64.or_comm]⟩) (fun r q => ref r (fun _ => ⟨fun z => absurd z p, fun _ => q⟩) (fun z => absurd z c)) (by rw [if_neg p, Int32.zero_sub])
  · refine br_f (fun x => x rfl) ?_
    unfold wX12_wide
    exact r_has_f hN hr ha (br_f (fun x => x rfl) ⟨rfl, h.inv⟩)
end O6
