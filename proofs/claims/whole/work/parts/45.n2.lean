/-! FACE: like, copy -/
section N2
variable {S Q : zP} {Z Z' : zS} {K : Int32 → zS → Prop}
theorem cpy20 (f g : Nat → Int32) (i : Nat) (hi : i < 20) : va_cpy f g 0 0 20 i = f i := by
  unfold va_cpy
  rw [if_pos ⟨Nat.zero_le _, by omega⟩]
  congr 1
  omega
theorem m_like {a1 a2 : Int32} (h : zI S Q Z) : wX11_like a1 a2 Z (fun r Z1 => wX12_like a1 a2 Z1 (zD r)) := by
  unfold wX11_like
  refine c_tray (fun ha => br_f (by decide) (c_tray (fun hb => ?_) (fun hb => ?_))) (fun ha => ?_)
  · obtain ⟨t, ht, rfl⟩ := id ha
    obtain ⟨u, hu, rfl⟩ := id hb
    have in4 : vp_in (nI t) 4 := vp_in_nI ht (by decide)
    have in4' : vp_in (nI u) 4 := vp_in_nI hu (by decide)
    have ct : (nI t).toNatClampNeg = t := nI_clamp (by omega)
    have cu : (nI u).toNatClampNeg = u := nI_clamp (by omega)
    refine br_t (by decide) ⟨in4', ?_⟩
    rw [ct, cu]
    rcases (h.2.2.2.2.2 u hu).cs with ⟨t0, t8⟩ | ⟨t0, t8, tk, t1, ⟨g, hg, t9, t2⟩, ti⟩
    · refine br_f (fun x => x t0) ?_
      unfold wX12_like
      refine r_tray_t ha (br_f (by decide) (r_tray_t hb (br_t (by decide) ⟨in4', ?_⟩)))
      rw [cu]
      exact br_f (fun x => x t8) ⟨rfl, h.inv⟩
    · have t0' : Z (76 + u) 0 = 1 := by
        rcases h.2.2.2.2.2 u hu with z | z
        · exact absurd z.1 t0
        · exact z.1
      refine br_t t0 ⟨in4, in4', ?_⟩
      unfold wX10_becomeLike
      refine ⟨Or.inr t0', ?_⟩
      intro Z1 e1 Z2 e2 Z3 e3
      refine ⟨⟨by decide, by decide, by decide, by decide, by decide⟩, ?_⟩
      intro Z4 e4
      have c20 : (20 : Int32).toNatClampNeg = 20 := rfl
      have c0 : (0 : Int32).toNatClampNeg = 0 := rfl
      rw [c20, c0] at e4
      have o1 : ∀ c, ¬ c = 76 + t → ¬ c = 80 + t → Z4 c = Z c := by
        intro c h1 h2
        rw [e4, e3, e2, e1]
        unfold zU va_up
        simp [h1, h2]
      have p0 : Z4 (76 + t) 0 = Z (76 + u) 0 := by
        rw [e4]; unfold va_up; rw [if_neg (by omega), e3, zU_k (by omega), e2, zU_k (by omega), e1, zU_s]
      have q1 : Z1 (76 + u) 1 = Z (76 + u) 1 := by rw [e1, zU_k (by omega)]
      have q2 : Z2 (76 + u) 2 = Z (76 + u) 2 := by rw [e2, zU_k (by omega), e1, zU_k (by omega)]
      have p1 : Z4 (76 + t) 1 = Z (76 + u) 1 := by
        rw [e4]; unfold va_up; rw [if_neg (by omega), e3, zU_k (by omega), e2, zU_s, q1]
      have p2 : Z4 (76 + t) 2 = Z (76 + u) 2 := by
        rw [e4]; unfold va_up; rw [if_neg (by omega), e3, zU_s, q2]
      have p3 : ∀ i, i < 20 → Z4 (80 + t) i = Z (80 + u) i := by
        intro i hi
        rw [e4]; unfold va_up; rw [if_pos rfl, cpy20 _ _ i hi, e3, zU_i (by omega), e2, zU_i (by omega), e1, zU_i (by omega)]
      refine ⟨in4, ?_⟩
      rw [p2, t2]
      show wX12_like (nI t) (nI u) Z4 (zD (nI g))
      unfold wX12_like
      refine r_tray_t ha (br_f (by decide) (r_tray_t hb (br_t (by decide) ⟨in4', ?_⟩)))
      rw [ct, cu, o1 108 (by omega) (by omega)]
      refine br_t t8 ⟨in4', in4, ?_⟩
      intro Z5 e5
      refine ⟨in4', in4, ?_⟩
      intro Z6 e6 _ ey
      subst ey
      have r109 : Z5 109 u = nI g := by rw [e5, zU_i (by omega), o1 109 (by omega) (by omega)]; exact t9
      rw [r109] at e6
      refine pk_loop (σ := zS) (fun m i Y => wX12_like_56 (nI t) (nI u) (zD (nI g)) m (nI i) Y) (fun i Y => (∀ c, ¬ c = 110 → Y c = Z6 c) ∧ (∀ j, j < i → Y 110 (20 * t + j) = Z6 110 (20 * u + j)) ∧ ∀ j, ¬ (20 * t ≤ j ∧ j < 20 * t + i) → Y 110 j = Z6 110 j) 20 0 Z6 (Nat.zero_le _) ⟨fun _ _ => rfl, fun j hj => absurd hj (Nat.not_lt_zero _), fun _ _ => rfl⟩ ?_ ?_
      · rintro m Y ⟨y1, y2, y3⟩
        show wX12_like_56b _ (nI t) (nI u) 20 Y _
        unfold wX12_like_56b
        refine br_t (Int32.le_refl _) ⟨in4, ?_⟩
        have z110 : ∀ j, Z6 110 j = Z 110 j := by
          intro j
          rw [e6, zU_i (by omega), e5, zU_i (by omega), o1 110 (by omega) (by omega)]
        have z109 : Z6 109 t = nI g := by rw [e6, zU_s]
        have z108 : Z6 108 t = Z 108 u := by rw [e6, zU_i (by omega), e5, zU_s]
        rw [ct, y1 109 (by omega), z109]
        have oo : ∀ c, c < 108 → Z6 c = Z4 c := by
          intro c hc
          rw [e6, zU_r (by omega), e5, zU_r (by omega)]
        refine ⟨rfl, S, Q, h.tr (a := t) (fun i h1 h2 h3 => ?_) (fun j hj => ?_) (fun j hj => ?_) (fun e j h1 h2 h3 => ?_) (Or.inr ⟨?_, ?_, ?_, ?_, ?_, fun j hj => ?_⟩) ht⟩
        · rw [y1 i (by omega), e6, zU_r (by omega), e5, zU_r (by omega), o1 i h1 h2]
        · rw [y1 108 (by omega), e6, zU_i (by omega), e5, zU_k hj, o1 108 (by omega) (by omega)]
        · rw [y1 109 (by omega), e6, zU_k hj, e5, zU_i (by omega), o1 109 (by omega) (by omega)]
        · rw [y3 _ (by omega), z110]
        · rw [y1 _ (by omega), oo _ (by omega), p0]; exact t0'
        · rw [y1 108 (by omega), z108]; exact tk
        · rw [y1 108 (by omega), z108, y1 _ (by omega), oo _ (by omega), p1]; exact t1
        · rw [y1 109 (by omega), z109]; exact zin_of (n := 20) hg (by decide)
        · rw [y1 109 (by omega), z109, y1 _ (by omega), oo _ (by omega), p2, t2]
        · rw [y1 _ (by omega), oo _ (by omega), p3 j hj, y2 j hj, z110]; exact ti j hj
      · rintro m i Y hi ⟨y1, y2, y3⟩ ih
        show wX12_like_56b (fun x3 Z => wX12_like_56 (nI t) (nI u) (zD (nI g)) m x3 Z) (nI t) (nI u) (nI i) Y _
        unfold wX12_like_56b
        refine br_f (nI_ge (b := 20) hi (by decide)) ?_
        simp (disch := omega) only [zlit_mul, nI_add, nI_clamp, vp_in_nI, true_and]
        rintro _ rfl _ rfl
        rw [nI_1]
        have old : Y 110 (20 * u + i) = Z6 110 (20 * u + i) := by
          by_cases e : u = t
          · subst e; exact y3 _ (by omega)
          · exact y3 _ (by omega)
        rw [old]
        refine ih _ ⟨fun c hc => (zU_r hc).trans (y1 c hc), fun j hj => ?_, fun j hj => ?_⟩
        · by_cases e : j = i
          · rw [e, zU_s]
          · rw [zU_k (by omega)]; exact y2 j (by omega)
        · rw [zU_k (by omega)]; exact y3 j (by omega)
  · refine br_f (fun x => x rfl) ?_
    unfold wX12_like
    exact r_tray_t ha (br_f (by decide) (r_tray_f hb (br_f (fun x => x rfl) ⟨rfl, h.inv⟩)))
  · refine br_t rfl ?_
    unfold wX12_like
    exact r_tray_f ha (br_t rfl ⟨rfl, h.inv⟩)
end N2
