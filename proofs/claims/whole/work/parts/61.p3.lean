/-! FACE: text: what a statement does, by the reference -/
section P3
variable {S Q P : zP} {Z Z0 Z' : zS} {K : Int32 → zS → Prop} {M : zS → Prop} {T : Nat} {E : Nat → Int32} {g : Nat} {D : Nat → Nat}
theorem in6 {k : Nat} (h : k < 6) : vp_in (nI k) 6 := vp_in_nI h (by decide)
theorem r_server (w : wfP 9999 P) (hD : ∀ k, D k ≤ 9) (e : ∀ k, k < 6 → Z 101 k = nI (D k)) (h : rRel P Z) (h1 : tYes 115 D P → ∀ Z', rRel (tTo 115 D P) Z' → gFr Z Z' → K 1 Z') (h0 : ¬ tYes 115 D P → K 0 Z) : wX12_serverIs Z K := by
  have hN := w.1
  unfold tYes at h1 h0
  unfold tTo at h1
  rw [if_pos rfl] at h1 h0
  rw [if_pos rfl] at h1
  unfold wX12_serverIs
  rw [show (0 : Int32).toNatClampNeg = 0 from rfl, show (1 : Int32).toNatClampNeg = 1 from rfl, show (2 : Int32).toNatClampNeg = 2 from rfl, show (3 : Int32).toNatClampNeg = 3 from rfl, show (4 : Int32).toNatClampNeg = 4 from rfl, show (5 : Int32).toNatClampNeg = 5 from rfl, e 0 (by decide), e 2 (by decide), e 3 (by decide), e 4 (by decide), e 5 (by decide)]
  have b0 := hD 0
  refine ⟨in6 (k := 2) (by decide), in6 (k := 3) (by decide), ?_⟩
  intro y3 e3
  refine ⟨in6 (k := 4) (by decide), in6 (k := 5) (by decide), ?_⟩
  intro y6 e6
  have e3 : y3 = nI (tTwo D 2) := by rw [e3, zlit_mul, nI_add]; rfl
  have e6 : y6 = nI (tTwo D 4) := by rw [e6, zlit_mul, nI_add]; rfl
  subst e3
  subst e6
  have d0 := nI_toInt (n := D 0) (by omega)
  have z5 : (5 : Int32).toInt = 5 := rfl
  refine ⟨in6 (k := 0) (by decide), br_c (fun c => h0 (fun y => ?_)) (fun c => ?_)⟩
  · have c := zlt.mp c
    rw [d0, z5] at c
    omega
  have c : D 0 ≤ 5 := by
    have c := zle.mp (Int32.not_lt.mp c)
    rw [d0, z5] at c
    omega
  refine r_isSize (fun hz => br_f (by decide) ?_) (fun hz => br_t rfl (h0 (fun y => hz y.2.1)))
  rw [h.1, e 0 (by decide), e 1 (by decide)]
  refine br_c (fun x => ⟨in6 (k := 0) (by decide), in6 (k := 1) (by decide), ?_⟩) (fun x => h0 (fun y => ?_))
  · have hn : P.1 < 6 := Nat.lt_of_le_of_ne hN (fun z => x (by rw [z]; rfl))
    refine r_new hn h (fun Z' r f => h1 ⟨c, hz, hn⟩ Z' r f)
  · have : P.1 = 6 := (nI_eq (a := P.1) (b := 6) (by omega) (by decide)).mp (Classical.not_not.mp x)
    have := y.2.2
    omega
theorem r_job (w : wfP 9999 P) (hD : ∀ k, D k ≤ 9) (e : ∀ k, k < 3 → Z 101 k = nI (D k)) (h : rRel P Z) (h1 : tYes 106 D P → ∀ Z', rRel (tTo 106 D P) Z' → gFr Z Z' → K 1 Z') (h0 : ¬ tYes 106 D P → K 0 Z) : wX12_jobIs Z K := by
  have hN := w.1
  have n115 : ¬ (106 : Int32) = 115 := by decide
  unfold tYes at h1 h0
  unfold tTo at h1
  rw [if_neg n115, if_pos rfl] at h1 h0
  rw [if_neg n115, if_pos rfl] at h1
  unfold wX12_jobIs
  rw [show (0 : Int32).toNatClampNeg = 0 from rfl, show (1 : Int32).toNatClampNeg = 1 from rfl, show (2 : Int32).toNatClampNeg = 2 from rfl, e 0 (by decide)]
  have b0 := hD 0
  have b1 := hD 1
  have b2 := hD 2
  have d1 := nI_toInt (n := D 1) (by omega)
  have d2 := nI_toInt (n := D 2) (by omega)
  have z3 : (3 : Int32).toInt = 3 := rfl
  refine ⟨in6 (k := 0) (by decide), ?_⟩
  intro y ey
  subst ey
  refine r_has hN h (fun ha => br_f (by decide) ⟨in6 (k := 1) (by decide), ?_⟩) (fun ha => br_t rfl (h0 (fun y => ha ⟨D 0, y.1, rfl⟩)))
  have hj : D 0 < P.1 := by
    obtain ⟨j, hj, ej⟩ := ha
    rw [(nI_eq (a := D 0) (b := j) (by omega) (by omega)).mp ej]; exact hj
  have hj6 : D 0 < 6 := by omega
  rw [e 1 (by decide), e 2 (by decide)]
  refine br_c (fun c => h0 (fun y => ?_)) (fun c => ⟨in6 (k := 2) (by decide), br_c (fun c3 => h0 (fun y => ?_)) (fun c3 => ?_)⟩)
  · have := (nI_eq (a := D 1) (b := 0) (by omega) (by decide)).mp c
    have := y.2.1
    omega
  · have c3 := zlt.mp c3
    rw [d2, z3] at c3
    have := y.2.2.1
    omega
  have c1 : 1 ≤ D 1 := Nat.pos_of_ne_zero (fun z => c (by rw [z]; rfl))
  have c2 : D 2 ≤ 3 := by
    have c3 := zle.mp (Int32.not_lt.mp c3)
    rw [d2, z3] at c3
    omega
  have e10 : Z 98 (42 + D 0) = P.2.2 (D 0) 10 := (h.2.2 _ hj).2.2.2.2.2.2.2.1
  have wq := w.2.2 _ hj
  obtain ⟨j, hj4, ej⟩ := zin_nI (n := 4) wq.jobs (by decide)
  simp (disch := omega) only [zlit_add, nI_clamp, vp_in_nI, true_and]
  rw [e10]
  refine br_c (fun x => ⟨in6 (k := 1) (by decide), in6 (k := 2) (by decide), ?_⟩) (fun x => h0 (fun y => y.2.2.2 (Classical.not_not.mp x)))
  have lj : j < 4 := Nat.lt_of_le_of_ne hj4 (fun e => x (by rw [ej, e]; rfl))
  have t1 := w.2.1.1
  have t2 := w.2.1.2
  exact r_take hj6 (h.2.2 _ hj) h.2.1 wq.1 t1 (by omega) ej lj (fun Z' r f => h1 ⟨hj, c1, c2, x⟩ Z' (h.set hN hj r f) (gFr.s f))
theorem r_tick (w : wfP 9999 P) (hD : ∀ k, D k ≤ 9) (e : ∀ k, k < 2 → Z 101 k = nI (D k)) (h : rRel P Z) (h1 : tYes 116 D P → ∀ Z', rRel (tTo 116 D P) Z' → gFr Z Z' → K 1 Z') (h0 : ¬ tYes 116 D P → K 0 Z) : wX12_ticksAre Z K := by
  have hN := w.1
  have n115 : ¬ (116 : Int32) = 115 := by decide
  have n106 : ¬ (116 : Int32) = 106 := by decide
  unfold tYes at h1 h0
  unfold tTo at h1
  rw [if_neg n115, if_neg n106] at h1 h0
  rw [if_neg n115, if_neg n106] at h1
  unfold wX12_ticksAre
  rw [show (0 : Int32).toNatClampNeg = 0 from rfl, show (1 : Int32).toNatClampNeg = 1 from rfl, e 0 (by decide), e 1 (by decide)]
  have b0 := hD 0
  have b1 := hD 1
  refine ⟨in6 (k := 0) (by decide), in6 (k := 1) (by decide), ?_⟩
  intro y3 e3
  have e3 : y3 = nI (tTwo D 0) := by rw [e3, zlit_mul, nI_add]; rfl
  subst e3
  have tb : tTwo D 0 ≤ 99 := by show 10 * D 0 + D 1 ≤ 99; omega
  have dn := nI_toInt (n := tTwo D 0) (by omega)
  have z60 : (60 : Int32).toInt = 60 := rfl
  have t1 := w.2.1.1
  have t2 := w.2.1.2
  refine r_win (fun hb => br_f (by decide) ?_) (fun hb => br_t rfl (h0 (fun y => hb ⟨zle.mpr (by rw [zi1, dn]; omega), zle.mpr (by rw [dn, z60]; omega)⟩)))
  have hb1 := zle.mp hb.1
  have hb2 := zle.mp hb.2
  rw [zi1, dn] at hb1
  rw [dn, z60] at hb2
  rw [h.2.1]
  have ta : (P.2.1 + nI (tTwo D 0)).toInt = P.2.1.toInt + tTwo D 0 := by rw [zadd (by omega) (by omega), dn]
  have z99 : (9999 : Int32).toInt = 9999 := rfl
  refine br_c (fun c9 => ?_) (fun c9 => h0 (fun y => c9 (zle.mpr (by rw [ta, z99]; exact y.2.2))))
  have c9 := zle.mp c9
  rw [ta, z99] at c9
  rintro _ rfl
  refine pk_loop (σ := zS) (fun m i Y => wX12_ticksAre_43 K m (nI (tTwo D 0)) (nI i) Y) (fun i Y => rRel (pGoN i P) Y ∧ gFr Z Y) (tTwo D 0) 0 Z (Nat.zero_le _) ⟨h, gFr.rf⟩ ?_ ?_
  · rintro m Y ⟨r, f⟩
    show wX12_ticksAre_43b _ (nI (tTwo D 0)) (nI (tTwo D 0)) Y K
    unfold wX12_ticksAre_43b
    exact br_t (Int32.le_refl _) (h1 ⟨by omega, by omega, c9⟩ Y r f)
  · rintro m i Y hi ⟨r, f⟩ ih
    show wX12_ticksAre_43b (fun x1 x2 Z => wX12_ticksAre_43 K m x1 x2 Z) (nI (tTwo D 0)) (nI i) Y K
    unfold wX12_ticksAre_43b
    refine br_f (nI_ge hi (by omega)) (r_goes (by omega) (w.goN i (by omega)) r (fun Z5 r5 f5 _ _ => ?_))
    rintro _ rfl
    rw [nI_1]
    exact ih Z5 ⟨r5, f.tr f5⟩
end P3
