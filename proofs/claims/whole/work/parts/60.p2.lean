/-! FACE: text: what a statement does -/
section P2
variable {S Q P : zP} {Z Z0 Z' : zS} {K : Int32 → zS → Prop} {M : zS → Prop} {T : Nat} {E : Nat → Int32} {g : Nat}
theorem c_addp {pl : Nat} {k f b p : Int32} {K : zS → Prop} (hp : pl < 3) (hn : S.1 < 6) (hz : zSz b p) (h : cRel pl S Z) (hk : ∀ Z', cRel pl (pAdd k f b p S) Z' → cFr pl Z Z' → K Z') : wX3_addServer pl k f b p Z K := by
  have c : nI S.1 < 6 := nI_lt (b := 6) hn (by decide)
  have cl : (nI S.1).toNatClampNeg = S.1 := nI_clamp (by omega)
  have in6 : vp_in (nI S.1) 6 := vp_in_nI hn (by decide)
  unfold wX3_addServer
  rw [h.1, cl]
  refine br_t c ⟨in6, c_anew (fun Z1 r1 f1 => ?_)⟩
  have f1' : cFr pl Z Z1 := cFr.s (p := pl) hp hn f1
  have e1 : Z1 (54 + pl) 1 = nI S.1 := by rw [f1 (54 + pl) (by omega) (by omega) (by omega)]; exact h.1
  rw [e1, cl]
  refine ⟨in6, c_setBudget hz.1 hz.2.1 r1 (fun Z2 r2 f2 => ?_)⟩
  rw [qBud_new] at r2
  have e2 : Z2 (54 + pl) 1 = nI S.1 := by rw [f2 (54 + pl) (by omega) (by omega) (by omega)]; exact e1
  have fs : sFr (6 * pl + S.1) Z Z2 := f1.tr f2
  rintro _ rfl
  refine hk _ ⟨?_, ?_, fun s hs => ?_⟩ ((f1'.tr (cFr.s (p := pl) hp hn f2)).tr (cFr.p hp _ _))
  · rw [zU_s, e2, nI_1]; rfl
  · rw [zU_k (by omega), f2 (54 + pl) (by omega) (by omega) (by omega), f1 (54 + pl) (by omega) (by omega) (by omega)]; exact h.2.1
  · rw [pAdd_e] at hs ⊢
    have hs : s < S.1 + 1 := hs
    show sRel (6 * pl + s) (va_up S.2.2 S.1 (qBud b p (qNew k f)) s) _
    have o : ∀ Z' : zS, ∀ x, ∀ i, i < 54 → zU Z' (54 + pl) 1 x i = Z' i := fun Z' x i hi => zU_r (by omega)
    unfold va_up
    by_cases e : s = S.1
    · rw [if_pos e]
      subst e
      exact r2.mv (o _ _ _ (by omega)) (o _ _ _ (by omega)) (o _ _ _ (by omega))
    · rw [if_neg e]
      have g : ∀ i, i < 54 → ¬ i = 6 * pl + S.1 → ¬ i = 18 + (6 * pl + S.1) → ¬ i = 36 + (6 * pl + S.1) → zU Z2 (54 + pl) 1 (Z2 (54 + pl) 1 + 1) i = Z i := fun i hi h1 h2 h3 => (o _ _ i hi).trans (fs i h1 h2 h3)
      exact (h.2.2 s (by omega)).mv (g _ (by omega) (by omega) (by omega) (by omega)) (g _ (by omega) (by omega) (by omega) (by omega)) (g _ (by omega) (by omega) (by omega) (by omega))
def tTwo (D : Nat → Nat) (i : Nat) : Nat := 10 * D i + D (i + 1)
def tYes (c : Int32) (D : Nat → Nat) (P : zP) : Prop :=
  if c = 115 then D 0 ≤ 5 ∧ zSz (nI (tTwo D 2)) (nI (tTwo D 4)) ∧ P.1 < 6
  else if c = 106 then D 0 < P.1 ∧ 1 ≤ D 1 ∧ D 2 ≤ 3 ∧ ¬ P.2.2 (D 0) 10 = 4
  else 1 ≤ tTwo D 0 ∧ tTwo D 0 ≤ 60 ∧ P.2.1.toInt + tTwo D 0 ≤ 9999
def tTo (c : Int32) (D : Nat → Nat) (P : zP) : zP :=
  if c = 115 then pAdd (nI (D 0)) (nI (D 1)) (nI (tTwo D 2)) (nI (tTwo D 4)) P
  else if c = 106 then pSet P (D 0) (qTake P.2.1 (nI (D 1)) (nI (D 2)) (P.2.2 (D 0)))
  else pGoN (tTwo D 0) P
theorem pGoN_T (n : Nat) : (pGoN n P).2.1 = P.2.1 + nI n := by
  induction n with
  | zero => show P.2.1 = P.2.1 + 0; rw [Int32.add_zero]
  | succ n ih =>
    show (pGo 0 (pGoN n P)).2.1 = _
    rw [(pGo_1 (S := pGoN n P) 0).2, ih, Int32.add_assoc, nI_1]
theorem tTo_wf {c : Int32} {D : Nat → Nat} (hD : ∀ k, D k ≤ 9) (w : wfP 9999 P) (y : tYes c D P) : wfP 9999 (tTo c D P) := by
  unfold tYes at y
  unfold tTo
  by_cases c1 : c = 115
  · rw [if_pos c1] at y ⊢
    exact w.add y.2.2 (zKi_of (by omega)) (zin_of (n := 9) (hD 1) (by decide)) y.2.1
  by_cases c2 : c = 106
  · rw [if_neg c1, if_pos c2] at y ⊢
    obtain ⟨j, hj, ej⟩ := zin_nI (n := 4) (w.2.2 _ y.1).jobs (by decide)
    have hj4 : j < 4 := Nat.lt_of_le_of_ne hj (fun e => y.2.2.2 (by rw [ej, e]; rfl))
    have t1 := w.2.1.1
    have t2 := w.2.1.2
    have d1 := nI_toInt (n := D 1) (by have := hD 1; omega)
    have h1 := hD 1
    exact w.set ((w.2.2 _ y.1).take t1 (by omega) ej hj4 ⟨by omega, by omega⟩ (zin_of (n := 3) y.2.2.1 (by decide)))
  · rw [if_neg c1, if_neg c2] at y ⊢
    have w1 := w.goN (tTwo D 0) (by omega)
    have t1 := w.2.1.1
    have tn := nI_toInt (n := tTwo D 0) (by omega)
    refine ⟨w1.1, ?_, w1.2.2⟩
    rw [pGoN_T]
    unfold zin
    rw [zadd (by omega) (by omega), tn]
    omega
theorem c_dig {d i : Nat} {D : Nat} (hi : i < 100) (eE : Z (68 + d) i = E i) (eD : E i - 48 = nI D) (hk : K (nI D) Z) : wX8_digit d (nI i) Z K := by
  unfold wX8_digit
  exact c_at hi eE (by rw [eD]; exact hk)
theorem c_two {d i a b : Nat} (hi : i + 1 < 100) (eE : ∀ i, i < 100 → Z (68 + d) i = E i) (eA : E i - 48 = nI a) (eB : E (i + 1) - 48 = nI b) (hk : K (nI (10 * a + b)) Z) : wX8_twoDigits d (nI i) Z K := by
  unfold wX8_twoDigits
  refine c_dig (by omega) (eE _ (by omega)) eA ?_
  rw [nI_1]
  refine c_dig hi (eE _ (by omega)) eB ?_
  rw [zlit_mul, nI_add]
  exact hk
theorem nI_l2 (p k : Nat) : nI p + nI k = nI (p + k) := nI_add p k
theorem c_do {d p : Nat} {c : Int32} {D : Nat → Nat} (w : wfP 9999 P) (hD : ∀ k, D k ≤ 9) (hc : c = 115 ∨ c = 106 ∨ c = 116) (hp : p + 8 ≤ 100 ∨ (c = 106 ∧ p + 5 ≤ 100) ∨ (c = 116 ∧ p + 4 ≤ 100)) (eE : ∀ i, i < 100 → Z (68 + d) i = E i) (e0 : E p = c) (eD : ∀ k, k < (if c = 115 then 6 else if c = 106 then 3 else 2) → E (p + 1 + k) - 48 = nI (D k)) (h : cRel 1 P Z) (h1 : tYes c D P → ∀ Z', cRel 1 (tTo c D P) Z' → cFr 1 Z Z' → K 1 Z') (h0 : ¬ tYes c D P → K 0 Z) : wX8_isDone d (nI p) 1 Z K := by
  have hN := w.1
  unfold wX8_isDone
  refine c_at (by omega) (eE p (by omega)) ?_
  rw [e0]
  intro y ey
  subst ey
  have l1 : (nI p + 1 : Int32) = nI (p + 1) := nI_1 p
  have l2 : (nI p + 2 : Int32) = nI (p + 2) := nI_add p 2
  have l3 : (nI p + 3 : Int32) = nI (p + 3) := nI_add p 3
  have l5 : (nI p + 5 : Int32) = nI (p + 5) := nI_add p 5
  refine br_c (fun c2 => ?_) (fun c2 => br_c (fun c1 => ?_) (fun c1 => ?_))
  · have c1 : ¬ y = 115 := by rw [c2]; decide
    unfold tYes at h1 h0
    unfold tTo at h1
    rw [if_neg c1, if_pos c2] at h1 h0 eD
    rw [if_neg c1, if_pos c2] at h1
    unfold wX8_isJobSent wX3_sendingRefusal
    rw [l1, l2, l3]
    refine c_dig (by omega) (eE _ (by omega)) (eD 0 (by decide)) (c_dig (by omega) (eE _ (by omega)) (eD 1 (by decide)) (c_dig (by omega) (eE _ (by omega)) (eD 2 (by decide)) ?_))
    replace h0 := fun n => And.intro (Or.inl rfl : zBo 0) (h0 n)
    replace h1 := fun y Z' r f => And.intro (Or.inr rfl : zBo 1) (h1 y Z' r f)
    have d1 := nI_toInt (n := D 1) (by have := hD 1; omega)
    have d2 := nI_toInt (n := D 2) (by have := hD 2; omega)
    have z9 : (9 : Int32).toInt = 9 := rfl
    have z3 : (3 : Int32).toInt = 3 := rfl
    have b0 := hD 0
    have b1 := hD 1
    have b2 := hD 2
    refine c_has hN h (fun ha => br_f (by decide) ?_) (fun ha => br_t rfl (br_f (by decide) (h0 (fun y => ha ⟨D 0, y.1, rfl⟩))))
    have hj : D 0 < P.1 := by
      obtain ⟨j, hj, ej⟩ := ha
      rw [(nI_eq (a := D 0) (b := j) (by omega) (by omega)).mp ej]; exact hj
    have in6 : vp_in (nI (D 0)) 6 := vp_in_nI (by omega) (by decide)
    refine c_win (fun hb => br_f (by decide) ?_) (fun hb => br_t rfl (br_f (by decide) (h0 (fun y => hb ⟨zle.mpr (by rw [zi1, d1]; omega), zle.mpr (by rw [d1, z9]; omega)⟩))))
    have hb1 := zle.mp hb.1
    rw [zi1, d1] at hb1
    refine c_win (fun hd => br_t (by decide) ⟨in6, ?_⟩) (fun hd => br_f (fun z => z rfl) (br_f (by decide) (h0 (fun y => hd ⟨zle.mpr (by rw [zi0, d2]; omega), zle.mpr (by rw [d2, z3]; omega)⟩))))
    have hd1 := zle.mp hd.2
    rw [d2, z3] at hd1
    have wq := w.2.2 _ hj
    obtain ⟨j, hj4, ej⟩ := zin_nI (n := 4) wq.jobs (by decide)
    unfold wX5_isFull
    rw [nI_clamp (by omega), (h.2.2 _ hj).f 10 (by decide), ej]
    refine br_c (fun c4 => br_t rfl (br_t rfl ⟨in6, ?_⟩)) (fun c4 => br_f (by decide) (br_f (by decide) (h0 (fun y => ?_))))
    · have lj : j < 4 := by
        rcases Nat.lt_or_ge j 4 with z | z
        · exact z
        · exact absurd c4 (nI_nlt (b := 4) z (by omega))
      rw [h.2.1]
      refine c_take (h.2.2 _ hj) ej lj wq.st wq.idle (fun Z' r f => ?_)
      refine h1 ⟨hj, by omega, by omega, fun e => ?_⟩ Z' (cRel.set (by decide) hN hj h r f) (cFr.s (p := 1) (by decide) (by omega) f)
      rw [ej] at e
      have := (nI_eq (a := j) (b := 4) (by omega) (by decide)).mp e
      omega
    · refine y.2.2.2 ?_
      rcases Nat.lt_or_ge j 4 with z | z
      · exact absurd (nI_lt (b := 4) z (by decide)) c4
      · rw [ej, show j = 4 by omega]; rfl
  · unfold tYes at h1 h0
    unfold tTo at h1
    rw [if_pos c1] at h1 h0 eD
    rw [if_pos c1] at h1
    have p8 : p + 8 ≤ 100 := by
      rcases hp with z | z | z
      · exact z
      · rw [c1] at z; exact absurd z.1 (by decide)
      · rw [c1] at z; exact absurd z.1 (by decide)
    replace h0 := fun n => And.intro (Or.inl rfl : zBo 0) (h0 n)
    replace h1 := fun y Z' r f => And.intro (Or.inr rfl : zBo 1) (h1 y Z' r f)
    unfold wX8_isServerAdded
    rw [l1, l2, l3, l5]
    refine c_dig (by omega) (eE _ (by omega)) (eD 0 (by decide)) (c_dig (by omega) (eE _ (by omega)) (eD 1 (by decide)) (c_two (by omega) eE (eD 2 (by decide)) (eD 3 (by decide)) (c_two (by omega) eE (eD 4 (by decide)) (eD 5 (by decide)) ?_)))
    have b0 := hD 0
    refine c_win (fun hb => br_f (by decide) ?_) (fun hb => br_t rfl (h0 (fun y => hb ((zW_of (n := 6) rfl (by decide)).mpr ⟨D 0, by omega, rfl⟩))))
    have h5 : D 0 ≤ 5 := by
      obtain ⟨j, hj, ej⟩ := (zW_of (n := 6) rfl (by decide)).mp hb
      have := (nI_eq (a := D 0) (b := j) (by omega) (by omega)).mp ej
      omega
    refine c_isBudget (fun hz => br_f (by decide) ?_) (fun hz => br_t rfl (h0 (fun y => hz y.2.1)))
    rw [h.1]
    refine br_c (fun c6 => ⟨vp_in_nI (show D 0 < 6 by omega) (by decide), ?_⟩) (fun c6 => h0 (fun y => c6 (nI_lt (b := 6) y.2.2 (by decide))))
    have hn : P.1 < 6 := by
      rcases Nat.lt_or_ge P.1 6 with z | z
      · exact z
      · exact absurd c6 (nI_nlt (b := 6) z (by omega))
    exact c_addp (pl := 1) (by decide) hn hz h (fun Z' r f => h1 ⟨h5, hz, hn⟩ Z' r f)
  · have c3 : y = 116 := by
      rcases hc with z | z | z
      · exact absurd z c1
      · exact absurd z c2
      · exact z
    have p4 : p + 4 ≤ 100 := by omega
    unfold tYes at h1 h0
    unfold tTo at h1
    rw [if_neg c1, if_neg c2] at h1 h0 eD
    rw [if_neg c1, if_neg c2] at h1
    rw [l1]
    refine c_two (by omega) eE (eD 0 (by decide)) (eD 1 (by decide)) ?_
    show wX3_tickingRefusal 1 (nI (tTwo D 0)) Z _
    unfold wX3_tickingRefusal
    have b0 := hD 0
    have b1 := hD 1
    have tb : tTwo D 0 ≤ 99 := by show 10 * D 0 + D 1 ≤ 99; omega
    have dn := nI_toInt (n := tTwo D 0) (by omega)
    have z60 : (60 : Int32).toInt = 60 := rfl
    have t1 := w.2.1.1
    have t2 := w.2.1.2
    refine c_win (fun hb => br_t (by decide) ?_) (fun hb => br_f (fun z => z rfl) (br_f (by decide) (h0 (fun y => hb ⟨zle.mpr (by rw [zi1, dn]; omega), zle.mpr (by rw [dn, z60]; omega)⟩))))
    have hb1 := zle.mp hb.1
    have hb2 := zle.mp hb.2
    rw [zi1, dn] at hb1
    rw [dn, z60] at hb2
    rw [h.2.1]
    have ta : (P.2.1 + nI (tTwo D 0)).toInt = P.2.1.toInt + tTwo D 0 := by rw [zadd (by omega) (by omega), dn]
    have z99 : (9999 : Int32).toInt = 9999 := rfl
    refine br_c (fun c9 => br_t rfl (c_goOnFor (by decide) (by omega) w h (fun Z' r f _ => h1 ⟨by omega, by omega, ?_⟩ Z' r f))) (fun c9 => br_f (by decide) (h0 (fun y => c9 (zle.mpr (by rw [ta, z99]; exact y.2.2)))))
    have := zle.mp c9
    rw [ta, z99] at this
    exact this
end P2
