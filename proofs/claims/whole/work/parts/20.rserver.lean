/-! THE REFERENCE: what its methods do to one server -/
section RS
abbrev rAt (s : Nat) (q : zQ) (Z : zS) : Prop := rSv s q (Z 98) (Z 99) (Z 100)
def rFr (s : Nat) (Z Z' : zS) : Prop := (∀ i, ¬ i = 98 → ¬ i = 99 → ¬ i = 100 → Z' i = Z i) ∧ (∀ j, ¬ j % 6 = s → Z' 98 j = Z 98 j) ∧ (∀ j, ¬ j / 4 = s → Z' 99 j = Z 99 j ∧ Z' 100 j = Z 100 j)
theorem rFr.rf {s : Nat} {Z : zS} : rFr s Z Z := ⟨fun _ _ _ _ => rfl, fun _ _ => rfl, fun _ _ => ⟨rfl, rfl⟩⟩
theorem rFr.tr {s : Nat} {Z Z1 Z2 : zS} (a : rFr s Z Z1) (b : rFr s Z1 Z2) : rFr s Z Z2 := ⟨fun i h1 h2 h3 => (b.1 i h1 h2 h3).trans (a.1 i h1 h2 h3), fun j h => (b.2.1 j h).trans (a.2.1 j h), fun j h => ⟨(b.2.2 j h).1.trans (a.2.2 j h).1, (b.2.2 j h).2.trans (a.2.2 j h).2⟩⟩
theorem rFr.u {s : Nat} {Z : zS} (k : Nat) (x : Int32) (hk : k % 6 = s) : rFr s Z (zU Z 98 k x) := ⟨fun i h _ _ => zU_r h, fun j h => zU_k (fun e => h (e ▸ hk)), fun j _ => ⟨by rw [zU_r (by decide)], by rw [zU_r (by decide)]⟩⟩
theorem rFr.w {s : Nat} {Z : zS} (k : Nat) (x : Int32) (hk : k / 4 = s) : rFr s Z (zU Z 99 k x) := ⟨fun i _ h _ => zU_r h, fun j _ => by rw [zU_r (by decide)], fun j h => ⟨zU_k (fun e => h (e ▸ hk)), by rw [zU_r (by decide)]⟩⟩
theorem rFr.l {s : Nat} {Z : zS} (k : Nat) (x : Int32) (hk : k / 4 = s) : rFr s Z (zU Z 100 k x) := ⟨fun i _ _ h => zU_r h, fun j _ => by rw [zU_r (by decide)], fun j h => ⟨by rw [zU_r (by decide)], zU_k (fun e => h (e ▸ hk))⟩⟩
variable {s : Nat} {q : zQ} {Z : zS} {t : Int32}
theorem r_share {K : Int32 → zS → Prop} (hs : s < 6) (h : rAt s q Z) (w : wf0 t q) (hk : K (q 4) Z) : wX12_share (nI s) Z K := by
  obtain ⟨e0, e1, e2, e3, -⟩ := h
  unfold wX12_share
  simp (disch := omega) only [zlit_add, zlit_mul, nI_add, nI_1, nI_clamp, vp_in_nI, true_and]
  rw [e2, e3, ← w.part.1]
  refine ⟨fun a => ?_, hk⟩
  have := w.bud.1
  have := w.per.1
  rw [a, zi0] at this
  omega
theorem r_wakes {K : zS → Prop} (hs : s < 6) (h : rAt s q Z) (hk : ∀ Z', rAt s (qWake q) Z' → rFr s Z Z' → K Z') : wX12_wakes (nI s) Z K := by
  obtain ⟨e0, e1, e2, e3, e5, e6, e7, e10, e8, e9, e13, e14, ej⟩ := h
  unfold wX12_wakes wX12_wakes_55
  simp (disch := omega) only [zlit_add, zlit_mul, nI_add, nI_1, nI_clamp, vp_in_nI, true_and, Nat.zero_add]
  rintro Z2 hZ2
  have r0 : Z2 98 s = q 0 := by rw [hZ2]; simp [zU_ap, e0]
  have fin : ∀ x, x = (if q 0 = 5 then q 5 else 0) → ∀ Z8, Z8 = zU Z2 98 (24 + s) (60 * Z2 98 (12 + s) + x) → ∀ Z12, Z12 = zU Z8 98 (30 + s) (Z8 98 (30 + s) + Z8 98 (18 + s)) → K Z12 := by
    rintro x rfl Z8 hZ8 Z12 hZ12
    refine hk Z12 ?_ ?_
    · rw [hZ12, hZ8, hZ2]
      refine ⟨?_, ?_, ?_, ?_, ?_, ?_, ?_, ?_, ?_, ?_, ?_, ?_, ?_⟩
      case refine_12 => intro a; simpa [zU_ap, qWake, upd_ap] using e14 (by simpa [qWake, upd_ap] using a)
      case refine_13 => intro i h4 hi; simpa [zU_ap, qWake, upd20, upd30] using ej i h4 (by simpa [qWake, upd_ap] using hi)
      all_goals simp [zU_ap, qWake, upd_ap, e0, e1, e2, e3, e5, e6, e7, e10, e8, e9, e13]
    · rw [hZ12, hZ8, hZ2]
      exact ((rFr.u _ _ (by omega)).tr (rFr.u _ _ (by omega))).tr (rFr.u _ _ (by omega))
  rw [r0]
  refine br_c (fun c => fin _ (if_neg c).symm) (fun c => ?_)
  have r5 : Z2 98 (24 + s) = q 5 := by rw [hZ2]; simp [zU_ap, e5]
  rw [r5]
  exact fin _ (if_pos (Classical.not_not.mp c)).symm
theorem r_rests {K : Int32 → zS → Prop} (hs : s < 6) (h : rAt s q Z) (h1 : q 0 = 2 ∨ q 0 = 5 → K 1 Z) (h0 : ¬ (q 0 = 2 ∨ q 0 = 5) → K 0 Z) : wX12_rests (nI s) Z K := by
  obtain ⟨e0, -⟩ := h
  unfold wX12_rests wX12_rests_24
  simp (disch := omega) only [zlit_add, zlit_mul, nI_add, nI_1, nI_clamp, vp_in_nI, true_and, Nat.zero_add]
  rw [e0]
  refine br_c (fun a => h1 (Or.inl a)) (fun a => br_c (fun b => h0 (fun c => c.elim a b)) (fun b => h1 (Or.inr (Classical.not_not.mp b))))
theorem r_refills {K : zS → Prop} (hs : s < 6) (h : rAt s q Z) (hL : q 5 ≤ 0) (hP : 0 < q 5 + 60 * q 2) (hk : ∀ Z', rAt s (qRefill q) Z' → rFr s Z Z' → K Z') : wX12_refills (nI s) Z K := by
  unfold wX12_refills
  have h' := h
  obtain ⟨e0, e1, e2, e3, e5, e6, e7, e10, e8, e9, e13, e14, ej⟩ := h
  refine r_rests hs h' (fun c => ?_) (fun c => ?_)
  · refine br_f (by decide) ?_
    simp (disch := omega) only [zlit_add, zlit_mul, nI_add, nI_1, nI_clamp, vp_in_nI, true_and, Nat.zero_add]
    rintro Z5 rfl
    have e : qRefill q = upd q 7 2 := if_pos c
    rw [e] at hk
    refine hk _ ?_ (rFr.u _ _ (by omega))
    refine ⟨?_, ?_, ?_, ?_, ?_, ?_, ?_, ?_, ?_, ?_, ?_, ?_, ?_⟩
    case refine_12 => intro a; simpa [zU_ap, upd_ap] using e14 (by simpa [upd_ap] using a)
    case refine_13 => intro i h4 hi; simpa [zU_ap, upd20, upd30] using ej i h4 (by simpa [upd_ap] using hi)
    all_goals simp [zU_ap, upd_ap, e0, e1, e2, e3, e5, e6, e7, e10, e8, e9, e13]
  · refine br_t rfl ⟨2, ?_⟩
    have e : qRefill q = upd (upd q 5 (q 5 + 60 * q 2)) 6 (q 6 + q 3) := if_neg c
    rw [e] at hk
    show wX12_refills_19b _ (nI s) Z K
    unfold wX12_refills_19b
    simp (disch := omega) only [zlit_add, zlit_mul, nI_add, nI_1, nI_clamp, vp_in_nI, true_and, Nat.zero_add]
    rw [e5, e2]
    refine br_f (Int32.not_lt.mpr hL) ?_
    rintro Z11 hZ11 Z15 hZ15
    show wX12_refills_19b _ (nI s) Z15 K
    unfold wX12_refills_19b
    simp (disch := omega) only [zlit_add, zlit_mul, nI_add, nI_1, nI_clamp, vp_in_nI, true_and, Nat.zero_add]
    have r5 : Z15 98 (24 + s) = q 5 + 60 * q 2 := by rw [hZ15, hZ11]; simp [zU_ap]
    rw [r5]
    refine br_t hP (hk _ ?_ ?_)
    · rw [hZ15, hZ11]
      refine ⟨?_, ?_, ?_, ?_, ?_, ?_, ?_, ?_, ?_, ?_, ?_, ?_, ?_⟩
      case refine_12 => intro a; simpa [zU_ap, upd_ap] using e14 (by simpa [upd_ap] using a)
      case refine_13 => intro i h4 hi; simpa [zU_ap, upd20, upd30] using ej i h4 (by simpa [upd_ap] using hi)
      all_goals simp [zU_ap, upd_ap, e0, e1, e2, e3, e5, e6, e7, e10, e8, e9, e13]
    · rw [hZ15, hZ11]
      exact (rFr.u _ _ (by omega)).tr (rFr.u _ _ (by omega))
theorem zmul_bd {x y A L U : Int} (x0 : 0 ≤ x) (xA : x ≤ A) (hL : L ≤ y) (hU : y ≤ U) (L0 : L ≤ 0) (U0 : 0 ≤ U) : A * L ≤ x * y ∧ x * y ≤ A * U :=
  ⟨Int.le_trans (Int.mul_le_mul_of_nonpos_right xA L0) (Int.mul_le_mul_of_nonneg_left hL x0), Int.le_trans (Int.mul_le_mul_of_nonneg_left hU x0) (Int.mul_le_mul_of_nonneg_right xA U0)⟩
/-- what all its budget would be by now, against what is left: no wrap-around -/
theorem zahead (w : wf0 t q) (t0 : 0 ≤ t.toInt) (tT : t.toInt ≤ 20000) : 0 < 60 * q 2 * (q 6 - t) - q 5 * q 3 ↔ q 5 * q 3 < 60 * q 2 * (q 6 - t) := by
  have b1 := w.bud.1
  have b2 := w.bud.2
  have l1 := w.left.1
  have l2 := w.left.2
  have d1 := w.dl.1
  have d2 := w.dl.2
  have p1 := w.per.1
  have p2 := w.per.2
  have e60 := z60b w.bud
  have eD : (q 6 - t).toInt = (q 6).toInt - t.toInt := zsub (by omega) (by omega)
  have m1 := zmul_bd (x := (60 * q 2).toInt) (y := (q 6 - t).toInt) (A := 1800) (L := -20000) (U := 1180120) (by omega) (by omega) (by omega) (by omega) (by decide) (by decide)
  have m2 := zmul_bd (x := (q 3).toInt) (y := (q 5).toInt) (A := 60) (L := -59) (U := 1800) (by omega) (by omega) (by omega) (by omega) (by decide) (by decide)
  rw [Int.mul_comm (q 3).toInt] at m2
  have x1 : (60 * q 2 * (q 6 - t)).toInt = (60 * q 2).toInt * (q 6 - t).toInt := zmul (by omega) (by omega)
  have x2 : (q 5 * q 3).toInt = (q 5).toInt * (q 3).toInt := zmul (by omega) (by omega)
  have x3 : (60 * q 2 * (q 6 - t) - q 5 * q 3).toInt = (60 * q 2 * (q 6 - t)).toInt - (q 5 * q 3).toInt := zsub (by omega) (by omega)
  rw [zlt, zlt, x3, zi0]
  omega
theorem r_ahead {K : Int32 → zS → Prop} (hs : s < 6) (h : rAt s q Z) (ht : Z 97 0 = t) (hk : K (60 * q 2 * (q 6 - t) - q 5 * q 3) Z) : wX12_ahead (nI s) Z K := by
  obtain ⟨e0, e1, e2, e3, e5, e6, -⟩ := h
  unfold wX12_ahead
  simp (disch := omega) only [zlit_add, zlit_mul, nI_add, nI_1, nI_clamp, vp_in_nI, true_and]
  rw [e2, e3, e5, e6, ht]
  exact hk
end RS
