/-! THE CLASS: what its methods do to one server (cell v) -/
section PC
theorem upd20 {q : zQ} {k i : Nat} {x : Int32} (h : k < 20) : upd q k x (20 + i) = q (20 + i) := if_neg (by omega)
theorem upd30 {q : zQ} {k i : Nat} {x : Int32} (h : k < 30) : upd q k x (30 + i) = q (30 + i) := if_neg (by omega)
theorem sFr.rf {v : Nat} {Z : zS} : sFr v Z Z := fun _ _ _ _ => rfl
theorem sFr.tr {v : Nat} {Z Z1 Z2 : zS} (a : sFr v Z Z1) (b : sFr v Z1 Z2) : sFr v Z Z2 := fun i h1 h2 h3 => (b i h1 h2 h3).trans (a i h1 h2 h3)
theorem sFr.u {v : Nat} {Z : zS} (k : Nat) (x : Int32) : sFr v Z (zU Z v k x) := fun _ h1 _ _ => zU_r h1
theorem sFr.w {v : Nat} {Z : zS} (k : Nat) (x : Int32) : sFr v Z (zU Z (18 + v) k x) := fun _ _ h2 _ => zU_r h2
theorem sFr.l {v : Nat} {Z : zS} (k : Nat) (x : Int32) : sFr v Z (zU Z (36 + v) k x) := fun _ _ _ h3 => zU_r h3
theorem sRel.f {v : Nat} {q : zQ} {Z : zS} (h : sRel v q Z) : ∀ k, k < 11 → Z v k = q k := h.1.1
theorem sRel.h {v : Nat} {q : zQ} {Z : zS} (h : sRel v q Z) : Z v 13 = q 13 := h.1.2.1
theorem sRel.j {v : Nat} {q : zQ} {Z : zS} (h : sRel v q Z) : ∀ i : Nat, i < (q 10).toNatClampNeg → Z (18 + v) i = q (20 + i) ∧ Z (36 + v) i = q (30 + i) := h.1.2.2
/-- a server's own cell written at places below 11, 13, 14: by the fields alone -/
theorem sRel0.of0 {v : Nat} {q q' : zQ} {Z Z' : zS} (h : sRel0 v q Z) (hf : ∀ k, k < 11 → Z' v k = q' k) (h13 : Z' v 13 = q' 13) (hw : Z' (18 + v) = Z (18 + v)) (hl : Z' (36 + v) = Z (36 + v)) (hj : (q' 10).toNatClampNeg ≤ (q 10).toNatClampNeg) (hq : ∀ i, i < (q' 10).toNatClampNeg → q' (20 + i) = q (20 + i) ∧ q' (30 + i) = q (30 + i)) : sRel0 v q' Z' := by
  refine ⟨hf, h13, fun i hi => ?_⟩
  rw [hw, hl, (hq i hi).1, (hq i hi).2]
  exact h.2.2 i (Nat.lt_of_lt_of_le hi hj)
theorem sRel0.of {v : Nat} {q q' : zQ} {Z Z' : zS} (h : sRel0 v q Z) (hf : ∀ k, k < 11 → Z' v k = q' k) (h13 : Z' v 13 = q' 13) (h14 : ¬ q' 10 = 0 → Z' v 14 = q' 14) (hw : Z' (18 + v) = Z (18 + v)) (hl : Z' (36 + v) = Z (36 + v)) (hj : (q' 10).toNatClampNeg ≤ (q 10).toNatClampNeg) (hq : ∀ i, i < (q' 10).toNatClampNeg → q' (20 + i) = q (20 + i) ∧ q' (30 + i) = q (30 + i)) : sRel v q' Z' := by
  refine ⟨⟨hf, h13, fun i hi => ?_⟩, h14⟩
  rw [hw, hl, (hq i hi).1, (hq i hi).2]
  exact h.2.2 i (Nat.lt_of_lt_of_le hi hj)
theorem sRel.of {v : Nat} {q q' : zQ} {Z Z' : zS} (h : sRel v q Z) (hf : ∀ k, k < 11 → Z' v k = q' k) (h13 : Z' v 13 = q' 13) (h14 : ¬ q' 10 = 0 → Z' v 14 = q' 14) (hw : Z' (18 + v) = Z (18 + v)) (hl : Z' (36 + v) = Z (36 + v)) (hj : (q' 10).toNatClampNeg ≤ (q 10).toNatClampNeg) (hq : ∀ i, i < (q' 10).toNatClampNeg → q' (20 + i) = q (20 + i) ∧ q' (30 + i) = q (30 + i)) : sRel v q' Z' := h.1.of hf h13 h14 hw hl hj hq
variable {v : Nat} {q : zQ} {Z : zS}
theorem c_drop {K : zS → Prop} (h : sRel v q Z) (hk : ∀ Z', sRel v (qDrop q) Z' → sFr v Z Z' → K Z') : wX5_dropJobs v Z K := by
  unfold wX5_dropJobs
  rintro _ rfl _ rfl _ rfl
  have h1 := h.f
  refine hk _ (h.of (fun k hk => ?_) ?_ ?_ ?_ ?_ ?_ ?_) (((sFr.u _ _).tr (sFr.u _ _)).tr (sFr.u _ _))
  · simp [zU_ap, qDrop, upd_ap, h1, hk]
  · simp [zU_ap, qDrop, upd_ap]
  · simp [qDrop, upd_ap]
  · funext i; simp [zU_ap]
  · funext i; simp [zU_ap]
  · simp [qDrop, upd_ap]
  · intro i hi; simp [qDrop, upd_ap] at hi
theorem c_wake1 {x : Int32} {K : zS → Prop} (h : sRel v q Z) (h5 : ¬ q 0 = 5) (hk : ∀ Z', sRel v (qWake q) Z' → sFr v Z Z' → K Z') : wX1_wake x v Z K := by
  unfold wX1_wake
  rintro _ rfl _ rfl _ rfl
  have h1 := h.f
  refine hk _ (h.of (fun k hk => ?_) ?_ ?_ ?_ ?_ ?_ ?_) (((sFr.u _ _).tr (sFr.u _ _)).tr (sFr.u _ _))
  · simp [zU_ap, qWake, upd_ap, h1, hk, h5]
  · simp [zU_ap, qWake, upd_ap, h.h]
  · simpa [zU_ap, qWake, upd_ap] using h.2
  · funext i; simp [zU_ap]
  · funext i; simp [zU_ap]
  · simp [qWake, upd_ap]
  · intro i hi; simp [qWake, upd20, upd30]
theorem c_wake9 {x : Int32} {K : zS → Prop} (h : sRel v q Z) (h5 : q 0 = 5) (hx : zKi x) (hL : q 5 ≤ 0) (hk : ∀ Z', sRel v (qWake q) Z' → sFr v Z Z' → K Z') : wX9_wake x v Z K := by
  unfold wX9_wake wX1_wake
  rintro _ rfl
  refine ⟨hx, ?_⟩
  rintro _ rfl _ rfl _ rfl _ rfl
  have h1 := h.f
  have hn : ¬ 0 < q 5 := Int32.not_lt.mpr hL
  refine hk _ (h.of (fun k hk => ?_) ?_ ?_ ?_ ?_ ?_ ?_) ((((sFr.u _ _).tr (sFr.u _ _)).tr (sFr.u _ _)).tr (sFr.u _ _))
  · by_cases e5 : k = 5
    · subst e5; simp [zU_ap, qWake, upd_ap, h1, h5, hn]
    · simp [zU_ap, qWake, upd_ap, h1, hk, e5]
  · simp [zU_ap, qWake, upd_ap, h.h]
  · simpa [zU_ap, qWake, upd_ap] using h.2
  · funext i; simp [zU_ap]
  · funext i; simp [zU_ap]
  · simp [qWake, upd_ap]
  · intro i hi; simp [qWake, upd20, upd30]
theorem c_wake {K : zS → Prop} (h : sRel v q Z) (hx : zKi (q 0)) (hL : q 5 ≤ 0) (hk : ∀ Z', sRel v (qWake q) Z' → sFr v Z Z' → K Z') : d_wake (Z v 0) v Z K := by
  rw [h.f 0 (by decide)]
  refine ⟨hx, fun e => ?_, fun e => ?_, fun e => ?_, fun e => ?_, fun e => ?_, fun e => c_wake9 h e hx hL hk⟩ <;> exact c_wake1 h (by rw [e]; decide) hk
theorem c_earned {t : Int32} {K : Int32 → zS → Prop} (h : sRel0 v q Z) (ht : q 5 * q 3 < 60 * q 2 * (q 6 - t) → K 0 Z) (hf : ¬ q 5 * q 3 < 60 * q 2 * (q 6 - t) → K 1 Z) : wX5_hasEarned v t Z K := by
  unfold wX5_hasEarned
  rw [h.1 5 (by decide), h.1 3 (by decide), h.1 2 (by decide), h.1 6 (by decide)]
  exact ⟨ht, hf⟩
theorem c_idle {K : zS → Prop} (h : sRel v q Z) (hk : ∀ Z', sRel v (upd q 7 0) Z' → sFr v Z Z' → K Z') : ∀ Z1 : zS, Z1 = zU Z v 7 0 → K Z1 := by
  rintro _ rfl
  have h1 := h.f
  refine hk _ (h.of (fun k hk => ?_) ?_ ?_ ?_ ?_ ?_ ?_) (sFr.u _ _)
  · simp [zU_ap, upd_ap, h1, hk]
  · simp [zU_ap, upd_ap, h.h]
  · simpa [zU_ap, upd_ap] using h.2
  · funext i; simp [zU_ap]
  · funext i; simp [zU_ap]
  · simp [upd_ap]
  · intro i hi; simp [upd20, upd30]
theorem c_refill4 {x : Int32} {K : zS → Prop} (h : sRel v q Z) (h5 : q 0 = 2 ∨ q 0 = 5) (hk : ∀ Z', sRel v (qRefill q) Z' → sFr v Z Z' → K Z') : wX4_refill x v Z K := by
  unfold wX4_refill
  rintro _ rfl
  have h1 := h.f
  have e : qRefill q = upd q 7 2 := if_pos h5
  rw [e] at hk
  refine hk _ (h.of (fun k hk => ?_) ?_ ?_ ?_ ?_ ?_ ?_) (sFr.u _ _)
  · simp [zU_ap, upd_ap, h1, hk]
  · simp [zU_ap, upd_ap, h.h]
  · simpa [zU_ap, upd_ap] using h.2
  · funext i; simp [zU_ap]
  · funext i; simp [zU_ap]
  · simp [upd_ap]
  · intro i hi; simp [upd20, upd30]
/-- one round is enough, as wfQ says: what is left is above 0 behind it -/
theorem c_refill1 {x : Int32} {K : zS → Prop} (h : sRel v q Z) (h5 : ¬ (q 0 = 2 ∨ q 0 = 5)) (hL : q 5 ≤ 0) (hP : 0 < q 5 + 60 * q 2) (hk : ∀ Z', sRel v (qRefill q) Z' → sFr v Z Z' → K Z') : wX1_refill x v Z K := by
  unfold wX1_refill
  rintro _ rfl
  have h1 := h.f
  have e : qRefill q = upd (upd q 5 (q 5 + 60 * q 2)) 6 (q 6 + q 3) := if_neg h5
  rw [e] at hk
  refine ⟨2, ?_⟩
  show wX1_refill_2b _ x v 0 Z K
  unfold wX1_refill_2b
  refine br_f (by decide) (br_f (by rw [h1 5 (by decide)]; exact Int32.not_lt.mpr hL) ?_)
  rintro _ rfl _ rfl _ rfl
  show wX1_refill_2b _ x v (0 + 1) _ K
  unfold wX1_refill_2b
  refine br_f (by decide) (br_t (by simp [zU_ap, h1]; exact hP) ?_)
  refine hk _ (h.of (fun k hk => ?_) ?_ ?_ ?_ ?_ ?_ ?_) ((sFr.u _ _).tr (sFr.u _ _))
  · simp [zU_ap, upd_ap, h1, hk]
  · simp [zU_ap, upd_ap, h.h]
  · simpa [zU_ap, upd_ap] using h.2
  · funext i; simp [zU_ap]
  · funext i; simp [zU_ap]
  · simp [upd_ap]
  · intro i hi; simp [upd20, upd30]
theorem c_refill {K : zS → Prop} (h : sRel v q Z) (hx : zKi (q 0)) (hL : q 5 ≤ 0) (hP : 0 < q 5 + 60 * q 2) (hk : ∀ Z', sRel v (qRefill q) Z' → sFr v Z Z' → K Z') : d_refill (Z v 0) v Z K := by
  rw [h.f 0 (by decide)]
  refine ⟨hx, fun e => ?_, fun e => ?_, fun e => ?_, fun e => ?_, fun e => ?_, fun e => ?_⟩
  · exact c_refill1 h (by rw [e]; decide) hL hP hk
  · exact c_refill1 h (by rw [e]; decide) hL hP hk
  · exact c_refill4 h (Or.inl e) hk
  · exact c_refill1 h (by rw [e]; decide) hL hP hk
  · exact c_refill1 h (by rw [e]; decide) hL hP hk
  · exact c_refill4 h (Or.inr e) hk
theorem c_pays0 {x load : Int32} {K : Int32 → zS → Prop} (h : sRel v q Z) (hk : K (qGreedy load q) Z) : wX0_pays x v load Z K := by
  unfold wX0_pays
  rw [h.f 4 (by decide)]
  have e : (if 60 < (if load < q 4 then q 4 else load) then (60 : Int32) else (if load < q 4 then q 4 else load)) = qGreedy load q := by
    show (if 60 < qMax load q then (60 : Int32) else qMax load q) = _
    unfold qGreedy
    by_cases a : 60 < qMax load q
    · rw [if_pos a, if_neg (Int32.not_lt.mpr (Int32.le_of_lt a))]
    · rw [if_neg a]
      by_cases b : qMax load q < 60
      · rw [if_pos b]
      · rw [if_neg b]; exact Int32.le_antisymm (Int32.not_lt.mp a) (Int32.not_lt.mp b)
  rw [e]
  exact hk
theorem qPays_0 {load : Int32} (e : q 0 = 0) : qPays load q = 60 := by unfold qPays; rw [e, if_neg (by decide), if_neg (by decide), if_neg (by decide)]
theorem qPays_1 {load : Int32} (e : q 0 = 1) : qPays load q = qGreedy load q := by unfold qPays; rw [if_pos e]
theorem qPays_2 {load : Int32} (e : q 0 = 2) : qPays load q = 60 := by unfold qPays; rw [e, if_neg (by decide), if_neg (by decide), if_neg (by decide)]
theorem qPays_3 {load : Int32} (e : q 0 = 3) : qPays load q = if qGreedy load q - q 1 < q 4 then q 4 else qGreedy load q - q 1 := by unfold qPays; rw [if_neg (by rw [e]; decide), if_pos e]
theorem qPays_4 {load : Int32} (e : q 0 = 4) : qPays load q = (60 + qGreedy load q) / 2 := by unfold qPays; rw [if_neg (by rw [e]; decide), if_neg (by rw [e]; decide), if_pos e]
theorem qPays_5 {load : Int32} (e : q 0 = 5) : qPays load q = 60 := by unfold qPays; rw [e, if_neg (by decide), if_neg (by decide), if_neg (by decide)]
theorem c_pays {load : Int32} {K : Int32 → zS → Prop} (h : sRel v q Z) (hx : zKi (q 0)) (hk : K (qPays load q) Z) : d_pays (Z v 0) v load Z K := by
  rw [h.f 0 (by decide)]
  refine ⟨hx, fun e => ?_, fun e => ?_, fun e => ?_, fun e => ?_, fun e => ?_, fun e => ?_⟩
  · rw [qPays_0 e] at hk; exact hk
  · rw [qPays_1 e] at hk; exact c_pays0 h hk
  · rw [qPays_2 e] at hk; exact hk
  · rw [qPays_3 e] at hk
    refine ⟨hx, c_pays0 h ?_⟩
    rw [h.f 1 (by decide), h.f 4 (by decide)]
    exact hk
  · rw [qPays_4 e] at hk
    exact ⟨hx, c_pays0 h ⟨by decide, hk⟩⟩
  · rw [qPays_5 e] at hk; exact hk
end PC
