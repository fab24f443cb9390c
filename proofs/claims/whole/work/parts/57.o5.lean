/-! FACE: bits, wide -/
section O5
variable {S Q P : zP} {Z Z0 Z' : zS} {K : Int64 → zS → Prop} {T : Nat}
def vQs (x2 : Int64) (s : Int64 × Int64) : Int64 × Int64 := if lg_cmp s.1 x2 < 0 then (s.1 * 2, s.2 * 2) else ((s.1 - x2) * 2, s.2 * 2 + 1)
def vQ (A x2 : Int64) : Nat → Int64 × Int64
  | 0 => (A, 0)
  | i + 1 => vQs x2 (vQ A x2 i)
def vRd (x9 x7 x2 : Int64) : Int64 := if 0 < lg_cmp x9 x2 then x7 + 1 else if lg_cmp x9 x2 = 0 then (if lg_cmp (x7 - x7 / 2 * 2) 1 = 0 then x7 + 1 else x7) else x7
def vRs (A x2 : Int64) (n : Nat) : Int64 := vRd (vQ A x2 (n + 1)).1 (vQ A x2 (n + 1)).2 x2
theorem least_up {a b : Nat} : ∀ k, a < 2 * (b * 2 ^ k) → ∃ e, e ≤ k ∧ a < 2 * (b * 2 ^ e) ∧ ∀ i, i < e → ¬ a < 2 * (b * 2 ^ i) := by
  intro k
  induction k with
  | zero => intro h; exact ⟨0, Nat.le_refl _, h, fun i hi => absurd hi (Nat.not_lt_zero _)⟩
  | succ k ih =>
    intro h
    by_cases c : a < 2 * (b * 2 ^ k)
    · obtain ⟨e, h1, h2, h3⟩ := ih c
      exact ⟨e, by omega, h2, h3⟩
    · by_cases d : ∃ i, i < k + 1 ∧ a < 2 * (b * 2 ^ i)
      · obtain ⟨i, hi, hi2⟩ := d
        have : 2 ^ i ≤ 2 ^ k := Nat.pow_le_pow_right (by decide) (by omega)
        have := Nat.mul_le_mul_left b this
        omega
      · exact ⟨k + 1, Nat.le_refl _, h, fun i hi x => d ⟨i, hi, x⟩⟩
theorem least_dn {a B : Nat} : ∀ k, ¬ a * 2 ^ k < B → ∃ f, f ≤ k ∧ ¬ a * 2 ^ f < B ∧ ∀ i, i < f → a * 2 ^ i < B := by
  intro k
  induction k with
  | zero => intro h; exact ⟨0, Nat.le_refl _, h, fun i hi => absurd hi (Nat.not_lt_zero _)⟩
  | succ k ih =>
    intro h
    by_cases c : a * 2 ^ k < B
    · by_cases d : ∃ i, i < k + 1 ∧ ¬ a * 2 ^ i < B
      · obtain ⟨i, hi, hi2⟩ := d
        have : 2 ^ i ≤ 2 ^ k := Nat.pow_le_pow_right (by decide) (by omega)
        have := Nat.mul_le_mul_left a this
        omega
      · exact ⟨k + 1, Nat.le_refl _, h, fun i hi => Classical.byContradiction (fun x => d ⟨i, hi, x⟩)⟩
    · obtain ⟨e, h1, h2, h3⟩ := ih c
      exact ⟨e, by omega, h2, h3⟩
theorem exps {a b : Nat} (a1 : 1 ≤ a) (a2 : a ≤ 1800) (b1 : 1 ≤ b) (b2 : b ≤ 60) : ∃ e f, e ≤ 11 ∧ f ≤ 6 ∧ (a < 2 * (b * 2 ^ e) ∧ ∀ i, i < e → ¬ a < 2 * (b * 2 ^ i)) ∧ (¬ a * 2 ^ f < b * 2 ^ e ∧ ∀ i, i < f → a * 2 ^ i < b * 2 ^ e) ∧ b * 2 ^ e < 2 ^ 20 ∧ ∀ i, i ≤ f → a * 2 ^ i < 2 ^ 20 := by
  obtain ⟨e, h1, h2, h3⟩ := least_up (a := a) (b := b) 11 (by omega)
  have hB : b * 2 ^ e ≤ 122880 := by
    have p : 2 ^ e ≤ 2 ^ 11 := Nat.pow_le_pow_right (by decide) h1
    have := Nat.mul_le_mul b2 p
    omega
  have hd : ¬ a * 2 ^ 6 < b * 2 ^ e := by
    rcases Nat.eq_zero_or_pos e with z | z
    · subst z; omega
    · have := h3 (e - 1) (by omega)
      have p : 2 ^ e = 2 ^ (e - 1) * 2 := by rw [← Nat.pow_succ]; congr 1; omega
      have q : b * 2 ^ e = 2 * (b * 2 ^ (e - 1)) := by rw [p, Nat.mul_comm 2, Nat.mul_assoc]
      omega
  obtain ⟨f, g1, g2, g3⟩ := least_dn (a := a) (B := b * 2 ^ e) 6 hd
  refine ⟨e, f, h1, g1, ⟨h2, h3⟩, ⟨g2, g3⟩, by omega, fun i hi => ?_⟩
  have p : 2 ^ i ≤ 2 ^ 6 := Nat.pow_le_pow_right (by decide) (by omega)
  have := Nat.mul_le_mul a2 p
  omega
theorem lI_lt {a b : Nat} (ha : a < 2 ^ 40) (hb : b < 2 ^ 40) : lg_cmp (lI a) (lI b) < 0 ↔ a < b := by
  rw [lg_cmp_lt, Int64.lt_iff_toInt_lt, lI_toInt (by omega), lI_toInt (by omega)]
  omega
theorem lI_ge {a b : Nat} (ha : a < 2 ^ 40) (hb : b < 2 ^ 40) : 0 ≤ lg_cmp (lI a) (lI b) ↔ ¬ a < b := by
  rw [lg_cmp_ge, Int64.le_iff_toInt_le, lI_toInt (by omega), lI_toInt (by omega)]
  omega
theorem lI_2 {a : Nat} (ha : a < 2 ^ 40) : lI a * 2 = lI (a * 2) := lI_mul (b := 2) (by omega) (by omega) (by decide)
theorem lI_2' {a : Nat} (ha : a < 2 ^ 40) : 2 * lI a = lI (2 * a) := lI_mul (a := 2) (by omega) (by decide) (by omega)
theorem z_up {x : Int32} (i : Nat) : x + nI i + 1 = x + nI (i + 1) := by rw [Int32.add_assoc, nI_1]
theorem z_dn {x : Int32} (i : Nat) : x - nI i + (-1) = x - nI (i + 1) := by
  rw [← nI_1, Int32.sub_eq_add_neg, Int32.sub_eq_add_neg, Int32.neg_add, Int32.sub_eq_add_neg, Int32.add_assoc]
theorem z_dn' {x : Int32} (i : Nat) : x - nI i - 1 = x - nI (i + 1) := by
  rw [← nI_1, Int32.sub_eq_add_neg, Int32.sub_eq_add_neg, Int32.sub_eq_add_neg, Int32.neg_add, Int32.sub_eq_add_neg, Int32.add_assoc]
theorem c_near {a b e f n : Nat} {x : Int32} (hn : n ≤ 52) (he : e ≤ 11) (hf : f ≤ 6) (hE : a < 2 * (b * 2 ^ e) ∧ ∀ i, i < e → ¬ a < 2 * (b * 2 ^ i)) (hF : ¬ a * 2 ^ f < b * 2 ^ e ∧ ∀ i, i < f → a * 2 ^ i < b * 2 ^ e) (hB : b * 2 ^ e < 2 ^ 20) (hA : ∀ i, i ≤ f → a * 2 ^ i < 2 ^ 20) (hk : K (((Int32.toInt64 (x + nI e - nI f - 1)) <<< (Int32.toInt64 (nI n) &&& 63)) + vRs (lI (a * 2 ^ f)) (lI (b * 2 ^ e)) n) Z) : wX11_nearestBits (lI a) (lI b) (nI n) x Z K := by
  have ha : a < 2 ^ 20 := by have := hA 0 (Nat.zero_le _); omega
  have bi : ∀ i, i ≤ e → b * 2 ^ i < 2 ^ 20 := fun i hi => by
    have p : 2 ^ i ≤ 2 ^ e := Nat.pow_le_pow_right (by decide) hi
    have := Nat.mul_le_mul_left b p
    omega
  have k158 : wX11_nearestBits_158 (lI a) (lI b) (nI n) x (x + nI e - nI f) (vRs (lI (a * 2 ^ f)) (lI (b * 2 ^ e)) n) Z K := hk
  have k70 : wX11_nearestBits_70 (lI a) (lI b) (nI n) x (lI (a * 2 ^ f)) (lI (b * 2 ^ e)) (x + nI e - nI f) Z K := by
    unfold wX11_nearestBits_70
    rintro _ rfl _ rfl
    refine pk_loop (σ := Int64 × Int64) (fun m i s => wX11_nearestBits_79 (lI a) (lI b) (nI n) x K m (lI (b * 2 ^ e)) (x + nI e - nI f) s.2 s.1 (nI i) Z) (fun i s => s = vQ (lI (a * 2 ^ f)) (lI (b * 2 ^ e)) i) (n + 1) 0 (lI (a * 2 ^ f), 0) (Nat.zero_le _) rfl ?_ ?_
    · rintro m ⟨u, v⟩ es
      have eu : u = (vQ (lI (a * 2 ^ f)) (lI (b * 2 ^ e)) (n + 1)).1 := congrArg Prod.fst es
      have ev : v = (vQ (lI (a * 2 ^ f)) (lI (b * 2 ^ e)) (n + 1)).2 := congrArg Prod.snd es
      have eR : vRs (lI (a * 2 ^ f)) (lI (b * 2 ^ e)) n = vRd u v (lI (b * 2 ^ e)) := by rw [eu, ev]; rfl
      rw [eR] at k158
      show wX11_nearestBits_79b _ (lI a) (lI b) (nI n) x (lI (b * 2 ^ e)) (x + nI e - nI f) v u (nI (n + 1)) Z K
      unfold wX11_nearestBits_79b wX11_nearestBits_152
      unfold vRd at k158
      refine br_t (nI_lt (by omega) (by omega)) (br_c (fun c => ?_) (fun c => br_c (fun d => ?_) (fun d => ⟨by decide, br_c (fun g => ?_) (fun g => ?_)⟩)))
      · rintro _ rfl
        rw [if_pos c] at k158; exact k158
      · rw [if_neg c, if_neg d] at k158; exact k158
      · rw [if_neg c, if_pos (Classical.not_not.mp d), if_neg g] at k158; exact k158
      · rintro _ rfl
        rw [if_neg c, if_pos (Classical.not_not.mp d), if_pos (Classical.not_not.mp g)] at k158; exact k158
    · rintro m i ⟨u, v⟩ hi es ih
      show wX11_nearestBits_79b (fun x2 x6 x7 x9 x11 Z => wX11_nearestBits_79 (lI a) (lI b) (nI n) x K m x2 x6 x7 x9 x11 Z) (lI a) (lI b) (nI n) x (lI (b * 2 ^ e)) (x + nI e - nI f) v u (nI i) Z K
      have eN : vQ (lI (a * 2 ^ f)) (lI (b * 2 ^ e)) (i + 1) = vQs (lI (b * 2 ^ e)) (u, v) := by
        have es : (u, v) = vQ (lI (a * 2 ^ f)) (lI (b * 2 ^ e)) i := es
        rw [es]; rfl
      have ih : ∀ s', s' = vQs (lI (b * 2 ^ e)) (u, v) → wX11_nearestBits_79 (lI a) (lI b) (nI n) x K m (lI (b * 2 ^ e)) (x + nI e - nI f) s'.2 s'.1 (nI (i + 1)) Z := fun s' e' => ih s' (e'.trans eN.symm)
      unfold vQs at ih
      unfold wX11_nearestBits_79b wX11_nearestBits_113
      refine br_f (nI_nlt (by omega) (by omega)) ?_
      rintro _ rfl
      refine br_c (fun c => ?_) (fun c => ?_)
      · rintro _ rfl _ rfl
        rw [nI_1]
        exact ih (u * 2, v * 2) (if_pos c).symm
      · rintro _ rfl _ rfl _ rfl _ rfl
        rw [nI_1]
        exact ih ((u - lI (b * 2 ^ e)) * 2, v * 2 + 1) (if_neg c).symm
  have k39 : wX11_nearestBits_39 (lI a) (lI b) (nI n) x (lI a) (lI (b * 2 ^ e)) (x + nI e) Z K := by
    unfold wX11_nearestBits_39
    rintro _ rfl
    refine pk_loop (σ := Unit) (fun m i _ => wX11_nearestBits_42 (lI a) (lI b) (nI n) x K m (lI (a * 2 ^ i)) (lI (b * 2 ^ e)) (x + nI e - nI i) (nI i) Z) (fun i _ => True) f 0 () (Nat.zero_le _) trivial ?_ ?_ |> fun z => ?_
    · rw [Nat.pow_zero, Nat.mul_one, show nI 0 = 0 from rfl, Int32.sub_zero] at z
      exact z
    · rintro m - -
      show wX11_nearestBits_42b _ (lI a) (lI b) (nI n) x (lI (a * 2 ^ f)) (lI (b * 2 ^ e)) (x + nI e - nI f) (nI f) Z K
      unfold wX11_nearestBits_42b
      exact br_f (nI_ge (b := 32) (by omega) (by decide)) (br_t ((lI_ge (by have := hA f (Nat.le_refl _); omega) (by omega)).mpr hF.1) k70)
    · rintro m i - hi - ih
      show wX11_nearestBits_42b (fun x0 x2 x6 x7 Z => wX11_nearestBits_42 (lI a) (lI b) (nI n) x K m x0 x2 x6 x7 Z) (lI a) (lI b) (nI n) x (lI (a * 2 ^ i)) (lI (b * 2 ^ e)) (x + nI e - nI i) (nI i) Z K
      unfold wX11_nearestBits_42b
      have hAi := hA i (by omega)
      refine br_f (nI_ge (b := 32) (by omega) (by decide)) (br_f (fun z => (lI_ge (by omega) (by omega)).mp z (hF.2 i hi)) ?_)
      rintro _ rfl _ rfl _ rfl
      rw [lI_2 (by omega), z_dn, nI_1, Nat.mul_assoc, ← Nat.pow_succ]
      exact ih () trivial
  unfold wX11_nearestBits
  rintro _ rfl
  refine pk_loop (σ := Unit) (fun m i _ => wX11_nearestBits_7 (lI a) (lI b) (nI n) x K m (lI a) (lI (b * 2 ^ i)) (x + nI i) (nI i) Z) (fun i _ => True) e 0 () (Nat.zero_le _) trivial ?_ ?_ |> fun z => ?_
  · rw [Nat.pow_zero, Nat.mul_one, show nI 0 = 0 from rfl, Int32.add_zero] at z
    exact z
  · rintro m - -
    show wX11_nearestBits_7b _ (lI a) (lI b) (nI n) x (lI a) (lI (b * 2 ^ e)) (x + nI e) (nI e) Z K
    unfold wX11_nearestBits_7b
    rw [lI_2' (by omega)]
    exact br_f (nI_ge (b := 32) (by omega) (by decide)) (br_t ((lI_lt (by omega) (by omega)).mpr hE.1) k39)
  · rintro m i - hi - ih
    show wX11_nearestBits_7b (fun x0 x2 x6 x7 Z => wX11_nearestBits_7 (lI a) (lI b) (nI n) x K m x0 x2 x6 x7 Z) (lI a) (lI b) (nI n) x (lI a) (lI (b * 2 ^ i)) (x + nI i) (nI i) Z K
    unfold wX11_nearestBits_7b
    have hBi := bi i (by omega)
    rw [lI_2' (by omega)]
    refine br_f (nI_ge (b := 32) (by omega) (by decide)) (br_f (fun z => hE.2 i hi ((lI_lt (by omega) (by omega)).mp z)) ?_)
    rintro _ rfl _ rfl _ rfl
    rw [lI_2 (by omega), z_up, nI_1, Nat.mul_assoc, ← Nat.pow_succ]
    exact ih () trivial
end O5
