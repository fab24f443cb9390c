/-! FACE: share: least terms -/
section O2
variable {S Q P : zP} {Z Z0 Z' : zS} {K : Int64 → zS → Prop}
def lI (n : Nat) : Int64 := Int64.ofNat n
theorem lI_toInt {n : Nat} (h : n < 2 ^ 62) : (lI n).toInt = (n : Int) := Int64.toInt_ofNat_of_lt (by omega)
theorem lI_nI {n : Nat} (h : n < 2 ^ 31) : Int32.toInt64 (nI n) = lI n := by
  refine Int64.toInt_inj.mp ?_
  rw [Int32.toInt_toInt64, nI_toInt h, lI_toInt (by omega)]
theorem lI_eq {a b : Nat} (ha : a < 2 ^ 62) (hb : b < 2 ^ 62) : lI a = lI b ↔ a = b := by
  refine ⟨fun e => ?_, fun e => by rw [e]⟩
  have := congrArg Int64.toInt e
  rw [lI_toInt ha, lI_toInt hb] at this
  omega
theorem ladd {a b : Int64} (h1 : -9223372036854775808 ≤ a.toInt + b.toInt) (h2 : a.toInt + b.toInt ≤ 9223372036854775807) : (a + b).toInt = a.toInt + b.toInt := by
  rw [Int64.toInt_add]; exact Int.bmod_eq_of_le (by omega) (by omega)
theorem lsub {a b : Int64} (h1 : -9223372036854775808 ≤ a.toInt - b.toInt) (h2 : a.toInt - b.toInt ≤ 9223372036854775807) : (a - b).toInt = a.toInt - b.toInt := by
  rw [Int64.toInt_sub]; exact Int.bmod_eq_of_le (by omega) (by omega)
theorem lmul {a b : Int64} (h1 : -9223372036854775808 ≤ a.toInt * b.toInt) (h2 : a.toInt * b.toInt ≤ 9223372036854775807) : (a * b).toInt = a.toInt * b.toInt := by
  rw [Int64.toInt_mul]; exact Int.bmod_eq_of_le (by omega) (by omega)
theorem lI_div {u v : Nat} (hu : u < 2 ^ 62) (hv : v < 2 ^ 62) (h0 : 0 < v) : lI u / lI v = lI (u / v) := by
  have tu := lI_toInt hu
  have tv := lI_toInt hv
  have q : u / v ≤ u := Nat.div_le_self u v
  refine Int64.toInt_inj.mp ?_
  rw [lg_ldiv_nonneg (by omega) (by omega), tu, tv, lI_toInt (n := u / v) (by omega)]
  exact (Int.natCast_ediv u v).symm
theorem lI_mod {u v : Nat} (hu : u < 2 ^ 62) (hv : v < 2 ^ 62) (h0 : 0 < v) : lI u - lI u / lI v * lI v = lI (u % v) := by
  have tu := lI_toInt hu
  have tv := lI_toInt hv
  have q : u / v ≤ u := Nat.div_le_self u v
  have qv : u / v * v ≤ u := Nat.div_mul_le_self u v
  have tq := lI_toInt (n := u / v) (by omega)
  have e : v * (u / v) + u % v = u := Nat.div_add_mod u v
  have c : v * (u / v) = u / v * v := Nat.mul_comm _ _
  have m : ((u / v : Nat) : Int) * (v : Int) = ((u / v * v : Nat) : Int) := (Int.natCast_mul _ _).symm
  have em : (lI (u / v) * lI v).toInt = ((u / v * v : Nat) : Int) := by
    rw [lmul (by rw [tq, tv, m]; omega) (by rw [tq, tv, m]; omega), tq, tv, m]
  refine Int64.toInt_inj.mp ?_
  rw [lI_div hu hv h0, lsub (by rw [tu, em]; omega) (by rw [tu, em]; omega), tu, em, lI_toInt (n := u % v) (by omega)]
  omega
def vPart (a b : Nat) (x : Int32) : Int64 := if x = 0 then lI (a / Nat.gcd a b) else lI (b / Nat.gcd a b)
theorem br_gcd {u v : Nat} : Nat.gcd v (u % v) = Nat.gcd u v := by
  rw [Nat.gcd_comm v, ← Nat.gcd_rec, Nat.gcd_comm]
theorem c_least_loop {a b : Nat} {x : Int32} (ha : a < 2 ^ 40) (hb : b < 2 ^ 40) (h0 : 0 < b) (hk : K (vPart a b x) Z) : ∀ k, ∀ u v i : Nat, v < 2 ^ k → u < 2 ^ 40 → 0 < u ∨ 0 < v → k < 41 → i + 2 * k ≤ 99 → Nat.gcd u v = Nat.gcd a b → ∃ n, wX11_inLeastTerms_9 (lI a) (lI b) x K n (lI u) (lI v) (nI i) Z := by
  have hg : 0 < Nat.gcd a b := Nat.gcd_pos_of_pos_right a h0
  have hgb : Nat.gcd a b ≤ b := Nat.gcd_le_right a h0
  have fin : ∀ u, u = Nat.gcd a b → wX11_inLeastTerms_44 (lI a) (lI b) x (lI u) Z K := by
    rintro u rfl
    have ne : ¬ lI (Nat.gcd a b) = 0 := fun e => by
      have := (lI_eq (a := Nat.gcd a b) (b := 0) (by omega) (by decide)).mp e
      omega
    unfold wX11_inLeastTerms_44 wX11_inLeastTerms_54
    unfold vPart at hk
    refine br_c (fun c => br_t (fun z => ne ((lg_cmp_eq _ _).mp z)) ⟨ne, ?_⟩) (fun c => br_t (fun z => ne ((lg_cmp_eq _ _).mp z)) ⟨ne, ?_⟩)
    · rw [lI_div (by omega) (by omega) hg]
      rw [if_neg c] at hk; exact hk
    · rw [lI_div (by omega) (by omega) hg]
      rw [if_pos (Classical.not_not.mp c)] at hk; exact hk
  have zero : ∀ u i, i ≤ 99 → u = Nat.gcd a b → ∃ n, wX11_inLeastTerms_9 (lI a) (lI b) x K n (lI u) (lI 0) (nI i) Z := by
    intro u i hi e
    refine ⟨1, ?_⟩
    show wX11_inLeastTerms_9b _ (lI a) (lI b) x (lI u) (lI 0) (nI i) Z K
    unfold wX11_inLeastTerms_9b
    exact br_f (nI_ge (b := 100) (by omega) (by decide)) (br_t ((lg_cmp_eq _ _).mpr rfl) (fin u e))
  have step : ∀ u v i, u < 2 ^ 40 → v < 2 ^ 40 → 0 < v → i ≤ 98 → (∃ n, wX11_inLeastTerms_9 (lI a) (lI b) x K n (lI v) (lI (u % v)) (nI (i + 1)) Z) → ∃ n, wX11_inLeastTerms_9 (lI a) (lI b) x K n (lI u) (lI v) (nI i) Z := by
    rintro u v i hu hv h0 hi ⟨n, hn⟩
    refine ⟨n + 1, ?_⟩
    show wX11_inLeastTerms_9b (fun x5 x7 x9 Z => wX11_inLeastTerms_9 (lI a) (lI b) x K n x5 x7 x9 Z) (lI a) (lI b) x (lI u) (lI v) (nI i) Z K
    unfold wX11_inLeastTerms_9b
    have ne : ¬ lI v = 0 := fun e => by
      have := (lI_eq (a := v) (b := 0) (by omega) (by decide)).mp e
      omega
    refine br_f (nI_ge (b := 100) (by omega) (by decide)) (br_f (fun z => ne ((lg_cmp_eq _ _).mp z)) ⟨ne, ?_⟩)
    rintro _ rfl _ rfl
    rw [lI_mod (by omega) (by omega) h0, nI_1]
    exact hn
  intro k
  induction k with
  | zero =>
    intro u v i hv hu _ _ hi e
    have v0 : v = 0 := by omega
    subst v0
    exact zero u i (by omega) (by rw [← e, Nat.gcd_zero_right])
  | succ k ih =>
    intro u v i hv hu hp hk hi e
    rcases Nat.eq_zero_or_pos v with z | z
    · subst z
      exact zero u i (by omega) (by rw [← e, Nat.gcd_zero_right])
    have v40 : v < 2 ^ 40 := Nat.lt_of_lt_of_le hv (Nat.pow_le_pow_right (by decide) (by omega))
    refine step u v i hu v40 z (by omega) ?_
    have r : u % v < v := Nat.mod_lt u z
    have e1 : Nat.gcd v (u % v) = Nat.gcd a b := br_gcd.trans e
    rcases Nat.eq_zero_or_pos (u % v) with y | y
    · rw [y] at e1 ⊢
      exact zero v (i + 1) (by omega) (by rw [← e1, Nat.gcd_zero_right])
    refine step v (u % v) (i + 1) v40 (by omega) y (by omega) ?_
    have s : v % (u % v) < u % v := Nat.mod_lt v y
    have s2 : v % (u % v) + (u % v) ≤ v := by
      have d := Nat.div_add_mod v (u % v)
      have p : 1 ≤ v / (u % v) := (Nat.one_le_div_iff y).mpr (by omega)
      have m : u % v * 1 ≤ u % v * (v / (u % v)) := Nat.mul_le_mul_left _ p
      omega
    have pw : 2 ^ (k + 1) = 2 ^ k * 2 := Nat.pow_succ 2 k
    exact ih (u % v) (v % (u % v)) (i + 1 + 1) (by omega) (by omega) (Or.inl y) (by omega) (by omega) (br_gcd.trans e1)
theorem c_least {a b : Nat} {x : Int32} (ha : a < 2 ^ 40) (hb : b < 2 ^ 40) (h0 : 0 < b) (hk : K (vPart a b x) Z) : wX11_inLeastTerms (lI a) (lI b) x Z K := by
  unfold wX11_inLeastTerms
  rintro _ rfl
  exact c_least_loop ha hb h0 hk 40 b a 0 ha hb (Or.inl h0) (by decide) (by decide) (Nat.gcd_comm b a)
theorem r_part {a b : Nat} {x : Int32} (ha : a < 2 ^ 40) (hb : b < 2 ^ 40) (h0 : 0 < b) (hk : K (vPart a b x) Z) : wX12_part (lI a) (lI b) x Z K := by
  have hg : 0 < Nat.gcd a b := Nat.gcd_pos_of_pos_right a h0
  have hgb : Nat.gcd a b ≤ b := Nat.gcd_le_right a h0
  have zero : ∀ u, u = Nat.gcd a b → ∃ n, wX12_part_6 (lI a) (lI b) x K n (lI u) (lI 0) Z := by
    rintro u rfl
    refine ⟨1, ?_⟩
    show wX12_part_6b _ (lI a) (lI b) x (lI (Nat.gcd a b)) (lI 0) Z K
    unfold wX12_part_6b
    have ne : ¬ lI (Nat.gcd a b) = 0 := fun e => by
      have := (lI_eq (a := Nat.gcd a b) (b := 0) (by omega) (by decide)).mp e
      omega
    unfold vPart at hk
    refine br_t ((lg_cmp_eq _ _).mpr rfl) (br_c (fun c => ⟨ne, ?_⟩) (fun c => ⟨ne, ?_⟩))
    · rw [lI_div (by omega) (by omega) hg]
      rw [if_neg c] at hk; exact hk
    · rw [lI_div (by omega) (by omega) hg]
      rw [if_pos (Classical.not_not.mp c)] at hk; exact hk
  have loop : ∀ m, ∀ u v, v ≤ m → u < 2 ^ 40 → v < 2 ^ 40 → Nat.gcd u v = Nat.gcd a b → ∃ n, wX12_part_6 (lI a) (lI b) x K n (lI u) (lI v) Z := by
    intro m
    induction m with
    | zero =>
      intro u v hv _ _ e
      have v0 : v = 0 := Nat.le_zero.mp hv
      subst v0
      exact zero u (by rw [← e, Nat.gcd_zero_right])
    | succ m ih =>
      intro u v hv hu hv2 e
      rcases Nat.eq_zero_or_pos v with z | z
      · subst z
        exact zero u (by rw [← e, Nat.gcd_zero_right])
      have r : u % v < v := Nat.mod_lt u z
      obtain ⟨n, hn⟩ := ih v (u % v) (by omega) hv2 (by omega) (br_gcd.trans e)
      refine ⟨n + 1, ?_⟩
      show wX12_part_6b (fun x5 x7 Z => wX12_part_6 (lI a) (lI b) x K n x5 x7 Z) (lI a) (lI b) x (lI u) (lI v) Z K
      unfold wX12_part_6b
      have ne : ¬ lI v = 0 := fun e => by
        have := (lI_eq (a := v) (b := 0) (by omega) (by decide)).mp e
        omega
      refine br_f (fun z => ne ((lg_cmp_eq _ _).mp z)) ⟨ne, ?_⟩
      rintro _ rfl
      rw [lI_mod (by omega) (by omega) z]
      exact hn
  exact loop b a b (Nat.le_refl _) ha hb rfl
end O2
