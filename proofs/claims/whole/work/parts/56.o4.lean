/-! FACE: breaks -/
section O4
variable {S Q P : zP} {Z Z0 Z' : zS} {K : Int64 → zS → Prop} {M : zS → Prop} {T : Nat}
def vBit (x k : Nat) : Int32 := if ((nI x >>> (nI k &&& 31) : Int32) &&& (1 : Int32)) = 1 then 1 else 0
def vZc (x : Nat) : Nat → Nat
  | 0 => 0
  | k + 1 => if vBit x k = 0 then vZc x k + 1 else vZc x k
def vB1 (a : Int32) : Int32 := a - ((a.toUInt32 >>> (Int32.toUInt32 1 &&& Int32.toUInt32 31)).toInt32 &&& (1431655765 : Int32))
def vB2 (y : Int32) : Int32 := (y &&& 858993459) + ((y.toUInt32 >>> (Int32.toUInt32 2 &&& Int32.toUInt32 31)).toInt32 &&& (858993459 : Int32))
def vB3 (y : Int32) : Int32 := (y + (y.toUInt32 >>> (Int32.toUInt32 4 &&& Int32.toUInt32 31)).toInt32) &&& (252645135 : Int32)
def vB4 (y : Int32) : Int32 := y + (y.toUInt32 >>> (Int32.toUInt32 8 &&& Int32.toUInt32 31)).toInt32
def vB5 (y : Int32) : Int32 := y + (y.toUInt32 >>> (Int32.toUInt32 16 &&& Int32.toUInt32 31)).toInt32
def vBc (a : Int32) : Int32 := vB5 (vB4 (vB3 (vB2 (vB1 a)))) &&& 63
theorem vBc_zc : ∀ n, n < 8 → ∀ x, x < 2 ^ n → nI n - vBc (nI x) = nI (vZc x n) := by decide +kernel
theorem z1_shl : ∀ n, n < 8 → (1 <<< (nI n &&& 31) : Int32) = nI (2 ^ n) := by decide +kernel
theorem vZc_le (x k : Nat) : vZc x k ≤ k := by
  induction k with
  | zero => exact Nat.le_refl _
  | succ k ih =>
    show (if vBit x k = 0 then vZc x k + 1 else vZc x k) ≤ k + 1
    split <;> omega
theorem pow_b {m e : Nat} (hm : m ≤ 20) (he : e ≤ 7) : m ^ e ≤ 1280000000 := by
  have a : m ^ e ≤ 20 ^ e := Nat.pow_le_pow_left hm e
  have b : 20 ^ e ≤ 20 ^ 7 := Nat.pow_le_pow_right (by decide) he
  have c : 20 ^ 7 = 1280000000 := by decide
  omega
theorem lI_mul {a b : Nat} (h : a * b < 2 ^ 62) (ha : a < 2 ^ 62) (hb : b < 2 ^ 62) : lI a * lI b = lI (a * b) := by
  have ta := lI_toInt ha
  have tb := lI_toInt hb
  have m : (a : Int) * (b : Int) = ((a * b : Nat) : Int) := (Int.natCast_mul _ _).symm
  refine Int64.toInt_inj.mp ?_
  rw [lmul (by rw [ta, tb, m]; omega) (by rw [ta, tb, m]; omega), ta, tb, m, lI_toInt h]
theorem lI_add {a b : Nat} (h : a + b < 2 ^ 62) : lI a + lI b = lI (a + b) := by
  have ta := lI_toInt (n := a) (by omega)
  have tb := lI_toInt (n := b) (by omega)
  refine Int64.toInt_inj.mp ?_
  rw [ladd (by rw [ta, tb]; omega) (by rw [ta, tb]; omega), ta, tb, lI_toInt h]
  omega
theorem lI_pow {m e : Nat} (hm : m ≤ 20) (he : e + 1 ≤ 7) : lI (m ^ e) * lI m = lI (m ^ (e + 1)) := by
  have b1 := pow_b (m := m) (e := e) hm (by omega)
  have b2 := pow_b (m := m) (e := e + 1) hm he
  have e2 : m ^ (e + 1) = m ^ e * m := Nat.pow_succ m e
  rw [lI_mul (by rw [← e2]; omega) (by omega) (by omega), e2]
theorem c_power {m e : Nat} (hm : m ≤ 20) (he : e ≤ 7) (hk : K (lI (m ^ e)) Z) : wX11_power (nI m) (nI e) Z K := by
  unfold wX11_power
  rintro _ rfl _ rfl
  refine pk_loop (σ := Int64) (fun n i x => wX11_power_5 (nI m) (nI e) K n x (nI i) Z) (fun i x => x = lI (m ^ i)) e 0 1 (Nat.zero_le _) rfl ?_ ?_
  · rintro n x rfl
    show wX11_power_5b _ (nI m) (nI e) _ (nI e) Z K
    unfold wX11_power_5b
    exact br_t (Int32.le_refl _) hk
  · rintro n i x hi rfl ih
    show wX11_power_5b (fun x2 x4 Z => wX11_power_5 (nI m) (nI e) K n x2 x4 Z) (nI m) (nI e) _ (nI i) Z K
    unfold wX11_power_5b
    refine br_f (nI_ge hi (by omega)) ?_
    have b1 := pow_b (m := m) (e := i) hm (by omega)
    have b2 := pow_b (m := m) (e := i + 1) hm (by omega)
    rintro _ rfl _ rfl
    rw [nI_1, lI_nI (by omega), lI_pow (by omega) (by omega)]
    exact ih _ rfl
def pBr (S : zP) (x : Nat) : Nat → zP
  | 0 => S
  | k + 1 => pGo (vBit x k) (pBr S x k)
theorem pBr_1 (x k : Nat) : (pBr S x k).1 = S.1 := by
  induction k with
  | zero => rfl
  | succ k ih => exact (pGo_1 (S := pBr S x k) (vBit x k)).1.trans ih
theorem wfP.br {x : Nat} (w : wfP 9999 S) : ∀ k, k ≤ 7 → wfP (9999 + k) (pBr S x k) := by
  intro k
  induction k with
  | zero => intro _; exact w
  | succ k ih => intro hk; exact (ih (by omega)).go (by omega) (vBit x k)
theorem br_late {x j : Nat} (w : wfP 9999 S) (hj : j < S.1) (k n : Nat) (hkn : k ≤ n) (hn : n ≤ 7) : ((pBr S x k).2.2 j 8).toInt ≤ ((pBr S x n).2.2 j 8).toInt := by
  induction n with
  | zero => rw [show k = 0 by omega]; exact Int.le_refl _
  | succ n ih =>
    by_cases e : k = n + 1
    · rw [e]; exact Int.le_refl _
    · exact Int.le_trans (ih (by omega) (by omega)) (late_go (w.br n (by omega)) (vBit x n) (by rw [pBr_1]; exact hj))
def vBrk (S : zP) (j n m x : Nat) : Nat := if (S.2.2 j 8).toInt < ((pBr S x n).2.2 j 8).toInt then m ^ vZc x n else 0
def vTot (S : zP) (j n m : Nat) : Nat → Nat
  | 0 => 0
  | x + 1 => vTot S j n m x + vBrk S j n m x
theorem vTot_b {j n m : Nat} (hm : m ≤ 20) (hn : n ≤ 7) : ∀ x, x ≤ 128 → vTot S j n m x ≤ 1280000000 * x := by
  intro x
  induction x with
  | zero => intro _; exact Nat.le_refl _
  | succ x ih =>
    intro hx
    have a := ih (by omega)
    have b : vBrk S j n m x ≤ 1280000000 := by
      unfold vBrk
      split
      · exact pow_b hm (Nat.le_trans (vZc_le x n) hn)
      · omega
    show vTot S j n m x + vBrk S j n m x ≤ _
    omega
theorem c_lateBr {j n x : Nat} {K : Int32 → zS → Prop} (hw : wfP 9999 S) (hj : j < S.1) (hn : n ≤ 7) (c0 : cRel 0 S Z) (f0 : kFr Z0 Z) (h1 : (S.2.2 j 8).toInt < ((pBr S x n).2.2 j 8).toInt → ∀ Z', cRel 0 S Z' → kFr Z0 Z' → K 1 Z') (h0 : ¬ (S.2.2 j 8).toInt < ((pBr S x n).2.2 j 8).toInt → ∀ Z', cRel 0 S Z' → kFr Z0 Z' → K 0 Z') : wX11_isLateWithBreaks (nI j) (nI n) (nI x) Z K := by
  have hN := hw.1
  have l8 : ∀ k, k ≤ 7 → zin ((pBr S x k).2.2 j 8) 0 999 := fun k hk => ((hw.br k hk).2.2 j (by rw [pBr_1]; exact hj)).late
  have s8 := (hw.2.2 j hj).late
  unfold wX11_isLateWithBreaks
  refine cT_becomes hw c0 f0 (fun Z1 t1 => ?_)
  rintro _ rfl
  refine pk_loop (σ := zS) (fun m i Y => wX11_isLateWithBreaks_14 (nI j) (nI n) (nI x) K m (nI i) Y) (fun i Y => cT S (pBr S x i) Z0 Y ∧ ¬ (S.2.2 j 8).toInt < ((pBr S x i).2.2 j 8).toInt) n 0 Z1 (Nat.zero_le _) ⟨t1, Int.lt_irrefl _⟩ ?_ ?_
  · rintro m Y ⟨t, y⟩
    show wX11_isLateWithBreaks_14b _ (nI j) (nI n) (nI x) (nI n) Y K
    unfold wX11_isLateWithBreaks_14b
    exact br_t (Int32.le_refl _) (h0 y Y t.2.1 t.2.2)
  · rintro m i Y hi ⟨t, y⟩ ih
    show wX11_isLateWithBreaks_14b (fun x4 Z => wX11_isLateWithBreaks_14 (nI j) (nI n) (nI x) K m x4 Z) (nI j) (nI n) (nI x) (nI i) Y K
    unfold wX11_isLateWithBreaks_14b
    have k39 : ∀ s0, s0 = vBit x i → wX11_isLateWithBreaks_39 (fun x4 Z => wX11_isLateWithBreaks_14 (nI j) (nI n) (nI x) K m x4 Z) (nI j) (nI n) (nI x) (nI i) s0 Y K := by
      rintro s0 rfl
      unfold wX11_isLateWithBreaks_39
      refine cT_go hN (by omega) (hw.br i (by omega)) t (fun Z5 t5 _ _ => ?_)
      have t5 : cT S (pBr S x (i + 1)) Z0 Z5 := t5
      have v := vLate_i (S := S) (P := pBr S x (i + 1)) (l8 (i + 1) (by omega)) s8
      refine c_lateMore hN (pBr_1 x (i + 1)) hj t5 (br_c (fun c => ?_) (fun c => ?_))
      · rintro _ rfl
        rw [nI_1]
        exact ih Z5 ⟨t5, v.mp c⟩
      · have l : (S.2.2 j 8).toInt < ((pBr S x (i + 1)).2.2 j 8).toInt := Classical.byContradiction (fun z => c (v.mpr z))
        exact h1 (Int.lt_of_lt_of_le l (br_late hw hj (i + 1) n (by omega) hn)) Z5 t5.2.1 t5.2.2
    exact br_f (nI_ge hi (by omega)) (br_c (fun c => k39 _ (if_neg c).symm) (fun c => k39 _ (if_pos (Classical.not_not.mp c)).symm))
theorem m_breaks {a1 a2 a3 a4 : Int32} (h : zI S Q Z) : wX11_breaks a1 a2 a3 a4 Z (fun r Z1 => wX12_breaks a1 a2 a3 a4 Z1 (zDL r)) := by
  obtain ⟨hw, hc, hr, -⟩ := id h
  have hN := hw.1
  unfold wX11_breaks
  refine c_has hN hc (fun ha => br_f (by decide) ?_) (fun ha => ?_)
  · refine c_win (fun hb => br_f (by decide) ?_) (fun hb => ?_)
    · refine c_win (fun hd => br_f (by decide) ?_) (fun hd => ?_)
      · refine c_win (fun he => br_t (by decide) ?_) (fun he => br_f (fun x => x rfl) ?_)
        · obtain ⟨j, hj, rfl⟩ := id ha
          obtain ⟨n, -, hn, rfl⟩ := zW_n 0 7 rfl rfl (by decide) hb
          obtain ⟨o, ho2, ho, rfl⟩ := zW_n 2 20 rfl rfl (by decide) hd
          have hj6 : j < 6 := Nat.lt_of_lt_of_le hj hN
          have om : nI o - 1 = nI (o - 1) := nI_dec (by omega)
          obtain ⟨m, em⟩ : ∃ m, m = o - 1 := ⟨_, rfl⟩
          rw [← em] at om
          have hm : m ≤ 20 := by omega
          have p2 : 2 ^ n ≤ 128 := by
            have := Nat.pow_le_pow_right (n := 2) (by decide) hn
            exact this
          have hpo := pow_b (m := o) (e := n) ho hn
          have hp0 : 0 < o ^ n := Nat.pow_pos (by omega)
          have tb := vTot_b (S := S) (j := j) (m := m) hm hn
          have bb : ∀ x, vBrk S j n m x ≤ 1280000000 := by
            intro x
            unfold vBrk
            split
            · exact pow_b hm (Nat.le_trans (vZc_le x n) hn)
            · omega
          have ref : ∀ Z2, kFr Z Z2 → wX12_breaks (nI j) (nI n) (nI o) a4 Z2 (zDL (vPart (vTot S j n m (2 ^ n)) (o ^ n) a4)) := by
            intro Z2 f2
            have h2 := h.k f2
            unfold wX12_breaks
            refine r_has_t hN h2.2.2.1 ha (br_f (by decide) (r_win_t hb (br_f (by decide) (r_win_t hd (br_f (by decide) (r_win_t he (br_t (by decide) (rT_keep h2 (fun Z3 t3 => ?_)))))))))
            generalize eD : zDL (vPart (vTot S j n m (2 ^ n)) (o ^ n) a4) = D
            rintro _ rfl _ rfl _ rfl
            refine pk_loop (σ := Int64) (fun f i x => wX12_breaks_59 (nI j) (nI n) (nI o) a4 D f 0 x (nI i) Z3) (fun i x => x = lI (o ^ i)) n 0 1 (Nat.zero_le _) rfl ?_ ?_
            · rintro f x rfl
              show wX12_breaks_59b _ (nI j) (nI n) (nI o) a4 0 _ (nI n) Z3 D
              unfold wX12_breaks_59b
              refine br_t (Int32.le_refl _) ?_
              rintro _ rfl
              refine pk_loop (σ := Int64 × zS) (fun f i s => wX12_breaks_81 (nI j) (nI n) (nI o) a4 D f s.1 (lI (o ^ n)) (nI i) s.2) (fun i s => rT S S Z2 s.2 ∧ s.1 = lI (vTot S j n m i)) (2 ^ n) 0 (0, Z3) (Nat.zero_le _) ⟨t3, rfl⟩ ?_ ?_
              · rintro f ⟨x, Y⟩ ⟨t, e⟩
                have t : rT S S Z2 Y := t
                have e : x = lI (vTot S j n m (2 ^ n)) := e
                show wX12_breaks_81b _ (nI j) (nI n) (nI o) a4 x (lI (o ^ n)) (nI (2 ^ n)) Y D
                unfold wX12_breaks_81b
                rw [z1_shl n (by omega), e, ← eD]
                have := tb (2 ^ n) p2
                exact br_t (Int32.le_refl _) (r_part (by omega) (by omega) hp0 ⟨rfl, (t.I h2).inv⟩)
              · rintro f i ⟨x, Y⟩ hi ⟨t, e⟩ ih
                have t : rT S S Z2 Y := t
                have e : x = lI (vTot S j n m i) := e
                show wX12_breaks_81b (fun x5 x7 x9 Z => wX12_breaks_81 (nI j) (nI n) (nI o) a4 D f x5 x7 x9 Z) (nI j) (nI n) (nI o) a4 x (lI (o ^ n)) (nI i) Y D
                unfold wX12_breaks_81b
                rw [z1_shl n (by omega)]
                refine br_f (nI_ge hi (by omega)) ?_
                rintro _ rfl _ rfl
                refine pk_loop (σ := Int64 × zS) (fun g k s => wX12_breaks_95 (fun x5 x7 x9 Z => wX12_breaks_81 (nI j) (nI n) (nI o) a4 D f x5 x7 x9 Z) (nI j) (nI n) (nI o) a4 D g x (lI (o ^ n)) (nI i) s.1 (nI k) s.2) (fun k s => rT S (pBr S i k) Z2 s.2 ∧ s.1 = lI (m ^ vZc i k)) n 0 (1, Y) (Nat.zero_le _) ⟨t, rfl⟩ ?_ ?_
                · rintro g ⟨v, W⟩ ⟨t, ev⟩
                  have t : rT S (pBr S i n) Z2 W := t
                  have ev : v = lI (m ^ vZc i n) := ev
                  show wX12_breaks_95b _ _ (nI j) (nI n) (nI o) a4 x (lI (o ^ n)) (nI i) v (nI n) W D
                  unfold wX12_breaks_95b
                  refine br_t (Int32.le_refl _) ?_
                  have a8 : W 98 (48 + j) = (pBr S i n).2.2 j 8 := (t.2.1.2.2 j (by rw [pBr_1]; exact hj)).2.2.2.2.2.2.2.2.1
                  have b8 : W 102 (48 + j) = S.2.2 j 8 := (t.1.2.2 j hj).2.2.2.2.2.2.2.2.1
                  simp (disch := omega) only [zlit_add, nI_clamp, vp_in_nI, true_and]
                  rw [a8, b8]
                  have k173 : ∀ x', x' = lI (vTot S j n m (i + 1)) → wX12_breaks_173 (fun x5 x7 x9 Z => wX12_breaks_81 (nI j) (nI n) (nI o) a4 D f x5 x7 x9 Z) (nI j) (nI n) (nI o) a4 x' (lI (o ^ n)) (nI i) W D := by
                    intro x' e'
                    unfold wX12_breaks_173
                    refine rT_back hN t (fun Z' t' => ?_)
                    rintro _ rfl
                    rw [nI_1]
                    exact ih (x', Z') ⟨t', e'⟩
                  have eT : vTot S j n m (i + 1) = vTot S j n m i + vBrk S j n m i := rfl
                  refine br_c (fun c => k173 _ ?_) (fun c => ?_)
                  · have c := zle.mp c
                    have z : vBrk S j n m i = 0 := by unfold vBrk; rw [if_neg (by omega)]
                    rw [eT, z, e]; rfl
                  · have c : (S.2.2 j 8).toInt < ((pBr S i n).2.2 j 8).toInt := zlt.mp (Int32.not_le.mp c)
                    have z : vBrk S j n m i = m ^ vZc i n := by unfold vBrk; rw [if_pos c]
                    have b1 := tb i (by omega)
                    have b2 := bb i
                    rintro _ rfl
                    refine k173 _ ?_
                    rw [eT, e, ev, ← z, lI_add (by omega)]
                · rintro g k ⟨v, W⟩ hk ⟨t, ev⟩ ih'
                  have t : rT S (pBr S i k) Z2 W := t
                  have ev : v = lI (m ^ vZc i k) := ev
                  show wX12_breaks_95b (fun x5 x7 x9 Z => wX12_breaks_81 (nI j) (nI n) (nI o) a4 D f x5 x7 x9 Z) (fun x5 x7 x9 x10 x12 Z => wX12_breaks_95 (fun x5 x7 x9 Z => wX12_breaks_81 (nI j) (nI n) (nI o) a4 D f x5 x7 x9 Z) (nI j) (nI n) (nI o) a4 D g x5 x7 x9 x10 x12 Z) (nI j) (nI n) (nI o) a4 x (lI (o ^ n)) (nI i) v (nI k) W D
                  unfold wX12_breaks_95b
                  have k133 : ∀ v', v' = lI (m ^ vZc i (k + 1)) → wX12_breaks_133 (fun x5 x7 x9 Z => wX12_breaks_81 (nI j) (nI n) (nI o) a4 D f x5 x7 x9 Z) (fun x5 x7 x9 x10 x12 Z => wX12_breaks_95 (fun x5 x7 x9 Z => wX12_breaks_81 (nI j) (nI n) (nI o) a4 D f x5 x7 x9 Z) (nI j) (nI n) (nI o) a4 D g x5 x7 x9 x10 x12 Z) (nI j) (nI n) (nI o) a4 x (lI (o ^ n)) (nI i) v' (nI k) (vBit i k) W D := by
                    intro v' e'
                    unfold wX12_breaks_133
                    refine rT_go (by omega) (hw.br k (by omega)) t (fun Z5 t5 _ _ => ?_)
                    rintro _ rfl
                    rw [nI_1]
                    exact ih' (v', Z5) ⟨t5, e'⟩
                  have eZ : vZc i (k + 1) = if vBit i k = 0 then vZc i k + 1 else vZc i k := rfl
                  have k117 : ∀ s0, s0 = vBit i k → wX12_breaks_117 (fun x5 x7 x9 Z => wX12_breaks_81 (nI j) (nI n) (nI o) a4 D f x5 x7 x9 Z) (fun x5 x7 x9 x10 x12 Z => wX12_breaks_95 (fun x5 x7 x9 Z => wX12_breaks_81 (nI j) (nI n) (nI o) a4 D f x5 x7 x9 Z) (nI j) (nI n) (nI o) a4 D g x5 x7 x9 x10 x12 Z) (nI j) (nI n) (nI o) a4 x (lI (o ^ n)) (nI i) v (nI k) s0 W D := by
                    rintro s0 rfl
                    unfold wX12_breaks_117
                    refine br_c (fun c => k133 _ ?_) (fun c => ?_)
                    · rw [eZ, if_neg c]; exact ev
                    · rintro _ rfl
                      refine k133 _ ?_
                      have l1 := vZc_le i k
                      have b1 := pow_b (m := m) (e := vZc i k) hm (by omega)
                      have b2 := pow_b (m := m) (e := vZc i k + 1) hm (by omega)
                      rw [eZ, if_pos (Classical.not_not.mp c), ev, om, lI_nI (by omega), lI_pow (by omega) (by omega)]
                  exact br_f (nI_ge hk (by omega)) (br_c (fun c => k117 _ (if_neg c).symm) (fun c => k117 _ (if_pos (Classical.not_not.mp c)).symm))
            · rintro f i x hi rfl ih
              show wX12_breaks_59b (fun x5 x7 x9 Z => wX12_breaks_59 (nI j) (nI n) (nI o) a4 D f x5 x7 x9 Z) (nI j) (nI n) (nI o) a4 0 _ (nI i) Z3 D
              unfold wX12_breaks_59b
              refine br_f (nI_ge hi (by omega)) ?_
              have b1 := pow_b (m := o) (e := i) ho (by omega)
              have b2 := pow_b (m := o) (e := i + 1) ho (by omega)
              rintro _ rfl _ rfl
              rw [nI_1, lI_nI (by omega), lI_pow (by omega) (by omega)]
              exact ih _ rfl
          rintro _ rfl _ rfl
          refine pk_loop (σ := Int64 × zS) (fun f i s => wX11_breaks_51 (nI j) (nI n) (nI o) a4 (fun r Z1 => wX12_breaks (nI j) (nI n) (nI o) a4 Z1 (zDL r)) f s.1 (nI i) s.2) (fun i s => (cRel 0 S s.2 ∧ kFr Z s.2) ∧ s.1 = lI (vTot S j n m i)) (2 ^ n) 0 (0, Z) (Nat.zero_le _) ⟨⟨hc, kFr.rf⟩, rfl⟩ ?_ ?_
          · rintro f ⟨x, Y⟩ ⟨⟨y0, yf⟩, e⟩
            have e : x = lI (vTot S j n m (2 ^ n)) := e
            show wX11_breaks_51b _ (nI j) (nI n) (nI o) a4 x (nI (2 ^ n)) Y _
            unfold wX11_breaks_51b
            rw [z1_shl n (by omega), e]
            have := tb (2 ^ n) p2
            exact br_t (Int32.le_refl _) (c_power ho hn (c_least (by omega) (by omega) hp0 (ref Y yf)))
          · rintro f i ⟨x, Y⟩ hi ⟨⟨y0, yf⟩, e⟩ ih
            have e : x = lI (vTot S j n m i) := e
            have y0 : cRel 0 S Y := y0
            have yf : kFr Z Y := yf
            show wX11_breaks_51b (fun x5 x7 Z => wX11_breaks_51 (nI j) (nI n) (nI o) a4 (fun r Z1 => wX12_breaks (nI j) (nI n) (nI o) a4 Z1 (zDL r)) f x5 x7 Z) (nI j) (nI n) (nI o) a4 x (nI i) Y _
            unfold wX11_breaks_51b
            rw [z1_shl n (by omega)]
            have k88 : ∀ x' Y', cRel 0 S Y' → kFr Z Y' → x' = lI (vTot S j n m (i + 1)) → wX11_breaks_88 (fun x5 x7 Z => wX11_breaks_51 (nI j) (nI n) (nI o) a4 (fun r Z1 => wX12_breaks (nI j) (nI n) (nI o) a4 Z1 (zDL r)) f x5 x7 Z) (nI j) (nI n) (nI o) a4 x' (nI i) Y' (fun r Z1 => wX12_breaks (nI j) (nI n) (nI o) a4 Z1 (zDL r)) := by
              intro x' Y' c' f' e'
              unfold wX11_breaks_88
              rintro _ rfl
              rw [nI_1]
              exact ih (x', Y') ⟨⟨c', f'⟩, e'⟩
            have eT : vTot S j n m (i + 1) = vTot S j n m i + vBrk S j n m i := rfl
            refine br_f (nI_ge hi (by omega)) (c_lateBr (x := i) hw hj hn y0 yf (fun l Z' c' f' => br_f (by decide) ?_) (fun l Z' c' f' => br_t rfl (k88 _ _ c' f' ?_)))
            · have z : vBrk S j n m i = m ^ vZc i n := by unfold vBrk; rw [if_pos l]
              have bc : ∀ K : Int32 → zS → Prop, K (vBc (nI i)) Z' → wJ6_bitCount_0f7a4 (nI i) Z' K := by
                intro K hk
                unfold wJ6_bitCount_0f7a4
                rintro _ rfl _ rfl _ rfl _ rfl _ rfl
                exact hk
              refine bc _ ?_
              rw [om, vBc_zc n (by omega) i hi]
              refine c_power hm (Nat.le_trans (vZc_le i n) hn) ?_
              rintro _ rfl
              refine k88 _ _ c' f' ?_
              have b1 := tb i (by omega)
              have b2 := bb i
              rw [eT, e, ← z, lI_add (by omega)]
            · have z : vBrk S j n m i = 0 := by unfold vBrk; rw [if_neg l]
              rw [eT, z, e]; rfl
        · unfold wX12_breaks
          exact r_has_t hN hr ha (br_f (by decide) (r_win_t hb (br_f (by decide) (r_win_t hd (br_f (by decide) (r_win_f he (br_f (fun x => x rfl) ⟨rfl, h.inv⟩)))))))
      · refine br_t rfl ?_
        unfold wX12_breaks
        exact r_has_t hN hr ha (br_f (by decide) (r_win_t hb (br_f (by decide) (r_win_f hd (br_t rfl ⟨rfl, h.inv⟩)))))
    · refine br_t rfl ?_
      unfold wX12_breaks
      exact r_has_t hN hr ha (br_f (by decide) (r_win_f hb (br_t rfl ⟨rfl, h.inv⟩)))
  · refine br_t rfl ?_
    unfold wX12_breaks
    exact r_has_f hN hr ha (br_t rfl ⟨rfl, h.inv⟩)
end O4
