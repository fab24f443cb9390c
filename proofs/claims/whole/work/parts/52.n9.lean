/-! FACE: days -/
section N9
variable {S Q P : zP} {Z Z0 Z' : zS} {K : Int32 → zS → Prop} {M : zS → Prop} {T : Nat}
theorem zmask (s : Int32) : 0 ≤ (s &&& 2147483647).toInt := by
  have h : (s &&& 2147483647 : Int32).toBitVec.toNat ≤ 2147483647 := by
    rw [Int32.toBitVec_and, BitVec.toNat_and]
    exact Nat.and_le_right
  have e : (s &&& 2147483647 : Int32).toInt = (s &&& 2147483647 : Int32).toBitVec.toInt := rfl
  rw [e, BitVec.toInt_eq_toNat_of_lt (by omega)]
  omega
theorem zshr16 (s : Int32) : ((s &&& 2147483647) >>> (16 &&& 31) : Int32) = (s &&& 2147483647) / 65536 := by
  have h := zmask s
  refine Int32.toInt_inj.mp ?_
  rw [show (16 &&& 31 : Int32) = 16 from rfl, Jvm.Kit.i32_shr _ 16 (k := 16) (by decide), lg_idiv_nonneg h (by decide)]
  rfl
def vVal (s : Int32) : Int32 := (s &&& 2147483647) / 65536
def vDr (s a : Int32) : Int32 := vVal s - vVal s / a * a
def vSd (s : Int32) : Int32 := s * 1103515245 + 12345
theorem vDr_lt (s : Int32) {n : Nat} (h1 : 1 ≤ n) (h9 : n ≤ 9) : ∃ m, m < n ∧ vDr s (nI n) = nI m := by
  have h := zmask s
  have tn := nI_toInt (n := n) (by omega)
  have e1 : (vVal s).toInt = (s &&& 2147483647).toInt / 65536 := by
    unfold vVal
    rw [lg_idiv_nonneg h (by decide)]; rfl
  have up := (s &&& 2147483647).toInt_lt
  have v0 : 0 ≤ (vVal s).toInt := by rw [e1]; omega
  have v1 : (vVal s).toInt ≤ 32768 := by rw [e1]; omega
  have e2 : (vVal s / nI n).toInt = (vVal s).toInt / (n : Int) := by
    rw [lg_idiv_nonneg v0 (by omega), tn]
  have n0 : (0 : Int) < n := by omega
  have q0 : 0 ≤ (vVal s).toInt / (n : Int) := Int.ediv_nonneg v0 (by omega)
  have qm : (vVal s).toInt / (n : Int) * n ≤ (vVal s).toInt := Int.ediv_mul_le _ (by omega)
  have qp : 0 ≤ (vVal s).toInt / (n : Int) * n := Int.mul_nonneg q0 (by omega)
  have e3 : (vVal s / nI n * nI n).toInt = (vVal s).toInt / (n : Int) * n := by
    rw [zmul (by rw [e2, tn]; omega) (by rw [e2, tn]; omega), e2, tn]
  have e4 : (vDr s (nI n)).toInt = (vVal s).toInt - (vVal s).toInt / (n : Int) * n := by
    unfold vDr
    rw [zsub (by rw [e3]; omega) (by rw [e3]; omega), e3]
  have e5 : (vVal s).toInt - (vVal s).toInt / (n : Int) * n = (vVal s).toInt % n := by
    have := Int.emod_def (vVal s).toInt (n : Int)
    rw [this, Int.mul_comm]
  have l1 := Int.emod_nonneg (vVal s).toInt (show (n : Int) ≠ 0 by omega)
  have l2 := Int.emod_lt_of_pos (vVal s).toInt n0
  refine ⟨(vDr s (nI n)).toInt.toNat, by omega, Int32.toInt_inj.mp ?_⟩
  rw [nI_toInt (by omega)]
  omega
theorem c_draw {n : Nat} {s : Int32} (h1 : 1 ≤ n) (h9 : n ≤ 9) (hs : Z 96 10 = s) (hk : ∀ Z', Z' = zU Z 96 10 (vSd s) → K (vDr (vSd s) (nI n)) Z') : wX11_draw (nI n) Z K := by
  unfold wX11_draw
  intro Z1 e1
  rw [hs] at e1
  have e : Z1 96 10 = vSd s := by rw [e1, zU_s]; rfl
  rw [e, zshr16]
  have tn := nI_toInt (n := n) (by omega)
  exact br_t (zle.mpr (by rw [zi1, tn]; omega)) ⟨nI_ne0 (by omega) (by omega), hk Z1 e1⟩
theorem r_draw {n : Nat} {s : Int32} (h1 : 1 ≤ n) (h9 : n ≤ 9) (hs : Z 97 13 = s) (hk : ∀ Z', Z' = zU Z 97 13 (vSd s) → K (vDr (vSd s) (nI n)) Z') : wX12_draw (nI n) Z K := by
  unfold wX12_draw
  intro Z1 e1
  rw [hs] at e1
  have e : Z1 97 13 = vSd s := by rw [e1, zU_s]; rfl
  rw [e]
  exact ⟨by decide, nI_ne0 (by omega) (by omega), hk Z1 e1⟩
def vW (s : Int32) : Int32 := 1 + vDr (vSd s) 9
def vL (s : Int32) : Int32 := vDr (vSd (vSd s)) 4
def vS3 (s : Int32) : Int32 := vSd (vSd (vSd s))
def vJ (P : zP) (s : Int32) : Nat := (vDr (vS3 s) (nI P.1)).toNatClampNeg
def pGet (P : zP) (s : Int32) : zP := if P.2.2 (vJ P s) 10 = 4 then P else pSet P (vJ P s) (qTake P.2.1 (vW s) (vL s) (P.2.2 (vJ P s)))
def pStep (P : zP) (s : Int32) : zP := pGoN 5 (pGet P s)
def pSix (P : zP) (s : Int32) : Nat → zP × Int32
  | 0 => (P, s)
  | n + 1 => (pStep (pSix P s n).1 (pSix P s n).2, vS3 (pSix P s n).2)
theorem pGet_1 (P : zP) (s : Int32) : (pGet P s).1 = P.1 := by unfold pGet; split <;> rfl
theorem pStep_1 (P : zP) (s : Int32) : (pStep P s).1 = P.1 := by unfold pStep; rw [pGoN_1, pGet_1]
theorem pSix_1 (P : zP) (s : Int32) (n : Nat) : (pSix P s n).1.1 = P.1 := by
  induction n with
  | zero => rfl
  | succ n ih =>
    show (pStep (pSix P s n).1 (pSix P s n).2).1 = P.1
    rw [pStep_1, ih]
theorem vJ_lt {s : Int32} (h0 : 1 ≤ P.1) (hN : P.1 ≤ 6) : vJ P s < P.1 ∧ vDr (vS3 s) (nI P.1) = nI (vJ P s) := by
  obtain ⟨m, hm, e⟩ := vDr_lt (vS3 s) h0 (by omega)
  have : vJ P s = m := by unfold vJ; rw [e]; exact nI_clamp (by omega)
  rw [this]; exact ⟨hm, e⟩
theorem vW_in (s : Int32) : zin (vW s) 1 9 := by
  obtain ⟨m, hm, e⟩ := vDr_lt (vSd s) (n := 9) (by decide) (by decide)
  have e : vDr (vSd s) 9 = nI m := e
  unfold vW
  rw [e, zlit_add]
  have := nI_toInt (n := 1 + m) (by omega)
  exact ⟨by omega, by omega⟩
theorem vL_in (s : Int32) : zin (vL s) 0 3 := by
  obtain ⟨m, hm, e⟩ := vDr_lt (vSd (vSd s)) (n := 4) (by decide) (by decide)
  have e : vDr (vSd (vSd s)) 4 = nI m := e
  unfold vL
  rw [e]
  exact zin_of (n := 3) (by omega) (by decide)
theorem wfP.get {s : Int32} (hT : T ≤ 20000) (h0 : 1 ≤ P.1) (w : wfP T P) : wfP T (pGet P s) := by
  obtain ⟨hj, -⟩ := vJ_lt (s := s) h0 w.1
  unfold pGet
  split
  · exact w
  · rename_i hf
    obtain ⟨c, hc, ec⟩ := zin_nI (n := 4) (w.2.2 _ hj).jobs (by decide)
    have hc4 : c < 4 := Nat.lt_of_le_of_ne hc (fun e => hf (by rw [ec, e]; rfl))
    have t1 := w.2.1.1
    have t2 := w.2.1.2
    exact w.set ((w.2.2 _ hj).take t1 (by omega) ec hc4 (vW_in s) (vL_in s))
theorem wfP.six {s : Int32} (h0 : 1 ≤ S.1) (w : wfP 9999 S) : ∀ n, n ≤ 6 → wfP (9999 + 5 * n) (pSix S s n).1 := by
  intro n
  induction n with
  | zero => intro _; exact w
  | succ n ih =>
    intro hn
    have a := (ih (by omega)).get (s := (pSix S s n).2) (by omega) (by rw [pSix_1]; exact h0)
    have b := a.goN 5 (by omega)
    exact b
end N9
