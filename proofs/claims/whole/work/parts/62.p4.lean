/-! FACE: text: a statement read by the reference -/
section P4
variable {S Q P : zP} {Z Z0 Z' : zS} {K : Int32 → zS → Prop} {M : zS → Prop} {T : Nat} {E : Nat → Int32} {g : Nat}
def uFr (Z Z' : zS) : Prop := (∀ i, ¬ (97 ≤ i ∧ i ≤ 101) → Z' i = Z i) ∧ ∀ k, ¬ k = 0 → ¬ k = 1 → ¬ k = 5 → ¬ k = 6 → ¬ k = 8 → Z' 97 k = Z 97 k
theorem uFr.rf : uFr Z Z := ⟨fun _ _ => rfl, fun _ _ _ _ _ _ => rfl⟩
theorem uFr.tr {Z1 : zS} (a : uFr Z Z1) (b : uFr Z1 Z') : uFr Z Z' := ⟨fun i h => (b.1 i h).trans (a.1 i h), fun k h0 h1 h5 h6 h8 => (b.2 k h0 h1 h5 h6 h8).trans (a.2 k h0 h1 h5 h6 h8)⟩
theorem uFr.t (f : tFr Z Z') : uFr Z Z' := ⟨fun i h => f.1 i (by omega) (by omega), fun k _ _ _ _ h8 => f.2 k h8⟩
theorem uFr.gg (f : gFr Z Z') : uFr Z Z' := ⟨fun i h => f.1 i (by omega), fun k h0 h1 h5 h6 _ => f.2 k h0 h1 h5 h6⟩
theorem rRel.t (h : rRel P Z) (f : tFr Z Z') : rRel P Z' := h.mv (f.2 0 (by decide)) (f.2 1 (by decide)) (f.1 98 (by decide) (by decide)) (f.1 99 (by decide) (by decide)) (f.1 100 (by decide) (by decide))
def tLen (c : Int32) : Nat := if c = 115 then 6 else if c = 106 then 3 else 2
def tLet (c : Int32) : Prop := c = 115 ∨ c = 106 ∨ c = 116
def tDg (E : Nat → Int32) (p k : Nat) : Nat := min 9 (E (p + 1 + k) - 48).toNatClampNeg
theorem tDg_9 (E : Nat → Int32) (p k : Nat) : tDg E p k ≤ 9 := Nat.min_le_left _ _
theorem tDg_e {p k : Nat} (h : zW (E (p + 1 + k)) 48 57) : E (p + 1 + k) - 48 = nI (tDg E p k) := by
  obtain ⟨j, -, hj, ej⟩ := zW_n 0 9 rfl rfl (by decide) ((zdig _).mpr h)
  unfold tDg
  rw [ej, nI_clamp (by omega), Nat.min_eq_right (by omega)]
theorem tDb_len {c : Int32} (h : tLet c) : tDb c = nI (tLen c) := by
  rcases h with e | e | e <;> subst e <;> rfl
theorem tDb_not {c : Int32} (h : ¬ tLet c) : tDb c = -1 := by
  unfold tDb
  rw [if_neg (fun e => h (Or.inr (Or.inl e))), if_neg (fun e => h (Or.inl e)), if_neg (fun e => h (Or.inr (Or.inr e)))]
theorem nI_nm1 {n : Nat} (h : n < 2 ^ 31) : ¬ nI n = -1 := fun e => by
  have := congrArg Int32.toInt e
  rw [nI_toInt h] at this
  have z : (-1 : Int32).toInt = -1 := rfl
  omega
theorem t_let {p : Nat} (u : tUp E p) (s : tSt E p = -1) (h : tLet (E p)) : tUp E (p + 1) ∧ tSt E (p + 1) = nI (tLen (E p)) := by
  have n6 : tLen (E p) < 7 := by unfold tLen; split <;> (try split) <;> decide
  refine ⟨u.up ?_, ?_⟩
  · unfold tOk; rw [if_pos s, tDb_len h]; exact nI_nm1 (by omega)
  · show tNx (tSt E p) (E p) = _
    unfold tNx; rw [if_pos s, tDb_len h]
theorem t_dig {q L : Nat} (hL : L < 100) (u : tUp E q) (s : tSt E q = nI L) : ∀ i, i ≤ L → (∀ k, k < i → zW (E (q + k)) 48 57) → tUp E (q + i) ∧ tSt E (q + i) = nI (L - i) := by
  intro i
  induction i with
  | zero => intro _ _; exact ⟨u, s⟩
  | succ i ih =>
    intro hi hd
    obtain ⟨u', s'⟩ := ih (by omega) (fun k hk => hd k (by omega))
    have n1 : ¬ nI (L - i) = -1 := nI_nm1 (by omega)
    have n0 : ¬ nI (L - i) ≤ 0 := fun z => by
      have z := zle.mp z
      rw [zi0, nI_toInt (by omega)] at z
      omega
    refine ⟨u'.up ?_, ?_⟩
    · unfold tOk; rw [s', if_neg n1, if_neg n0]; exact hd i (by omega)
    · show tNx (tSt E (q + i)) (E (q + i)) = _
      unfold tNx; rw [s', if_neg n1, if_neg n0, ← Int32.sub_eq_add_neg, nI_dec (by omega)]; rfl
theorem r_stmt {d p : Nat} (w : wfP 9999 P) (hd : d < 8) (hg : g ≤ 100) (hp : p ≤ g) (hpg : p < g ∨ g = 0) (u : tUp E p) (s : tSt E p = -1) (e7 : Z 97 7 = nI d) (e8 : Z 97 8 = nI p) (e6 : Z 106 d = nI g) (eE : ∀ i, i < 100 → Z 107 (100 * d + i) = E i) (h : rRel P Z)
    (hbad : ∀ b Z', tBad E g (nI b) → b ≤ 100 → rRel P Z' → uFr Z Z' → Z' 97 8 = nI b → K (-1) Z')
    (hyes : tLet (E p) → p + tLen (E p) + 2 ≤ g → (∀ k, k < tLen (E p) → zW (E (p + 1 + k)) 48 57) → tUp E (p + tLen (E p) + 2) → tSt E (p + tLen (E p) + 2) = -1 → tYes (E p) (tDg E p) P → ∀ Z', rRel (tTo (E p) (tDg E p) P) Z' → uFr Z Z' → Z' 97 8 = nI (p + tLen (E p) + 2) → K 1 Z')
    (hno : tLet (E p) → p + tLen (E p) + 2 ≤ g → (∀ k, k < tLen (E p) → zW (E (p + 1 + k)) 48 57) → tUp E (p + tLen (E p) + 2) → tSt E (p + tLen (E p) + 2) = -1 → ¬ tYes (E p) (tDg E p) P → ∀ Z', rRel P Z' → uFr Z Z' → Z' 97 8 = nI (p + tLen (E p) + 2) → K 0 Z') : wX12_statement Z K := by
  have n6 : tLen (E p) ≤ 6 := by unfold tLen; split <;> (try split) <;> decide
  have n2 : 2 ≤ tLen (E p) := by unfold tLen; split <;> (try split) <;> decide
  -- after the letter
  have k71 : p < g → tLet (E p) → ∀ n, nI n = nI (tLen (E p)) → n = tLen (E p) → ∀ Z1, eFr Z Z1 → Z1 97 8 = nI (p + 1) → wX12_statement_71 (E p) (nI n) Z1 K := by
    intro hlt hl n _ en Z1 f1 e81
    subst en
    obtain ⟨u1, s1⟩ := t_let u s hl
    have td := t_dig (L := tLen (E p)) (by omega) u1 s1
    have o7 : Z1 97 7 = nI d := by rw [f1.2 7 (by decide)]; exact e7
    have o6 : Z1 106 d = nI g := by rw [f1.1 106 (by decide)]; exact e6
    have oE : ∀ i, i < 100 → Z1 107 (100 * d + i) = E i := fun i hi => by rw [f1.1 107 (by decide)]; exact eE i hi
    unfold wX12_statement_71
    refine r_digits (p := p + 1) hd hg (by omega) n6 o7 e81 o6 oE (fun hle hz Z2 f2 e82 v2 => br_f (by decide) ?_) (fun i hi hle hz hbd Z2 f2 e82 => br_t rfl ?_)
    · obtain ⟨u2, s2⟩ := td (tLen (E p)) (Nat.le_refl _) hz
      rw [Nat.sub_self] at s2
      have o7 : Z2 97 7 = nI d := by rw [f2.2 7 (by decide)]; exact o7
      have o6 : Z2 106 d = nI g := by rw [f2.1 106 (by decide) (by decide)]; exact o6
      have oE : ∀ i, i < 100 → Z2 107 (100 * d + i) = E i := fun i hi => by rw [f2.1 107 (by decide) (by decide)]; exact oE i hi
      have z0 : ¬ (nI 0 : Int32) = -1 := by decide
      refine r_is (i := p + 1 + tLen (E p)) hd hg (by omega) o7 e82 o6 oE (fun hlt2 e59 Z3 f3 e83 => br_t (by decide) ?_) (fun hb => br_f (fun z => z rfl) ?_)
      · have ok : tOk (tSt E (p + 1 + tLen (E p))) (E (p + 1 + tLen (E p))) := by
          unfold tOk; rw [s2, if_neg z0, if_pos (by decide)]; exact e59
        have u3 : tUp E (p + tLen (E p) + 2) := by
          rw [show p + tLen (E p) + 2 = p + 1 + tLen (E p) + 1 by omega]; exact u2.up ok
        have s3 : tSt E (p + tLen (E p) + 2) = -1 := by
          rw [show p + tLen (E p) + 2 = p + 1 + tLen (E p) + 1 by omega]
          show tNx (tSt E (p + 1 + tLen (E p))) _ = _
          unfold tNx; rw [s2, if_neg z0, if_pos (by decide)]
        have e83' : Z3 97 8 = nI (p + tLen (E p) + 2) := by rw [e83]; congr 1; omega
        have t3 : tFr Z Z3 := ((tFr.e f1).tr f2).tr (tFr.e f3)
        have r3 : rRel P Z3 := h.t t3
        have v3 : ∀ k, k < tLen (E p) → Z3 101 k = nI (tDg E p k) := by
          intro k hk
          rw [f3.1 101 (by decide), v2 k hk]
          exact tDg_e (hz k hk)
        have yes : tYes (E p) (tDg E p) P → ∀ Z', rRel (tTo (E p) (tDg E p) P) Z' → gFr Z3 Z' → wX12_statement_118 1 Z' K := by
          intro y Z' r f
          unfold wX12_statement_118
          exact br_f (by decide) (hyes hl (by omega) hz u3 s3 y Z' r ((uFr.t t3).tr (uFr.gg f)) (by rw [f.2 8 (by decide) (by decide) (by decide) (by decide)]; exact e83'))
        have no : ¬ tYes (E p) (tDg E p) P → wX12_statement_118 0 Z3 K := by
          intro y
          unfold wX12_statement_118
          exact br_t rfl (hno hl (by omega) hz u3 s3 y Z3 r3 (uFr.t t3) e83')
        unfold tLen at v3
        refine br_c (fun c1 => br_c (fun c2 => ?_) (fun c2 => ?_)) (fun c1 => ?_)
        · have c3 : E p = 116 := by
            rcases hl with z | z | z
            · exact absurd z c1
            · exact absurd z c2
            · exact z
          rw [c3] at yes no v3
          rw [if_neg (by decide), if_neg (by decide)] at v3
          exact r_tick w (tDg_9 E p) v3 r3 yes no
        · have c2 := Classical.not_not.mp c2
          rw [c2] at yes no v3
          rw [if_neg (by decide), if_pos rfl] at v3
          exact r_job w (tDg_9 E p) v3 r3 yes no
        · have c1 := Classical.not_not.mp c1
          rw [c1] at yes no v3
          rw [if_pos rfl] at v3
          exact r_server w (tDg_9 E p) v3 r3 yes no
      · have t2 : tFr Z Z2 := (tFr.e f1).tr f2
        refine hbad (p + 1 + tLen (E p)) Z2 ?_ (by omega) (h.t t2) (uFr.t t2) e82
        rcases hb with hb | ⟨hb, hc⟩
        · exact Or.inr (Or.inl ⟨by rw [← hb]; exact u2, Or.inr (by rw [← hb, s2]; exact z0), by rw [hb]⟩)
        · refine Or.inl ⟨p + 1 + tLen (E p), hb, u2, fun ok => hc ?_, rfl⟩
          unfold tOk at ok; rw [s2, if_neg z0, if_pos (by decide)] at ok; exact ok
    · have t2 : tFr Z Z2 := (tFr.e f1).tr f2
      obtain ⟨u2, s2⟩ := td i (by omega) hz
      have z1 : ¬ nI (tLen (E p) - i) = -1 := nI_nm1 (by omega)
      have z0 : ¬ nI (tLen (E p) - i) ≤ 0 := fun z => by
        have z := zle.mp z
        rw [zi0, nI_toInt (by omega)] at z
        omega
      refine hbad (p + 1 + i) Z2 ?_ (by omega) (h.t t2) (uFr.t t2) e82
      rcases hbd with hb | hb
      · exact Or.inr (Or.inl ⟨by rw [← hb]; exact u2, Or.inr (by rw [← hb, s2]; exact z1), by rw [hb]⟩)
      · by_cases q : p + 1 + i = g
        · exact Or.inr (Or.inl ⟨by rw [← q]; exact u2, Or.inr (by rw [← q, s2]; exact z1), by rw [q]⟩)
        · refine Or.inl ⟨p + 1 + i, by omega, u2, fun ok => hb ?_, rfl⟩
          unfold tOk at ok; rw [s2, if_neg z1, if_neg z0] at ok; exact ok
  have bad0 : (p = g ∨ ¬ tLet (E p)) → wX12_statement_43 0 Z K := by
    intro hb
    unfold wX12_statement_43
    refine br_t rfl (hbad p Z ?_ (by omega) h uFr.rf e8)
    by_cases q : p = g
    · exact Or.inr (Or.inl ⟨by rw [← q]; exact u, Or.inl (by omega), by rw [q]⟩)
    · refine Or.inl ⟨p, by omega, u, fun ok => ?_, rfl⟩
      unfold tOk at ok
      rw [if_pos s, tDb_not (hb.resolve_left q)] at ok
      exact ok rfl
  unfold wX12_statement
  refine r_is hd hg hp e7 e8 e6 eE (fun hlt e Z1 f1 e81 => br_f (by decide) ?_) (fun n1 => br_t rfl ?_)
  · have k := k71 hlt (Or.inl e) (tLen (E p)) rfl rfl Z1 f1 e81
    rw [e] at k
    unfold wX12_statement_43
    exact br_f (by decide) (br_f (fun z => z rfl) k)
  refine r_is hd hg hp e7 e8 e6 eE (fun hlt e Z1 f1 e81 => br_f (by decide) ?_) (fun n2 => br_t rfl ?_)
  · have k := k71 hlt (Or.inr (Or.inl e)) (tLen (E p)) rfl rfl Z1 f1 e81
    rw [e] at k
    unfold wX12_statement_43
    exact br_f (by decide) (br_t (by decide) (br_f (fun z => z rfl) k))
  refine r_is hd hg hp e7 e8 e6 eE (fun hlt e Z1 f1 e81 => br_f (by decide) ?_) (fun n3 => br_t rfl ?_)
  · have k := k71 hlt (Or.inr (Or.inr e)) (tLen (E p)) rfl rfl Z1 f1 e81
    rw [e] at k
    unfold wX12_statement_43
    exact br_f (by decide) (br_t (by decide) (br_t (by decide) k))
  refine bad0 ?_
  by_cases q : p = g
  · exact Or.inl q
  · refine Or.inr (fun z => ?_)
    rcases z with z | z | z
    · exact (n1.resolve_left q).2 z
    · exact (n2.resolve_left q).2 z
    · exact (n3.resolve_left q).2 z
end P4
