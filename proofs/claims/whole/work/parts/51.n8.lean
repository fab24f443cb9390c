/-! FACE: two -/
section N8
variable {S Q P : zP} {Z Z0 Z' : zS} {K : Int32 → zS → Prop} {M : zS → Prop} {T : Nat}
def pTk (S : zP) (j x : Nat) : zP := if x = 1 then pSet S j (qTake S.2.1 5 3 (S.2.2 j)) else S
theorem pTk_1 (S : zP) (j x : Nat) : (pTk S j x).1 = S.1 := by unfold pTk; split <;> rfl
theorem pTk_t (S : zP) (j x : Nat) : (pTk S j x).2.1 = S.2.1 := by unfold pTk; split <;> rfl
theorem pTk_o {S : zP} {j x i : Nat} (h : ¬ i = j) : (pTk S j x).2.2 i = S.2.2 i := by
  unfold pTk
  split
  · rw [pSet_at, if_neg h]
  · rfl
theorem wfP.tk {j x : Nat} (w : wfP 9999 S) (hj : j < S.1) (hf : ¬ S.2.2 j 10 = 4) : wfP 9999 (pTk S j x) := by
  unfold pTk
  split
  · obtain ⟨c, hc, ec⟩ := zin_nI (n := 4) (w.2.2 j hj).jobs (by decide)
    have hc4 : c < 4 := Nat.lt_of_le_of_ne hc (fun e => hf (by rw [ec, e]; rfl))
    have t1 := w.2.1.1
    have t2 := w.2.1.2
    exact w.set ((w.2.2 j hj).take t1 (by omega) ec hc4 ⟨by decide, by decide⟩ ⟨by decide, by decide⟩)
  · exact w
def vPr (S : zP) (j1 j2 n x y : Nat) : zP := pGoN n (pTk (pTk S j1 x) j2 y)
def vG1 (S : zP) (j1 j2 n x y : Nat) : Int32 := 4 * nI x - ((vPr S j1 j2 n x y).2.2 j1 8 - S.2.2 j1 8)
def vG2 (S : zP) (j1 j2 n x y : Nat) : Int32 := 4 * nI y - ((vPr S j1 j2 n x y).2.2 j2 8 - S.2.2 j2 8)
def vTwo (S : zP) (j1 j2 n k : Nat) : Prop := ¬ vG1 S j1 j2 n (k / 2) (k % 2) < vG1 S j1 j2 n (1 - k / 2) (k % 2) ∧ ¬ vG2 S j1 j2 n (k / 2) (k % 2) < vG2 S j1 j2 n (k / 2) (1 - k % 2)
def zFs (R : Nat → Prop) (f : Nat → Int32) (hi : Nat) (r : Int32) : Prop := (∃ n, n < hi ∧ r = f n ∧ R n ∧ ∀ m, m < n → ¬ R m) ∨ (r = -4 ∧ ∀ n, n < hi → ¬ R n)
theorem zFs.u {R : Nat → Prop} {f : Nat → Int32} {hi : Nat} {r r' : Int32} (a : zFs R f hi r) (b : zFs R f hi r') : r = r' := by
  rcases a with ⟨n, n1, n2, n3, n4⟩ | ⟨a1, a2⟩ <;> rcases b with ⟨m, m1, m2, m3, m4⟩ | ⟨b1, b2⟩
  · rcases Nat.lt_trichotomy n m with c | c | c
    · exact absurd n3 (m4 n c)
    · rw [n2, m2, c]
    · exact absurd m3 (n4 m c)
  · exact absurd n3 (b2 n n1)
  · exact absurd m3 (a2 m m1)
  · rw [a1, b1]
theorem c_tk {j : Nat} (hN : S.1 ≤ 6) (w : wfP 9999 S) (hj : j < S.1) (hf : ¬ S.2.2 j 10 = 4) (h : cRel 1 S Z) (hk : ∀ Z', cRel 1 (pSet S j (qTake S.2.1 5 3 (S.2.2 j))) Z' → cFr 1 Z Z' → M Z') : wX5_takeJob (6 * 1 + j) 5 3 (Z (54 + 1) 2) Z M := by
  have hj6 : j < 6 := Nat.lt_of_lt_of_le hj hN
  have wq := w.2.2 j hj
  obtain ⟨c, hc, ec⟩ := zin_nI (n := 4) wq.jobs (by decide)
  have hc4 : c < 4 := Nat.lt_of_le_of_ne hc (fun e => hf (by rw [ec, e]; rfl))
  rw [h.2.1]
  exact c_take (h.2.2 j hj) ec hc4 wq.st wq.idle (fun Z' r f => hk Z' (cRel.set (by decide) hN hj h r f) (cFr.s (p := 1) (by decide) hj6 f))
theorem r_tk {j : Nat} (hN : P.1 ≤ 6) (w : wfP 9999 P) (hj : j < P.1) (hf : ¬ P.2.2 j 10 = 4) (t : rT S P Z0 Z) (hk : ∀ Z', rT S (pSet P j (qTake P.2.1 5 3 (P.2.2 j))) Z0 Z' → M Z') : wX12_jobComes (nI j) 5 3 Z M := by
  have hj6 : j < 6 := Nat.lt_of_lt_of_le hj hN
  have wq := w.2.2 j hj
  obtain ⟨c, hc, ec⟩ := zin_nI (n := 4) wq.jobs (by decide)
  have hc4 : c < 4 := Nat.lt_of_le_of_ne hc (fun e => hf (by rw [ec, e]; rfl))
  have t1 := w.2.1.1
  have t2 := w.2.1.2
  exact r_take hj6 (t.2.1.2.2 j hj) t.2.1.2.1 wq.1 t1 (by omega) ec hc4 (fun Z' r f => hk Z' (t.set hN hj r f))
theorem c_pair {j1 j2 n c : Nat} (hw : wfP 9999 S) (h1 : j1 < S.1) (h2 : j2 < S.1) (h12 : ¬ j1 = j2) (f1 : ¬ S.2.2 j1 10 = 4) (f2 : ¬ S.2.2 j2 10 = 4) (hn : n ≤ 60) (hc4 : c < 4) (c0 : cRel 0 S Z) (hk : ∀ Z', cRel 0 S Z' → kFr Z Z' → (∀ k, k < 4 → Z' 93 k = if k = c then vG1 S j1 j2 n (c / 2) (c % 2) else Z 93 k) → (∀ k, k < 4 → Z' 94 k = if k = c then vG2 S j1 j2 n (c / 2) (c % 2) else Z 94 k) → M Z') : wX11_tryPair (nI j1) (nI j2) (nI n) (nI c) Z M := by
  have hN := hw.1
  have i1 : vp_in (nI j1) 6 := vp_in_nI (by omega) (by decide)
  have i2 : vp_in (nI j2) 6 := vp_in_nI (by omega) (by decide)
  have cj1 : (nI j1).toNatClampNeg = j1 := nI_clamp (by omega)
  have cj2 : (nI j2).toNatClampNeg = j2 := nI_clamp (by omega)
  have ic : vp_in (nI c) 4 := vp_in_nI (by omega) (by decide)
  have cc : (nI c).toNatClampNeg = c := nI_clamp (by omega)
  have ex : (nI c >>> (1 &&& 31) : Int32) = nI (c / 2) := by
    rcases (show c = 0 ∨ c = 1 ∨ c = 2 ∨ c = 3 by omega) with e | e | e | e <;> subst e <;> rfl
  have ey : (nI c &&& 1 : Int32) = nI (c % 2) := by
    rcases (show c = 0 ∨ c = 1 ∨ c = 2 ∨ c = 3 by omega) with e | e | e | e <;> subst e <;> rfl
  have hx : c / 2 = 0 ∨ c / 2 = 1 := by omega
  have hy : c % 2 = 0 ∨ c % 2 = 1 := by omega
  unfold wX11_tryPair
  rw [ex, ey]
  rintro _ rfl _ rfl
  refine c_becomes (by decide) (by decide) (by decide) hN (fun s hs => (hw.2.2 s hs).1) c0 (fun Z3 r3 g3 => ?_)
  have wA : wfP 9999 (pTk S j1 (c / 2)) := hw.tk h1 f1
  have wB : wfP 9999 (pTk (pTk S j1 (c / 2)) j2 (c % 2)) := wA.tk (by rw [pTk_1]; exact h2) (by rw [pTk_o (fun e => h12 e.symm)]; exact f2)
  have k77 : ∀ Y, cRel 1 (pTk (pTk S j1 (c / 2)) j2 (c % 2)) Y → cFr 1 Z Y → wX11_tryPair_77 (nI j1) (nI j2) (nI n) (nI c) (nI (c / 2)) (nI (c % 2)) Y M := by
    intro Y r g
    unfold wX11_tryPair_77
    refine c_goOnFor (by decide) (by omega) wB r (fun Z10 r10 g10 _ => ?_)
    have gg : cFr 1 Z Z10 := g.tr g10
    have cc0 : cRel 0 S Z10 := c0.fr (by decide) hN (by decide) gg
    have e1 : (vPr S j1 j2 n (c / 2) (c % 2)).1 = S.1 := by unfold vPr; rw [pGoN_1, pTk_1, pTk_1]
    have a1 : Z10 (6 * 1 + j1) 8 = (vPr S j1 j2 n (c / 2) (c % 2)).2.2 j1 8 := (r10.2.2 j1 (by rw [pGoN_1, pTk_1, pTk_1]; exact h1)).f 8 (by decide)
    have a2 : Z10 (6 * 1 + j2) 8 = (vPr S j1 j2 n (c / 2) (c % 2)).2.2 j2 8 := (r10.2.2 j2 (by rw [pGoN_1, pTk_1, pTk_1]; exact h2)).f 8 (by decide)
    have b1 : Z10 (6 * 0 + j1) 8 = S.2.2 j1 8 := (cc0.2.2 j1 h1).f 8 (by decide)
    have b2 : Z10 (6 * 0 + j2) 8 = S.2.2 j2 8 := (cc0.2.2 j2 h2).f 8 (by decide)
    unfold wX11_lateMore
    rw [cj1, cj2, a1, b1, cc]
    refine ⟨i1, i1, ic, ?_⟩
    intro Z14 e14
    rw [show Z14 (6 * 1 + j2) 8 = Z10 (6 * 1 + j2) 8 by rw [e14, zU_i (by omega)], show Z14 (6 * 0 + j2) 8 = Z10 (6 * 0 + j2) 8 by rw [e14, zU_i (by omega)], a2, b2]
    refine ⟨i2, i2, ic, ?_⟩
    intro Z18 e18
    have o : ∀ i, ¬ i = 93 → ¬ i = 94 → Z18 i = Z10 i := fun i x y => by rw [e18, zU_r y, e14, zU_r x]
    have far : ∀ i, 57 ≤ i → Z10 i = Z i := fun i hi => gg.o (by decide) hi
    refine hk Z18 ?_ ⟨fun i x y => ?_, ?_⟩ (fun k hk => ?_) (fun k hk => ?_)
    · exact cc0.lo (by decide) hN (fun i hi => o i (by omega) (by omega))
    · rw [o i (by omega) (by omega)]; exact gg i x
    · rw [o 96 (by decide) (by decide), far 96 (by decide)]
    · rw [e18, zU_i (by decide), e14]
      by_cases e : k = c
      · rw [if_pos e, e, zU_s]; rfl
      · rw [if_neg e, zU_k e, far 93 (by decide)]
    · rw [e18]
      by_cases e : k = c
      · rw [if_pos e, e, zU_s]; rfl
      · rw [if_neg e, zU_k e, e14, zU_i (by decide), far 94 (by decide)]
  have k50 : ∀ Y, cRel 1 (pTk S j1 (c / 2)) Y → cFr 1 Z Y → wX11_tryPair_50 (nI j1) (nI j2) (nI n) (nI c) (nI (c / 2)) (nI (c % 2)) Y M := by
    intro Y r g
    unfold wX11_tryPair_50
    rcases hy with e | e
    · rw [e] at k77 ⊢
      exact br_t (by decide) (k77 Y (by unfold pTk at r ⊢; rw [if_neg (by decide)]; exact r) g)
    · rw [e] at k77 ⊢
      refine br_f (fun x => x rfl) ⟨i2, ?_⟩
      rw [cj2]
      refine c_tk (by rw [pTk_1]; exact hN) wA (by rw [pTk_1]; exact h2) (by rw [pTk_o (fun e => h12 e.symm)]; exact f2) r (fun Z' r' g' => k77 Z' ?_ (g.tr g'))
      rw [show pTk (pTk S j1 (c / 2)) j2 1 = pSet (pTk S j1 (c / 2)) j2 (qTake (pTk S j1 (c / 2)).2.1 5 3 ((pTk S j1 (c / 2)).2.2 j2)) from if_pos rfl]
      exact r'
  rcases hx with e | e
  · rw [e] at k50 ⊢
    exact br_t (by decide) (k50 Z3 (by unfold pTk; rw [if_neg (by decide)]; exact r3) g3)
  · rw [e] at k50 ⊢
    refine br_f (fun x => x rfl) ⟨i1, ?_⟩
    rw [cj1]
    refine c_tk hN hw h1 f1 r3 (fun Z' r' g' => k50 Z' ?_ (g3.tr g'))
    rw [show pTk S j1 1 = pSet S j1 (qTake S.2.1 5 3 (S.2.2 j1)) from if_pos rfl]
    exact r'
theorem r_gain {j1 j2 n x y who : Nat} (hw : wfP 9999 S) (h1 : j1 < S.1) (h2 : j2 < S.1) (h12 : ¬ j1 = j2) (f1 : ¬ S.2.2 j1 10 = 4) (f2 : ¬ S.2.2 j2 10 = 4) (hn : n ≤ 60) (hx : x ≤ 1) (hy : y ≤ 1) (hwho : who = j1 ∨ who = j2) (t : rT S S Z0 Z) (hk : ∀ Z', rT S S Z0 Z' → K (if who = j1 then vG1 S j1 j2 n x y else vG2 S j1 j2 n x y) Z') : wX12_has (nI who) (nI j1) (nI j2) (nI x) (nI y) (nI n) Z K := by
  have hN := hw.1
  have hx : x = 0 ∨ x = 1 := by omega
  have hy : y = 0 ∨ y = 1 := by omega
  have hW : who < S.1 := by omega
  have wA : wfP 9999 (pTk S j1 x) := hw.tk h1 f1
  have wB : wfP 9999 (pTk (pTk S j1 x) j2 y) := wA.tk (by rw [pTk_1]; exact h2) (by rw [pTk_o (fun e => h12 e.symm)]; exact f2)
  have k26 : ∀ Y, rT S (pTk (pTk S j1 x) j2 y) Z0 Y → wX12_has_26 (nI who) (nI j1) (nI j2) (nI x) (nI y) (nI n) Y K := by
    intro Y t
    unfold wX12_has_26
    refine rT_goN (by omega) wB t (fun Z5 t5 _ => ?_)
    have a8 : Z5 98 (48 + who) = (vPr S j1 j2 n x y).2.2 who 8 := (t5.2.1.2.2 who (by rw [pGoN_1, pTk_1, pTk_1]; exact hW)).2.2.2.2.2.2.2.2.1
    have b8 : Z5 102 (48 + who) = S.2.2 who 8 := (t5.1.2.2 who hW).2.2.2.2.2.2.2.2.1
    have k45 : ∀ s0, (4 * s0 - ((vPr S j1 j2 n x y).2.2 who 8 - S.2.2 who 8)) = (if who = j1 then vG1 S j1 j2 n x y else vG2 S j1 j2 n x y) → wX12_has_45 (nI who) (nI j1) (nI j2) (nI x) (nI y) (nI n) s0 4 Z5 K := by
      intro s0 es
      unfold wX12_has_45
      simp (disch := omega) only [zlit_add, nI_clamp, vp_in_nI, true_and]
      rw [a8, b8]
      rintro _ rfl
      refine rT_back hN t5 (fun Z' t' => ?_)
      rw [es]
      exact hk Z' t'
    refine br_c (fun c => k45 _ ?_) (fun c => k45 _ ?_)
    · have ne : ¬ who = j1 := fun e => c (by rw [e])
      rw [if_neg ne]
      have : who = j2 := hwho.resolve_left ne
      rw [this]; rfl
    · have e : who = j1 := (nI_eq (a := who) (b := j1) (by omega) (by omega)).mp (Classical.not_not.mp c)
      rw [if_pos e, e]; rfl
  have k13 : ∀ Y, rT S (pTk S j1 x) Z0 Y → wX12_has_13 (nI who) (nI j1) (nI j2) (nI x) (nI y) (nI n) Y K := by
    intro Y t
    unfold wX12_has_13
    rcases hy with e | e
    · subst e
      exact br_t (by decide) (k26 Y t)
    · subst e
      refine br_f (fun x => x rfl) (r_tk (by rw [pTk_1]; exact hN) wA (by rw [pTk_1]; exact h2) (by rw [pTk_o (fun e => h12 e.symm)]; exact f2) t (fun Z' t' => k26 Z' ?_))
      rw [show pTk (pTk S j1 x) j2 1 = pSet (pTk S j1 x) j2 (qTake (pTk S j1 x).2.1 5 3 ((pTk S j1 x).2.2 j2)) from if_pos rfl]
      exact t'
  unfold wX12_has
  rcases hx with e | e
  · subst e
    exact br_t (by decide) (k13 Z t)
  · subst e
    refine br_f (fun x => x rfl) (r_tk hN hw h1 f1 t (fun Z' t' => k13 Z' ?_))
    rw [show pTk S j1 1 = pSet S j1 (qTake S.2.1 5 3 (S.2.2 j1)) from if_pos rfl]
    exact t'
theorem z4_xor2 {c : Nat} (h : c < 4) : (nI c ^^^ 2 : Int32) = nI (2 * (1 - c / 2) + c % 2) := by
  rcases (show c = 0 ∨ c = 1 ∨ c = 2 ∨ c = 3 by omega) with e | e | e | e <;> subst e <;> rfl
theorem z4_xor1 {c : Nat} (h : c < 4) : (nI c ^^^ 1 : Int32) = nI (2 * (c / 2) + (1 - c % 2)) := by
  rcases (show c = 0 ∨ c = 1 ∨ c = 2 ∨ c = 3 by omega) with e | e | e | e <;> subst e <;> rfl
theorem z4_out {c : Nat} (h : c < 4) : ((10 : Int32) * (nI c >>> (1 &&& 31) : Int32)) + (nI c &&& 1) = nI (10 * (c / 2) + c % 2) := by
  rcases (show c = 0 ∨ c = 1 ∨ c = 2 ∨ c = 3 by omega) with e | e | e | e <;> subst e <;> rfl
theorem m_two {a1 a2 a3 : Int32} (h : zI S Q Z) : wX11_two a1 a2 a3 Z (fun r Z1 => wX12_two a1 a2 a3 Z1 (zD r)) := by
  obtain ⟨hw, hc, hr, -⟩ := id h
  have hN := hw.1
  unfold wX11_two
  refine c_has hN hc (fun ha => br_f (by decide) ?_) (fun ha => ?_)
  · refine c_has hN hc (fun hb => br_f (by decide) ?_) (fun hb => ?_)
    · refine br_c (fun hab => ?_) (fun hab => ?_)
      · unfold wX12_two
        exact r_has_t hN hr ha (br_f (by decide) (r_has_t hN hr hb (br_f (by decide) (br_t hab ⟨rfl, h.inv⟩))))
      refine c_win (fun hd => br_t (by decide) ?_) (fun hd => br_f (fun x => x rfl) ?_)
      · obtain ⟨j1, h1, rfl⟩ := id ha
        obtain ⟨j2, h2, rfl⟩ := id hb
        obtain ⟨n, -, hn, rfl⟩ := zW_n 1 60 rfl rfl (by decide) hd
        have h12 : ¬ j1 = j2 := fun e => hab (by rw [e])
        have i1 : vp_in (nI j1) 6 := vp_in_nI (by omega) (by decide)
        have i2 : vp_in (nI j2) 6 := vp_in_nI (by omega) (by decide)
        have cj1 : (nI j1).toNatClampNeg = j1 := nI_clamp (by omega)
        have cj2 : (nI j2).toNatClampNeg = j2 := nI_clamp (by omega)
        have four : ∀ j, j < S.1 → (S.2.2 j 10 < 4 ↔ ¬ S.2.2 j 10 = 4) := by
          intro j hj
          obtain ⟨c, hc, ec⟩ := zin_nI (n := 4) (hw.2.2 j hj).jobs (by decide)
          rw [ec]
          refine ⟨fun x e => ?_, fun x => nI_lt (b := 4) (Nat.lt_of_le_of_ne hc (fun e => x (by rw [e]; rfl))) (by decide)⟩
          rw [e] at x
          exact absurd x (by decide)
        have ref : ∀ r Z2, kFr Z Z2 → (S.2.2 j1 10 = 4 → r = -2) → (¬ S.2.2 j1 10 = 4 → S.2.2 j2 10 = 4 → r = -2) → (¬ S.2.2 j1 10 = 4 → ¬ S.2.2 j2 10 = 4 → zFs (vTwo S j1 j2 n) (fun c => nI (10 * (c / 2) + c % 2)) 4 r) → wX12_two (nI j1) (nI j2) (nI n) Z2 (zD r) := by
          intro r Z2 f2 q1 q2 q3
          have g2 := h.k f2
          unfold wX12_two
          refine r_has_t hN g2.2.2.1 ha (br_f (by decide) (r_has_t hN g2.2.2.1 hb (br_f (by decide) (br_f hab (r_win_t hd (br_t (by decide) ?_))))))
          have e1 : Z2 98 (42 + j1) = S.2.2 j1 10 := (g2.2.2.1.2.2 j1 h1).2.2.2.2.2.2.2.1
          have e2 : Z2 98 (42 + j2) = S.2.2 j2 10 := (g2.2.2.1.2.2 j2 h2).2.2.2.2.2.2.2.1
          simp (disch := omega) only [zlit_add, nI_clamp, vp_in_nI, true_and]
          rw [e1, e2]
          refine br_c (fun c => ⟨(q1 c).symm, g2.inv⟩) (fun c1 => br_c (fun c2 => ?_) (fun c2 => ⟨(q2 c1 (Classical.not_not.mp c2)).symm, g2.inv⟩))
          have hz := q3 c1 c2
          refine rT_keep g2 (fun Z3 t3 => ?_)
          rintro _ rfl
          refine pk_loop (σ := zS) (fun m x Y => wX12_two_73 (nI j1) (nI j2) (nI n) (zD r) m (nI x) Y) (fun x Y => rT S S Z2 Y ∧ ∀ k, k < 2 * x → ¬ vTwo S j1 j2 n k) 2 0 Z3 (Nat.zero_le _) ⟨t3, fun k hk => absurd hk (Nat.not_lt_zero _)⟩ ?_ ?_
          · rintro m Y ⟨t, y⟩
            show wX12_two_73b _ (nI j1) (nI j2) (nI n) 2 Y _
            unfold wX12_two_73b
            exact br_t (Int32.le_refl _) ⟨(zFs.u hz (Or.inr ⟨rfl, fun k hk => y k hk⟩)).symm, (t.I g2).inv⟩
          · rintro m x Y hx ⟨t, y⟩ ih
            show wX12_two_73b (fun x4 Z => wX12_two_73 (nI j1) (nI j2) (nI n) (zD r) m x4 Z) (nI j1) (nI j2) (nI n) (nI x) Y _
            unfold wX12_two_73b
            refine br_f (nI_ge (b := 2) hx (by decide)) ?_
            rintro _ rfl
            refine pk_loop (σ := zS) (fun p v Y => wX12_two_82 (fun x4 Z => wX12_two_73 (nI j1) (nI j2) (nI n) (zD r) m x4 Z) (nI j1) (nI j2) (nI n) (zD r) p (nI x) (nI v) Y) (fun v Y => rT S S Z2 Y ∧ ∀ k, k < 2 * x + v → ¬ vTwo S j1 j2 n k) 2 0 Y (Nat.zero_le _) ⟨t, y⟩ ?_ ?_
            · rintro p W ⟨t, y⟩
              show wX12_two_82b _ _ (nI j1) (nI j2) (nI n) (nI x) 2 W _
              unfold wX12_two_82b
              refine br_t (Int32.le_refl _) ?_
              rintro _ rfl
              rw [nI_1]
              exact ih W ⟨t, fun k hk => y k (by omega)⟩
            · rintro p v W hv ⟨t, y⟩ ih'
              show wX12_two_82b (fun x4 Z => wX12_two_73 (nI j1) (nI j2) (nI n) (zD r) m x4 Z) (fun x4 x5 Z => wX12_two_82 (fun x4 Z => wX12_two_73 (nI j1) (nI j2) (nI n) (zD r) m x4 Z) (nI j1) (nI j2) (nI n) (zD r) p x4 x5 Z) (nI j1) (nI j2) (nI n) (nI x) (nI v) W _
              unfold wX12_two_82b
              have sx : (1 - nI x : Int32) = nI (1 - x) := by
                rcases (show x = 0 ∨ x = 1 by omega) with e | e <;> subst e <;> rfl
              have sv : (1 - nI v : Int32) = nI (1 - v) := by
                rcases (show v = 0 ∨ v = 1 by omega) with e | e <;> subst e <;> rfl
              rw [sx, sv]
              have kx : (2 * x + v) / 2 = x := by omega
              have kv : (2 * x + v) % 2 = v := by omega
              have n21 : ¬ j2 = j1 := fun e => h12 e.symm
              have k155 : ∀ W', rT S S Z2 W' → ¬ vTwo S j1 j2 n (2 * x + v) → wX12_two_155 (fun x4 Z => wX12_two_73 (nI j1) (nI j2) (nI n) (zD r) m x4 Z) (fun x4 x5 Z => wX12_two_82 (fun x4 Z => wX12_two_73 (nI j1) (nI j2) (nI n) (zD r) m x4 Z) (nI j1) (nI j2) (nI n) (zD r) p x4 x5 Z) (nI j1) (nI j2) (nI n) (nI x) (nI v) W' (zD r) := by
                intro W' t' z
                unfold wX12_two_155
                rintro _ rfl
                rw [nI_1]
                refine ih' W' ⟨t', fun k hk => ?_⟩
                by_cases e : k = 2 * x + v
                · rw [e]; exact z
                · exact y k (by omega)
              refine br_f (nI_ge (b := 2) hv (by decide)) ?_
              refine r_gain hw h1 h2 h12 c1 c2 hn (by omega) (by omega) (Or.inl rfl) t (fun W1 t1 => ?_)
              refine r_gain hw h1 h2 h12 c1 c2 hn (by omega) (by omega) (Or.inl rfl) t1 (fun W2 t2 => ?_)
              rw [if_pos rfl, if_pos rfl]
              refine br_c (fun z => k155 W2 t2 (fun q => q.1 (by rw [kx, kv]; exact z))) (fun z => ?_)
              refine r_gain hw h1 h2 h12 c1 c2 hn (by omega) (by omega) (Or.inr rfl) t2 (fun W3 t3 => ?_)
              refine r_gain hw h1 h2 h12 c1 c2 hn (by omega) (by omega) (Or.inr rfl) t3 (fun W4 t4 => ?_)
              rw [if_neg n21, if_neg n21]
              refine br_c (fun z' => k155 W4 t4 (fun q => q.2 (by rw [kx, kv]; exact z'))) (fun z' => ⟨?_, (t4.I g2).inv⟩)
              rw [zlit_mul, nI_add]
              refine (zFs.u hz (Or.inl ⟨2 * x + v, by omega, ?_, ⟨by rw [kx, kv]; exact z, by rw [kx, kv]; exact z'⟩, y⟩)).symm
              show _ = nI (10 * ((2 * x + v) / 2) + (2 * x + v) % 2)
              rw [kx, kv]
        have full : ∀ j, j < S.1 → ∀ K : Int32 → zS → Prop, (¬ S.2.2 j 10 = 4 → K 0 Z) → (S.2.2 j 10 = 4 → K 1 Z) → wX5_isFull (6 * 0 + j) Z K := by
          intro j hj K k0 k1
          unfold wX5_isFull
          rw [(hc.2.2 j hj).f 10 (by decide)]
          exact br_c (fun c => k0 ((four j hj).mp c)) (fun c => k1 (Classical.byContradiction (fun x => c ((four j hj).mpr x))))
        refine ⟨i1, ?_⟩
        rw [cj1]
        refine full j1 h1 _ (fun c1 => br_f (fun x => x rfl) ⟨i2, ?_⟩) (fun c1 => br_t (by decide) (ref _ Z kFr.rf (fun _ => rfl) (fun x => absurd c1 x) (fun x => absurd c1 x)))
        rw [cj2]
        refine full j2 h2 _ (fun c2 => br_t rfl ?_) (fun c2 => br_f (by decide) (ref _ Z kFr.rf (fun x => absurd x c1) (fun _ _ => rfl) (fun _ x => absurd c2 x)))
        have ref' : ∀ r Z2, kFr Z Z2 → zFs (vTwo S j1 j2 n) (fun c => nI (10 * (c / 2) + c % 2)) 4 r → wX12_two (nI j1) (nI j2) (nI n) Z2 (zD r) := fun r Z2 f2 q => ref r Z2 f2 (fun x => absurd x c1) (fun _ x => absurd x c2) (fun _ _ => q)
        rintro _ rfl
        refine pk_loop (σ := zS) (fun m i Y => wX11_two_75 (nI j1) (nI j2) (nI n) (fun r Z1 => wX12_two (nI j1) (nI j2) (nI n) Z1 (zD r)) m (nI i) Y) (fun i Y => cRel 0 S Y ∧ kFr Z Y ∧ ∀ k, k < i → Y 93 k = vG1 S j1 j2 n (k / 2) (k % 2) ∧ Y 94 k = vG2 S j1 j2 n (k / 2) (k % 2)) 4 0 Z (Nat.zero_le _) ⟨hc, kFr.rf, fun k hk => absurd hk (Nat.not_lt_zero _)⟩ ?_ ?_
        · rintro m Y ⟨y0, yf, y⟩
          show wX11_two_75b _ (nI j1) (nI j2) (nI n) 4 Y _
          unfold wX11_two_75b
          refine br_t (Int32.le_refl _) ?_
          rintro _ rfl
          refine pk_loop (σ := Unit) (fun m i _ => wX11_two_99 (nI j1) (nI j2) (nI n) (fun r Z1 => wX12_two (nI j1) (nI j2) (nI n) Z1 (zD r)) m (nI i) Y) (fun i _ => ∀ k, k < i → ¬ vTwo S j1 j2 n k) 4 0 () (Nat.zero_le _) (fun k hk => absurd hk (Nat.not_lt_zero _)) ?_ ?_
          · rintro m - z
            show wX11_two_99b _ (nI j1) (nI j2) (nI n) 4 Y _
            unfold wX11_two_99b
            exact br_t (Int32.le_refl _) (ref' _ Y yf (Or.inr ⟨rfl, z⟩))
          · rintro m i - hi z ih
            show wX11_two_99b (fun x4 Z => wX11_two_99 (nI j1) (nI j2) (nI n) (fun r Z1 => wX12_two (nI j1) (nI j2) (nI n) Z1 (zD r)) m x4 Z) (nI j1) (nI j2) (nI n) (nI i) Y _
            unfold wX11_two_99b wX11_two_156
            rw [z4_xor2 hi, z4_xor1 hi, z4_out hi]
            simp (disch := omega) only [nI_clamp, vp_in_nI, true_and]
            have p2 := y (2 * (1 - i / 2) + i % 2) (by omega)
            have p1 := y (2 * (i / 2) + (1 - i % 2)) (by omega)
            rw [show (2 * (1 - i / 2) + i % 2) / 2 = 1 - i / 2 by omega, show (2 * (1 - i / 2) + i % 2) % 2 = i % 2 by omega] at p2
            rw [show (2 * (i / 2) + (1 - i % 2)) / 2 = i / 2 by omega, show (2 * (i / 2) + (1 - i % 2)) % 2 = 1 - i % 2 by omega] at p1
            rw [(y i hi).1, (y i hi).2, p2.1, p1.2]
            have go : ¬ vTwo S j1 j2 n i → ∀ y31 : Int32, y31 = nI i + 1 → wX11_two_99 (nI j1) (nI j2) (nI n) (fun r Z1 => wX12_two (nI j1) (nI j2) (nI n) Z1 (zD r)) m y31 Y := by
              intro q
              rintro _ rfl
              rw [nI_1]
              refine ih () (fun k hk => ?_)
              by_cases e : k = i
              · rw [e]; exact q
              · exact z k (by omega)
            exact br_f (nI_ge (b := 4) hi (by decide)) (br_c (fun q => go (fun w => w.1 q)) (fun q => br_c (fun q' => go (fun w => w.2 q')) (fun q' => ref' _ Y yf (Or.inl ⟨i, hi, rfl, ⟨q, q'⟩, z⟩))))
        · rintro m i Y hi ⟨y0, yf, y⟩ ih
          show wX11_two_75b (fun x4 Z => wX11_two_75 (nI j1) (nI j2) (nI n) (fun r Z1 => wX12_two (nI j1) (nI j2) (nI n) Z1 (zD r)) m x4 Z) (nI j1) (nI j2) (nI n) (nI i) Y _
          unfold wX11_two_75b
          refine br_f (nI_ge (b := 4) hi (by decide)) (c_pair hw h1 h2 h12 c1 c2 hn hi y0 (fun Z' w0 wf w3 w4 => ?_))
          rintro _ rfl
          rw [nI_1]
          refine ih Z' ⟨w0, yf.tr wf, fun k hk => ?_⟩
          rw [w3 k (by omega), w4 k (by omega)]
          by_cases e : k = i
          · rw [if_pos e, if_pos e, e]; exact ⟨rfl, rfl⟩
          · rw [if_neg e, if_neg e]; exact y k (by omega)
      · unfold wX12_two
        exact r_has_t hN hr ha (br_f (by decide) (r_has_t hN hr hb (br_f (by decide) (br_f hab (r_win_f hd (br_f (fun x => x rfl) ⟨rfl, h.inv⟩))))))
    · refine br_t rfl ?_
      unfold wX12_two
      exact r_has_t hN hr ha (br_f (by decide) (r_has_f hN hr hb (br_t rfl ⟨rfl, h.inv⟩)))
  · refine br_t rfl ?_
    unfold wX12_two
    exact r_has_f hN hr ha (br_t rfl ⟨rfl, h.inv⟩)
end N8
