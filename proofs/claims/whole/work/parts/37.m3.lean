/-! FACE: misses, ran, load, alone -/
section M3
variable {S Q P : zP} {Z Z0 : zS} {T : Nat}
def vHit (S : zP) (a : Int32) (P : zP) (o : Nat) : Prop := (a = -1 ∨ nI o = a) ∧ vLate S P o
theorem r_later {a : Int32} {K : Int32 → zS → Prop} (hN : S.1 ≤ 6) (e1 : P.1 = S.1) (t : rT S P Z0 Z) (hk : ∀ r, zFst (vHit S a P) 0 S.1 r → K r Z) : wX12_later a Z K := by
  unfold wX12_later
  rintro _ rfl
  refine pk_loop (σ := Unit) (fun n i _ => wX12_later_2 a K n (nI i) Z) (fun i _ => ∀ o, o < i → ¬ vHit S a P o) S.1 0 () (Nat.zero_le _) (fun o ho => absurd ho (Nat.not_lt_zero _)) ?_ ?_
  · rintro n _ e
    show wX12_later_2b _ a (nI S.1) Z K
    unfold wX12_later_2b
    rw [t.2.1.1, e1]
    exact br_t (Int32.le_refl _) (hk _ (Or.inr ⟨rfl, fun n _ hn => e n hn⟩))
  · rintro n i _ hi e ih
    show wX12_later_2b (fun x2 Z => wX12_later_2 a K n x2 Z) a (nI i) Z K
    unfold wX12_later_2b
    have go : ¬ vHit S a P i → wX12_later_43 (fun x2 Z => wX12_later_2 a K n x2 Z) a (nI i) Z K := by
      intro q
      unfold wX12_later_43
      rintro _ rfl
      rw [nI_1]
      refine ih () (fun o ho => ?_)
      by_cases z : o = i
      · rw [z]; exact q
      · exact e o (by omega)
    have e8 : Z 98 (48 + i) = P.2.2 i 8 := (t.2.1.2.2 i (by rw [e1]; exact hi)).2.2.2.2.2.2.2.2.1
    have a8 : Z 102 (48 + i) = S.2.2 i 8 := (t.1.2.2 i hi).2.2.2.2.2.2.2.2.1
    have hi6 : i < 6 := Nat.lt_of_lt_of_le hi hN
    have k20 : (a = -1 ∨ nI i = a) → wX12_later_20 (fun x2 Z => wX12_later_2 a K n x2 Z) a (nI i) Z K := by
      intro q
      unfold wX12_later_20
      simp (disch := omega) only [zlit_add, nI_clamp, vp_in_nI, true_and]
      rw [e8, a8]
      refine br_c (fun c => go (fun x => ?_)) (fun c => hk _ (Or.inl ⟨i, Nat.zero_le _, hi, rfl, ⟨q, ?_⟩, fun m _ hm => e m hm⟩))
      · have := zle.mp c
        have := x.2
        unfold vLate at this
        omega
      · unfold vLate
        exact Int.not_le.mp (fun x => c (zle.mpr x))
    rw [t.2.1.1, e1]
    refine br_f (nI_ge hi (by omega)) ?_
    refine br_c (fun c => k20 (Or.inl c)) (fun c => br_c (fun d => go (fun x => x.1.elim c d)) (fun d => k20 (Or.inr (Classical.not_not.mp d))))
/-- behind how many, or who -/
def vMiss (S : zP) (a r : Int32) : Prop := (∃ n o, 1 ≤ n ∧ n < 100 ∧ o < S.1 ∧ r = (if a = -1 then nI o else nI n) ∧ vHit S a (pGoN n S) o ∧ (∀ o', o' < o → ¬ vHit S a (pGoN n S) o') ∧ ∀ m, 1 ≤ m → m < n → ∀ o', o' < S.1 → ¬ vHit S a (pGoN m S) o') ∨ (r = -4 ∧ ∀ m, 1 ≤ m → m < 100 → ∀ o', o' < S.1 → ¬ vHit S a (pGoN m S) o')
theorem vMiss.u {a r r' : Int32} (x : vMiss S a r) (y : vMiss S a r') : r = r' := by
  rcases x with ⟨n, o, h1, h2, h3, e, h4, h5, h6⟩ | ⟨e, h⟩ <;> rcases y with ⟨n', o', h1', h2', h3', e', h4', h5', h6'⟩ | ⟨e', h'⟩
  · rcases Nat.lt_trichotomy n n' with z | z | z
    · exact absurd h4 (h6' n h1 z o h3)
    · subst z
      rcases Nat.lt_trichotomy o o' with z | z | z
      · exact absurd h4 (h5' o z)
      · rw [e, e', z]
      · exact absurd h4' (h5 o' z)
    · exact absurd h4' (h6 n' h1' z o' h3')
  · exact absurd h4 (h' n h1 h2 o h3)
  · exact absurd h4' (h n' h1' h2' o' h3')
  · rw [e, e']
theorem r_misses {a : Int32} {K : Int32 → zS → Prop} (h : zI S Q Z) (hk : ∀ r Z', vMiss S a r → zI S Q Z' → K r Z') : wX12_misses_15 a Z K := by
  have hw := h.1
  have hN := hw.1
  unfold wX12_misses_15
  refine rT_keep h (fun Z3 t3 => ?_)
  rintro _ rfl _ rfl
  refine pk_loop (σ := Int32 × zS) (fun n i s => wX12_misses_28 a K n s.1 (nI (i + 1)) s.2) (fun i s => rT S (pGoN i S) Z s.2 ∧ ((s.1 = -4 ∧ ∀ m, 1 ≤ m → m < i + 1 → ∀ o', o' < S.1 → ¬ vHit S a (pGoN m S) o') ∨ (¬ s.1 = -4 ∧ vMiss S a s.1))) 99 0 (-4, Z3) (Nat.zero_le _) ⟨t3, Or.inl ⟨rfl, fun m h1 h2 => absurd h2 (by omega)⟩⟩ ?_ ?_
  · rintro n ⟨x, Y⟩ ⟨t, e⟩
    show wX12_misses_28b _ a x (nI 100) Y K
    unfold wX12_misses_28b wX12_misses_76
    refine br_t (Int32.le_refl _) (rT_back hN t (fun Z5 t5 => hk _ _ ?_ (t5.I h)))
    rcases e with e | e
    · exact Or.inr e
    · exact e.2
  · rintro n i ⟨x, Y⟩ hi ⟨t, e⟩ ih
    show wX12_misses_28b (fun x2 x3 Z => wX12_misses_28 a K n x2 x3 Z) a x (nI (i + 1)) Y K
    unfold wX12_misses_28b wX12_misses_76
    refine br_f (nI_ge (a := i + 1) (b := 100) (by omega) (by decide)) ?_
    refine br_c (fun c => rT_back hN t (fun Z5 t5 => hk _ _ ?_ (t5.I h))) (fun c => ?_)
    · rcases e with e | e
      · exact absurd e.1 c
      · exact e.2
    · have c := Classical.not_not.mp c
      have e' := (e.resolve_right (fun z => z.1 c)).2
      have wi := hw.goN i (by omega)
      refine rT_go0 (by omega) wi t (fun Z5 t5 _ _ => ?_)
      have e5 : (pGoN (i + 1) S).1 = S.1 := pGoN_1 _
      refine r_later (P := pGoN (i + 1) S) hN e5 t5 (fun r hr => ?_)
      rcases hr with ⟨o, -, ho, er, hh, hl⟩ | ⟨er, hh⟩
      · have nr : ¬ r = -4 := by rw [er]; exact nI_n4 (by omega)
        have fc : vMiss S a (if a = -1 then nI o else nI (i + 1)) := Or.inl ⟨i + 1, o, by omega, by omega, ho, rfl, hh, fun o' h' => hl o' (Nat.zero_le _) h', e'⟩
        refine br_f nr ?_
        unfold wX12_misses_69 wX12_misses_70
        refine br_c (fun d => ?_) (fun d => ?_)
        · rintro _ rfl
          rw [nI_1]
          rw [if_neg d] at fc
          exact ih (nI (i + 1), Z5) ⟨t5, Or.inr ⟨nI_n4 (by omega), fc⟩⟩
        · rintro _ rfl
          rw [nI_1]
          rw [if_pos (Classical.not_not.mp d), ← er] at fc
          exact ih (r, Z5) ⟨t5, Or.inr ⟨nr, fc⟩⟩
      · refine br_t er ?_
        unfold wX12_misses_70
        rintro _ rfl
        rw [nI_1]
        refine ih (x, Z5) ⟨t5, Or.inl ⟨c, fun m h1 h2 o' ho' => ?_⟩⟩
        by_cases z : m = i + 1
        · rw [z]; exact hh o' (Nat.zero_le _) ho'
        · exact e' m h1 (by omega) o' ho'
theorem nI_m1 {i : Nat} (h : i < 2 ^ 31) : ¬ nI i = -1 := fun e => by
  have a := nI_toInt h
  rw [e] at a
  have b : ((-1 : Int32)).toInt = -1 := by decide
  rw [b] at a
  omega
theorem m_misses {a1 : Int32} (h : zI S Q Z) : wX11_misses a1 Z (fun r Z1 => wX12_misses a1 Z1 (zD r)) := by
  obtain ⟨hw, hc, hr, -⟩ := id h
  have hN := hw.1
  have hl8 : ∀ s, s < S.1 → zin (S.2.2 s 8) 0 999 := fun s hs => (hw.2.2 s hs).late
  unfold wX11_misses
  refine br_c (fun n1 => ?_) (fun n1 => ?_)
  · refine c_has hN hc (fun ha => ?_) (fun ha => ?_)
    · refine br_t (by decide) (cT_becomes hw hc kFr.rf (fun Z1 t1 => ?_))
      obtain ⟨j, hj, rfl⟩ := id ha
      refine c_tillLate (n := 99) hN hl8 hw (by decide) (by decide) rfl hj t1 (fun r Z' hz _ f' => ?_)
      have h2 := h.k f'
      unfold wX12_misses
      refine br_f n1 (r_has_t hN h2.2.2.1 ha (br_t (by decide) (r_misses h2 (fun r' Z2 hm h3 => ⟨?_, h3.inv⟩))))
      refine hm.u ?_
      rcases hz with ⟨n, g1, g2, g3, g4, g5⟩ | ⟨g1, g2⟩
      · refine Or.inl ⟨n, j, g1, by omega, hj, by rw [if_neg n1]; exact g3, ⟨Or.inr rfl, g4⟩, fun o' ho' x => ?_, fun m m1 m2 o' ho' x => ?_⟩
        · rcases x.1 with y | y
          · exact n1 y
          · have := (nI_eq (a := o') (b := j) (by omega) (by omega)).mp y
            omega
        · rcases x.1 with y | y
          · exact n1 y
          · have := (nI_eq (a := o') (b := j) (by omega) (by omega)).mp y
            rw [this] at x
            exact g5 m m1 m2 x.2
      · refine Or.inr ⟨g1, fun m m1 m2 o' ho' x => ?_⟩
        rcases x.1 with y | y
        · exact n1 y
        · have := (nI_eq (a := o') (b := j) (by omega) (by omega)).mp y
          rw [this] at x
          exact g2 m m1 m2 x.2
    · refine br_f (fun x => x rfl) ?_
      unfold wX12_misses
      exact br_f n1 (r_has_f hN hr ha (br_f (fun x => x rfl) ⟨rfl, h.inv⟩))
  · have n1 := Classical.not_not.mp n1
    have ref : ∀ r Z2, kFr Z Z2 → vMiss S a1 r → wX12_misses a1 Z2 (zD r) := by
      intro r Z2 f2 hv
      have h2 := h.k f2
      unfold wX12_misses
      exact br_t n1 (r_misses h2 (fun r' Z3 hm h3 => ⟨hm.u hv, h3.inv⟩))
    unfold wX11_firstLate
    refine cT_becomes hw hc kFr.rf (fun Z1 t1 => ?_)
    rintro _ rfl
    refine pk_loop (σ := zS) (fun n i Y => wX11_firstLate_13 (fun r Z1 => wX12_misses a1 Z1 (zD r)) n (nI (i + 1)) Y) (fun i Y => cT S (pGoN i S) Z Y ∧ ∀ m, 1 ≤ m → m < i + 1 → ∀ o', o' < S.1 → ¬ vHit S a1 (pGoN m S) o') 99 0 Z1 (Nat.zero_le _) ⟨t1, fun m h1 h2 => absurd h2 (by omega)⟩ ?_ ?_
    · rintro n Y ⟨t, e⟩
      show wX11_firstLate_13b _ (nI 100) Y _
      unfold wX11_firstLate_13b
      exact br_t (nI_lt (a := 99) (b := 100) (by decide) (by decide)) (ref _ Y t.2.2 (Or.inr ⟨rfl, e⟩))
    · rintro n i Y hi ⟨t, e⟩ ih
      show wX11_firstLate_13b (fun x1 Z => wX11_firstLate_13 (fun r Z1 => wX12_misses a1 Z1 (zD r)) n x1 Z) (nI (i + 1)) Y _
      unfold wX11_firstLate_13b
      refine br_f (nI_nlt (a := 99) (b := i + 1) (by omega) (by decide)) ?_
      have wi := hw.goN i (by omega)
      have wi1 := hw.goN (i + 1) (by omega)
      refine cT_go hN (by omega) wi t (fun Z5 t5 _ _ => ?_)
      have e5 : (pGoN (i + 1) S).1 = S.1 := pGoN_1 _
      rintro _ rfl
      refine pk_loop (σ := Unit) (fun m o _ => wX11_firstLate_29 (fun x1 Z => wX11_firstLate_13 (fun r Z1 => wX12_misses a1 Z1 (zD r)) n x1 Z) (fun r Z1 => wX12_misses a1 Z1 (zD r)) m (nI (i + 1)) (nI o) Z5) (fun o _ => ∀ o', o' < o → ¬ vHit S a1 (pGoN (i + 1) S) o') S.1 0 () (Nat.zero_le _) (fun o ho => absurd ho (Nat.not_lt_zero _)) ?_ ?_
      · rintro m _ eo
        show wX11_firstLate_29b _ _ (nI (i + 1)) (nI S.1) Z5 _
        unfold wX11_firstLate_29b
        rw [t5.2.1.1]
        refine br_t (Int32.le_refl _) ?_
        rintro _ rfl
        rw [nI_1]
        refine ih Z5 ⟨t5, fun m h1 h2 o' ho' => ?_⟩
        by_cases z : m = i + 1
        · rw [z]; exact eo o' ho'
        · exact e m h1 (by omega) o' ho'
      · rintro m o _ ho eo ih2
        show wX11_firstLate_29b _ (fun x1 x2 Z => wX11_firstLate_29 (fun x1 Z => wX11_firstLate_13 (fun r Z1 => wX12_misses a1 Z1 (zD r)) n x1 Z) (fun r Z1 => wX12_misses a1 Z1 (zD r)) m x1 x2 Z) (nI (i + 1)) (nI o) Z5 _
        unfold wX11_firstLate_29b
        rw [t5.2.1.1]
        refine br_f (nI_ge ho (by omega)) ?_
        refine c_lateMore (P := pGoN (i + 1) S) hN e5 ho t5 ?_
        have vi := vLate_i (S := S) (P := pGoN (i + 1) S) (j := o) (wi1.2.2 o (by rw [e5]; exact ho)).late (hl8 o ho)
        refine br_c (fun c => ?_) (fun c => ref _ Z5 t5.2.2 (Or.inl ⟨i + 1, o, by omega, by omega, ho, by rw [if_pos n1], ⟨Or.inl n1, Classical.not_not.mp (fun x => c (vi.mpr x))⟩, eo, e⟩))
        rintro _ rfl
        rw [nI_1]
        refine ih2 () (fun o' ho' => ?_)
        by_cases z : o' = o
        · rw [z]; exact fun x => vi.mp c x.2
        · exact eo o' (by omega)
/-- how many ticks -/
def vRan (S : zP) (a w : Int32) : Nat → Int32
  | 0 => 0
  | n + 1 => if (if w = 0 then pRn 0 (pGoN n S) else pCh 0 (pGoN n S)) = a then vRan S a w n + 1 else vRan S a w n
theorem m_ran {a1 a2 a3 : Int32} (h : zI S Q Z) : wX11_ran a1 a2 a3 Z (fun r Z1 => wX12_ran a1 a2 a3 Z1 (zD r)) := by
  obtain ⟨hw, hc, hr, -⟩ := id h
  have hN := hw.1
  unfold wX11_ran
  refine c_has hN hc (fun ha => ?_) (fun ha => ?_)
  · refine br_f (by decide) (c_win (fun hb => ?_) (fun hb => ?_))
    · refine br_f (by decide) (c_win (fun hd => ?_) (fun hd => ?_))
      · refine br_t (by decide) ?_
        obtain ⟨n, -, hn, rfl⟩ := zW_n 0 99 rfl rfl (by decide) hb
        have ref : ∀ Z2, kFr Z Z2 → wX12_ran a1 (nI n) a3 Z2 (zD (vRan S a1 a3 n)) := by
          intro Z2 f2
          have h2 := h.k f2
          unfold wX12_ran
          refine r_has_t hN h2.2.2.1 ha (br_f (by decide) (r_win_t hb (br_f (by decide) (r_win_t hd (br_t (by decide) (rT_keep h2 (fun Z3 t3 => ?_)))))))
          rintro _ rfl _ rfl
          refine pk_loop (σ := Int32 × zS) (fun m i s => wX12_ran_43 a1 (nI n) a3 (zD (vRan S a1 a3 n)) m s.1 (nI i) s.2) (fun i s => rT S (pGoN i S) Z2 s.2 ∧ s.1 = vRan S a1 a3 i) n 0 (0, Z3) (Nat.zero_le _) ⟨t3, rfl⟩ ?_ ?_
          · rintro m ⟨x, Y⟩ ⟨t, e⟩
            show wX12_ran_43b _ a1 (nI n) a3 x (nI n) Y _
            unfold wX12_ran_43b
            exact br_t (Int32.le_refl _) (rT_back hN t (fun Z5 t5 => ⟨e, (t5.I h2).inv⟩))
          · rintro m i ⟨x, Y⟩ hi ⟨t, e⟩ ih
            have e : x = vRan S a1 a3 i := e
            show wX12_ran_43b (fun x4 x5 Z => wX12_ran_43 a1 (nI n) a3 (zD (vRan S a1 a3 n)) m x4 x5 Z) a1 (nI n) a3 x (nI i) Y _
            unfold wX12_ran_43b
            refine br_f (nI_ge hi (by omega)) ?_
            have wi := hw.goN i (by omega)
            refine rT_go0 (by omega) wi t (fun Z5 t5 c5 c6 => ?_)
            have k68 : ∀ s0, s0 = (if a3 = 0 then pRn 0 (pGoN i S) else pCh 0 (pGoN i S)) → wX12_ran_68 (fun x4 x5 Z => wX12_ran_43 a1 (nI n) a3 (zD (vRan S a1 a3 n)) m x4 x5 Z) a1 (nI n) a3 x (nI i) s0 Z5 (zD (vRan S a1 a3 n)) := by
              rintro s0 es
              unfold wX12_ran_68 wX12_ran_75
              refine br_c (fun c => ?_) (fun c => ?_)
              · rintro _ rfl
                rw [nI_1]
                refine ih (x, Z5) ⟨t5, ?_⟩
                show x = vRan S a1 a3 (i + 1)
                unfold vRan
                rw [if_neg (by rw [← es]; exact c)]; exact e
              · rintro _ rfl _ rfl
                rw [nI_1]
                refine ih (x + 1, Z5) ⟨t5, ?_⟩
                show x + 1 = vRan S a1 a3 (i + 1)
                unfold vRan
                rw [if_pos (by rw [← es]; exact Classical.not_not.mp c), e]
            rw [c5, c6]
            exact br_c (fun c => k68 _ (if_neg c).symm) (fun c => k68 _ (if_pos (Classical.not_not.mp c)).symm)
        refine cT_becomes hw hc kFr.rf (fun Z1 t1 => ?_)
        rintro _ rfl _ rfl
        refine pk_loop (σ := Int32 × zS) (fun m i s => wX11_ran_49 a1 (nI n) a3 (fun r Z1 => wX12_ran a1 (nI n) a3 Z1 (zD r)) m s.1 (nI i) s.2) (fun i s => cT S (pGoN i S) Z s.2 ∧ s.1 = vRan S a1 a3 i) n 0 (0, Z1) (Nat.zero_le _) ⟨t1, rfl⟩ ?_ ?_
        · rintro m ⟨x, Y⟩ ⟨t, e⟩
          have e : x = vRan S a1 a3 n := e
          show wX11_ran_49b _ a1 (nI n) a3 x (nI n) Y _
          unfold wX11_ran_49b
          rw [e]
          exact br_t (Int32.le_refl _) (ref Y t.2.2)
        · rintro m i ⟨x, Y⟩ hi ⟨t, e⟩ ih
          have e : x = vRan S a1 a3 i := e
          show wX11_ran_49b (fun x4 x5 Z => wX11_ran_49 a1 (nI n) a3 (fun r Z1 => wX12_ran a1 (nI n) a3 Z1 (zD r)) m x4 x5 Z) a1 (nI n) a3 x (nI i) Y _
          unfold wX11_ran_49b
          refine br_f (nI_ge hi (by omega)) ?_
          have wi := hw.goN i (by omega)
          refine cT_go hN (by omega) wi t (fun Z5 t5 c5 c6 => ?_)
          have k84 : ∀ s0, s0 = (if a3 = 0 then pRn 0 (pGoN i S) else pCh 0 (pGoN i S)) → wX11_ran_84 (fun x4 x5 Z => wX11_ran_49 a1 (nI n) a3 (fun r Z1 => wX12_ran a1 (nI n) a3 Z1 (zD r)) m x4 x5 Z) a1 (nI n) a3 x (nI i) s0 Z5 (fun r Z1 => wX12_ran a1 (nI n) a3 Z1 (zD r)) := by
            rintro s0 es
            unfold wX11_ran_84 wX11_ran_91
            refine br_c (fun c => ?_) (fun c => ?_)
            · rintro _ rfl
              rw [nI_1]
              refine ih (x, Z5) ⟨t5, ?_⟩
              show x = vRan S a1 a3 (i + 1)
              unfold vRan
              rw [if_neg (by rw [← es]; exact c)]; exact e
            · rintro _ rfl _ rfl
              rw [nI_1]
              refine ih (x + 1, Z5) ⟨t5, ?_⟩
              show x + 1 = vRan S a1 a3 (i + 1)
              unfold vRan
              rw [if_pos (by rw [← es]; exact Classical.not_not.mp c), e]
          rw [c5, c6]
          exact br_c (fun c => k84 _ (if_neg c).symm) (fun c => k84 _ (if_pos (Classical.not_not.mp c)).symm)
      · refine br_f (fun x => x rfl) ?_
        unfold wX12_ran
        exact r_has_t hN hr ha (br_f (by decide) (r_win_t hb (br_f (by decide) (r_win_f hd (br_f (fun x => x rfl) ⟨rfl, h.inv⟩)))))
    · refine br_t rfl ?_
      unfold wX12_ran
      exact r_has_t hN hr ha (br_f (by decide) (r_win_f hb (br_t rfl ⟨rfl, h.inv⟩)))
  · refine br_t rfl ?_
    unfold wX12_ran
    exact r_has_f hN hr ha (br_t rfl ⟨rfl, h.inv⟩)
/-- the least load of some -/
def vLoad (S : zP) : Nat → Int32
  | 0 => pLoad S
  | n + 1 => if pLoad (pGoN (n + 1) S) < vLoad S n then pLoad (pGoN (n + 1) S) else vLoad S n
theorem m_load {a1 : Int32} (h : zI S Q Z) : wX11_load a1 Z (fun r Z1 => wX12_load_ a1 Z1 (zD r)) := by
  obtain ⟨hw, hc, hr, -⟩ := id h
  have hN := hw.1
  unfold wX11_load
  refine c_win (fun hb => ?_) (fun hb => ?_)
  · refine br_t (by decide) ?_
    obtain ⟨n, -, hn, rfl⟩ := zW_n 0 99 rfl rfl (by decide) hb
    have ref : ∀ Z2, kFr Z Z2 → wX12_load_ (nI n) Z2 (zD (vLoad S (n - 1))) := by
      intro Z2 f2
      have h2 := h.k f2
      unfold wX12_load_
      refine r_win_t hb (br_t (by decide) (rT_keep h2 (fun Z3 t3 => r_load hN t3.2.1 (fun s hs => (hw.2.2 s hs).1.sh) ?_)))
      rintro _ rfl
      refine pk_loop (σ := Int32 × zS) (fun m i s => wX12_load__27 (nI n) (zD (vLoad S (n - 1))) m s.1 (nI (i + 1)) s.2) (fun i s => rT S (pGoN i S) Z2 s.2 ∧ s.1 = vLoad S i) (n - 1) 0 (pLoad S, Z3) (Nat.zero_le _) ⟨t3, rfl⟩ ?_ ?_
      · rintro m ⟨x, Y⟩ ⟨t, e⟩
        show wX12_load__27b _ (nI n) x (nI (n - 1 + 1)) Y _
        unfold wX12_load__27b
        exact br_t (nI_le (by omega) (by omega)) (rT_back hN t (fun Z5 t5 => ⟨e, (t5.I h2).inv⟩))
      · rintro m i ⟨x, Y⟩ hi ⟨t, e⟩ ih
        have e : x = vLoad S i := e
        show wX12_load__27b (fun x2 x3 Z => wX12_load__27 (nI n) (zD (vLoad S (n - 1))) m x2 x3 Z) (nI n) x (nI (i + 1)) Y _
        unfold wX12_load__27b
        refine br_f (nI_ge (by omega) (by omega)) ?_
        have wi := hw.goN i (by omega)
        have wi1 := hw.goN (i + 1) (by omega)
        refine rT_go0 (by omega) wi t (fun Z5 t5 c5 c6 => r_load wi1.1 t5.2.1 (fun s hs => (wi1.2.2 s hs).1.sh) ?_)
        rintro _ rfl _ rfl
        rw [nI_1]
        refine ih (_, Z5) ⟨t5, ?_⟩
        show _ = vLoad S (i + 1)
        rw [e]; rfl
    refine cT_becomes hw hc kFr.rf (fun Z1 t1 => c_load (by decide) hN t1.1 ?_)
    rintro _ rfl
    refine pk_loop (σ := Int32 × zS) (fun m i s => wX11_load_33 (nI n) (fun r Z1 => wX12_load_ (nI n) Z1 (zD r)) m s.1 (nI (i + 1)) s.2) (fun i s => cT S (pGoN i S) Z s.2 ∧ s.1 = vLoad S i) (n - 1) 0 (pLoad S, Z1) (Nat.zero_le _) ⟨t1, rfl⟩ ?_ ?_
    · rintro m ⟨x, Y⟩ ⟨t, e⟩
      have e : x = vLoad S (n - 1) := e
      show wX11_load_33b _ (nI n) x (nI (n - 1 + 1)) Y _
      unfold wX11_load_33b
      rw [e]
      exact br_t (nI_le (by omega) (by omega)) (ref Y t.2.2)
    · rintro m i ⟨x, Y⟩ hi ⟨t, e⟩ ih
      have e : x = vLoad S i := e
      show wX11_load_33b (fun x2 x3 Z => wX11_load_33 (nI n) (fun r Z1 => wX12_load_ (nI n) Z1 (zD r)) m x2 x3 Z) (nI n) x (nI (i + 1)) Y _
      unfold wX11_load_33b
      refine br_f (nI_ge (by omega) (by omega)) ?_
      have wi := hw.goN i (by omega)
      have wi1 := hw.goN (i + 1) (by omega)
      refine cT_go hN (by omega) wi t (fun Z5 t5 c5 c6 => c_load (by decide) wi1.1 t5.1 ?_)
      rintro _ rfl _ rfl
      rw [nI_1]
      refine ih (_, Z5) ⟨t5, ?_⟩
      show _ = vLoad S (i + 1)
      rw [e]; rfl
  · refine br_f (fun x => x rfl) ?_
    unfold wX12_load_
    exact r_win_f hb (br_f (fun x => x rfl) ⟨rfl, h.inv⟩)
end M3
