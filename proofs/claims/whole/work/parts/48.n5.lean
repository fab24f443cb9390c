/-! FACE: comes -/
section N5
variable {S Q : zP} {Z Z' : zS} {K : Int32 → zS → Prop}
def qNew (k f : Int32) : zQ := upd (upd (fun _ => 0) 0 k) 1 f
theorem pAdd_e (k f b p : Int32) : pAdd k f b p S = (S.1 + 1, S.2.1, va_up S.2.2 S.1 (qBud b p (qNew k f))) := rfl
def qNew' (k f x y w : Int32) : zQ := upd (upd (upd (qNew k f) 2 x) 3 y) 4 w
theorem qBud_new (k f x y w b p : Int32) : qBud b p (qNew' k f x y w) = qBud b p (qNew k f) := by
  funext i
  simp only [qBud, qNew', upd_ap]
  repeat' split
  all_goals first | rfl | contradiction
theorem c_anew {v : Nat} {k f : Int32} {K : zS → Prop} (hk : ∀ Z', sRel v (qNew' k f (Z v 2) (Z v 3) (Z v 4)) Z' → sFr v Z Z' → K Z') : wX5_beginAnew v k f Z K := by
  unfold wX5_beginAnew wX5_dropJobs
  rintro _ rfl _ rfl _ rfl _ rfl _ rfl _ rfl _ rfl _ rfl _ rfl
  refine hk _ ⟨⟨fun m hm => ?_, ?_, fun i hi => ?_⟩, fun a => absurd ?_ a⟩ ?_
  · rcases (show m = 0 ∨ m = 1 ∨ m = 2 ∨ m = 3 ∨ m = 4 ∨ m = 5 ∨ m = 6 ∨ m = 7 ∨ m = 8 ∨ m = 9 ∨ m = 10 by omega) with e | e | e | e | e | e | e | e | e | e | e <;> subst e <;> simp [zU_ap, qNew', qNew, upd_ap]
  · simp [zU_ap, qNew', qNew, upd_ap]
  · exact absurd hi (by simp [qNew', qNew, upd_ap])
  · simp [qNew', qNew, upd_ap]
  · exact (((((((sFr.u _ _).tr (sFr.u _ _)).tr (sFr.u _ _)).tr (sFr.u _ _)).tr (sFr.u _ _)).tr (sFr.u _ _)).tr (sFr.u _ _)).tr ((sFr.u _ _).tr (sFr.u _ _))
theorem c_add {k f b p : Int32} {K : zS → Prop} (hn : S.1 < 6) (hz : zSz b p) (h : cRel 0 S Z) (hk : ∀ Z', cRel 0 (pAdd k f b p S) Z' → cFr 0 Z Z' → K Z') : wX3_addServer 0 k f b p Z K := by
  have c : nI S.1 < 6 := nI_lt (b := 6) hn (by decide)
  have cl : (nI S.1).toNatClampNeg = S.1 := nI_clamp (by omega)
  have in6 : vp_in (nI S.1) 6 := vp_in_nI hn (by decide)
  unfold wX3_addServer
  rw [h.1, cl]
  refine br_t c ⟨in6, c_anew (fun Z1 r1 f1 => ?_)⟩
  have f1' : cFr 0 Z Z1 := cFr.s (p := 0) (by decide) hn f1
  have e1 : Z1 (54 + 0) 1 = nI S.1 := by rw [f1 (54 + 0) (by omega) (by omega) (by omega)]; exact h.1
  rw [e1, cl]
  refine ⟨in6, c_setBudget hz.1 hz.2.1 r1 (fun Z2 r2 f2 => ?_)⟩
  rw [qBud_new] at r2
  have e2 : Z2 (54 + 0) 1 = nI S.1 := by rw [f2 (54 + 0) (by omega) (by omega) (by omega)]; exact e1
  have fs : sFr (6 * 0 + S.1) Z Z2 := f1.tr f2
  rintro _ rfl
  refine hk _ ⟨?_, ?_, fun s hs => ?_⟩ ((f1'.tr (cFr.s (p := 0) (by decide) hn f2)).tr (cFr.p (by decide) _ _))
  · rw [zU_s, e2, nI_1]; rfl
  · rw [zU_k (by decide), f2 (54 + 0) (by omega) (by omega) (by omega), f1 (54 + 0) (by omega) (by omega) (by omega)]; exact h.2.1
  · rw [pAdd_e] at hs ⊢
    have hs : s < S.1 + 1 := hs
    show sRel (6 * 0 + s) (va_up S.2.2 S.1 (qBud b p (qNew k f)) s) _
    have o : ∀ Z' : zS, ∀ x, ∀ i, i < 54 → zU Z' (54 + 0) 1 x i = Z' i := fun Z' x i hi => zU_r (by omega)
    unfold va_up
    by_cases e : s = S.1
    · rw [if_pos e]
      subst e
      exact r2.mv (o _ _ _ (by omega)) (o _ _ _ (by omega)) (o _ _ _ (by omega))
    · rw [if_neg e]
      have g : ∀ i, i < 54 → ¬ i = 6 * 0 + S.1 → ¬ i = 18 + (6 * 0 + S.1) → ¬ i = 36 + (6 * 0 + S.1) → zU Z2 (54 + 0) 1 (Z2 (54 + 0) 1 + 1) i = Z i := fun i hi h1 h2 h3 => (o _ _ i hi).trans (fs i h1 h2 h3)
      exact (h.2.2 s (by omega)).mv (g _ (by omega) (by omega) (by omega) (by omega)) (g _ (by omega) (by omega) (by omega) (by omega)) (g _ (by omega) (by omega) (by omega) (by omega))
theorem wfQ.new {k f b p t : Int32} (ht : 0 ≤ t.toInt) (hk : zKi k) (hf : zin f 0 9) (hz : zSz b p) : wfQ t (qBud b p (qNew k f)) := by
  obtain ⟨hb, hp, -⟩ := hz
  obtain ⟨b', b1, b2, rfl⟩ := zW_n 1 30 rfl rfl (by decide) hb
  obtain ⟨p', p1, p2, rfl⟩ := zW_n b' 60 (nI_toInt (by omega)) rfl (by decide) hp
  have tb := nI_toInt (n := b') (by omega)
  have tp := nI_toInt (n := p') (by omega)
  have z4 := zshare b1 b2 p1 p2
  have i0 : ∀ x : Int32, x = 0 → x.toInt = 0 := fun x e => by rw [e]; rfl
  have e : ∀ i, ¬ i = 0 → ¬ i = 1 → ¬ i = 2 → ¬ i = 3 → ¬ i = 4 → qBud (nI b') (nI p') (qNew k f) i = 0 := by
    intro i h0 h1 h2 h3 h4
    simp [qBud, qNew, upd_ap, h0, h1, h2, h3, h4]
  have q0 : qBud (nI b') (nI p') (qNew k f) 0 = k := by simp [qBud, qNew, upd_ap]
  have q1 : qBud (nI b') (nI p') (qNew k f) 1 = f := by simp [qBud, qNew, upd_ap]
  have q2 : qBud (nI b') (nI p') (qNew k f) 2 = nI b' := by simp [qBud, qNew, upd_ap]
  have q3 : qBud (nI b') (nI p') (qNew k f) 3 = nI p' := by simp [qBud, qNew, upd_ap]
  have q4 : qBud (nI b') (nI p') (qNew k f) 4 = 60 * nI b' / nI p' := by simp [qBud, qNew, upd_ap]
  have q5 := e 5 (by decide) (by decide) (by decide) (by decide) (by decide)
  have q6 := e 6 (by decide) (by decide) (by decide) (by decide) (by decide)
  have q7 := e 7 (by decide) (by decide) (by decide) (by decide) (by decide)
  have q8 := e 8 (by decide) (by decide) (by decide) (by decide) (by decide)
  have q9 := e 9 (by decide) (by decide) (by decide) (by decide) (by decide)
  have q10 := e 10 (by decide) (by decide) (by decide) (by decide) (by decide)
  have q13 := e 13 (by decide) (by decide) (by decide) (by decide) (by decide)
  refine ⟨⟨?_, ?_, ?_, ?_, ?_, ?_, ?_, ?_, ?_, ?_, ?_, ?_, ?_, ?_, ?_, fun i hi => ?_⟩, fun a => ?_⟩
  · rw [q0]; exact hk
  · rw [q1]; exact hf
  · rw [q2]; exact ⟨by omega, by omega⟩
  · rw [q2, q3]; omega
  · rw [q2, q3, q4]; exact ⟨rfl, z4⟩
  · rw [q5]; exact ⟨by rw [zi0]; decide, by rw [zi0]; decide⟩
  · rw [q6]; exact ⟨by rw [zi0]; decide, by rw [zi0]; omega⟩
  · exact Or.inl q7
  · rw [q8]; exact ⟨by rw [zi0]; decide, by rw [zi0]; decide⟩
  · rw [q9]; exact ⟨by rw [zi0]; decide, by rw [zi0]; decide⟩
  · rw [q10]; exact ⟨by rw [zi0]; decide, by rw [zi0]; decide⟩
  · exact ⟨fun _ => Or.inl q7, fun _ => q10⟩
  · rw [q7]; intro a; exact absurd a (by decide)
  · exact Or.inl q13
  · exact fun _ => q13
  · rw [q10] at hi; exact absurd hi (Nat.not_lt_zero _)
  · rw [q7] at a; exact absurd a (by decide)
theorem r_new {k f b p : Int32} (hn : S.1 < 6) (h : rRel S Z) (hk : ∀ Z', rRel (pAdd k f b p S) Z' → gFr Z Z' → K (nI S.1) Z') : wX12_newServer k f b p Z K := by
  unfold wX12_newServer
  intro Z1 e1
  rw [h.1]
  rintro _ rfl _ rfl
  refine pk_loop (σ := zS) (fun m i Y => wX12_newServer_16 k f b p K m (nI S.1) (nI (6 * i)) Y) (fun i Y => (∀ c, ¬ c = 98 → Y c = Z1 c) ∧ (∀ j, j < i → Y 98 (6 * j + S.1) = 0) ∧ ∀ j, ¬ j % 6 = S.1 → Y 98 j = Z1 98 j) 12 0 Z1 (Nat.zero_le _) ⟨fun _ _ => rfl, fun j hj => absurd hj (Nat.not_lt_zero _), fun _ _ => rfl⟩ ?_ ?_
  · rintro m Y ⟨y1, y2, y3⟩
    show wX12_newServer_16b _ k f b p (nI S.1) 72 Y K
    unfold wX12_newServer_16b
    refine br_t (Int32.le_refl _) ?_
    simp (disch := omega) only [zlit_add, nI_clamp, vp_in_nI, true_and, Nat.zero_add]
    intro Z6 e6 Z8 e8 Z10 e10 Z12 e12
    have o : ∀ c, ¬ c = 98 → Z12 c = Z1 c := by
      intro c hc
      rw [e12, zU_r hc, e10, zU_r hc, e8, zU_r hc, e6, zU_r hc]; exact y1 c hc
    have g : ∀ j, ¬ j % 6 = S.1 → Z12 98 j = Z 98 j := by
      intro j hj
      rw [e12, zU_k (by omega), e10, zU_k (by omega), e8, zU_k (by omega), e6, zU_k (by omega), y3 j hj, e1, zU_i (by omega)]
    have z : ∀ i, 3 < i → i < 12 → Z12 98 (6 * i + S.1) = 0 := by
      intro i h3 h12
      rw [e12, zU_k (by omega), e10, zU_k (by omega), e8, zU_k (by omega), e6, zU_k (by omega), y2 i h12]
    have w3 : Z12 98 (18 + S.1) = p := by rw [e12, zU_s]
    have w2 : Z12 98 (12 + S.1) = b := by rw [e12, zU_k (by omega), e10, zU_s]
    have w1 : Z12 98 (6 + S.1) = f := by rw [e12, zU_k (by omega), e10, zU_k (by omega), e8, zU_s]
    have w0 : Z12 98 S.1 = k := by rw [e12, zU_k (by omega), e10, zU_k (by omega), e8, zU_k (by omega), e6, zU_s]
    refine hk Z12 ⟨?_, ?_, fun s hs => ?_⟩ ⟨fun i hi => ?_, fun m _ hm _ _ => by rw [o 97 (by decide), e1, zU_k hm]⟩
    · rw [o 97 (by decide), e1, zU_s, h.1, nI_1]; rfl
    · rw [o 97 (by decide), e1, zU_k (by decide)]; exact h.2.1
    · rw [pAdd_e]
      show rSv s (va_up S.2.2 S.1 (qBud b p (qNew k f)) s) _ _ _
      unfold va_up
      have hs : s < S.1 + 1 := hs
      by_cases e : s = S.1
      · rw [if_pos e]
        subst e
        have e10 : qBud b p (qNew k f) 10 = 0 := by simp [qBud, qNew, upd_ap]
        have zz : ∀ i j, 3 < i → i < 12 → j = 6 * i → Z12 98 (j + S.1) = 0 := fun i j h1 h2 e => by rw [e]; exact z i h1 h2
        refine ⟨?_, ?_, ?_, ?_, ?_, ?_, ?_, ?_, ?_, ?_, ?_, fun a => absurd e10 a, fun i _ hi => ?_⟩
        · rw [w0]; simp [qBud, qNew, upd_ap]
        · rw [w1]; simp [qBud, qNew, upd_ap]
        · rw [w2]; simp [qBud, qNew, upd_ap]
        · rw [w3]; simp [qBud, qNew, upd_ap]
        · rw [zz 4 24 (by decide) (by decide) rfl]; simp [qBud, qNew, upd_ap]
        · rw [zz 5 30 (by decide) (by decide) rfl]; simp [qBud, qNew, upd_ap]
        · rw [zz 6 36 (by decide) (by decide) rfl]; simp [qBud, qNew, upd_ap]
        · rw [zz 7 42 (by decide) (by decide) rfl]; simp [qBud, qNew, upd_ap]
        · rw [zz 8 48 (by decide) (by decide) rfl]; simp [qBud, qNew, upd_ap]
        · rw [zz 9 54 (by decide) (by decide) rfl]; simp [qBud, qNew, upd_ap]
        · rw [zz 11 66 (by decide) (by decide) rfl]; simp [qBud, qNew, upd_ap]
        · rw [e10] at hi; exact absurd hi (Nat.not_lt_zero _)
      · rw [if_neg e]
        obtain ⟨e0, e1', e2, e3, e5, e6', e7, e10', e8', e9, e13, e14, ej⟩ := h.2.2 s (by omega)
        refine ⟨?_, ?_, ?_, ?_, ?_, ?_, ?_, ?_, ?_, ?_, ?_, fun a => ?_, fun i h4 hi => ?_⟩
        · rw [g _ (by omega)]; exact e0
        · rw [g _ (by omega)]; exact e1'
        · rw [g _ (by omega)]; exact e2
        · rw [g _ (by omega)]; exact e3
        · rw [g _ (by omega)]; exact e5
        · rw [g _ (by omega)]; exact e6'
        · rw [g _ (by omega)]; exact e7
        · rw [g _ (by omega)]; exact e10'
        · rw [g _ (by omega)]; exact e8'
        · rw [g _ (by omega)]; exact e9
        · rw [g _ (by omega)]; exact e13
        · rw [g _ (by omega)]; exact e14 a
        · rw [o 99 (by decide), o 100 (by decide), e1, zU_r (by decide), zU_r (by decide)]; exact ej i h4 hi
    · rw [o i (by omega), e1, zU_r (by omega)]
  · rintro m i Y hi ⟨y1, y2, y3⟩ ih
    show wX12_newServer_16b (fun x5 x6 Z => wX12_newServer_16 k f b p K m x5 x6 Z) k f b p (nI S.1) (nI (6 * i)) Y K
    unfold wX12_newServer_16b
    have n72 : ¬ (72 : Int32) ≤ nI (6 * i) := nI_ge (b := 72) (by omega) (by decide)
    refine br_f n72 ?_
    simp (disch := omega) only [nI_add, nI_clamp, vp_in_nI, true_and]
    rintro _ rfl _ rfl
    rw [show nI (6 * i) + 6 = nI (6 * (i + 1)) by rw [Int32.add_comm, zlit_add]; congr 1; omega]
    refine ih _ ⟨fun c hc => (zU_r hc).trans (y1 c hc), fun j hj => ?_, fun j hj => ?_⟩
    · by_cases e : j = i
      · rw [e, zU_s]
      · rw [zU_k (by omega)]; exact y2 j (by omega)
    · rw [zU_k (by omega)]; exact y3 j hj
theorem wfP.add {k f b p : Int32} (hn : S.1 < 6) (w : wfP 9999 S) (hk : zKi k) (hf : zin f 0 9) (hz : zSz b p) : wfP 9999 (pAdd k f b p S) := by
  rw [pAdd_e]
  refine ⟨by show S.1 + 1 ≤ 6; omega, w.2.1, fun s hs => ?_⟩
  have hs : s < S.1 + 1 := hs
  show wfQ S.2.1 (va_up S.2.2 S.1 (qBud b p (qNew k f)) s)
  unfold va_up
  by_cases e : s = S.1
  · rw [if_pos e]; exact wfQ.new w.2.1.1 hk hf hz
  · rw [if_neg e]; exact w.2.2 s (by omega)
theorem m_comes {a1 a2 a3 : Int32} (h : zI S Q Z) : wX11_comes a1 a2 a3 Z (fun r Z1 => wX12_comes a1 a2 a3 Z1 (zD r)) := by
  obtain ⟨hw, hc, hr, -, hsh, -⟩ := id h
  have hN := hw.1
  unfold wX11_comes wX11_sortRefusal
  refine c_isBudget (fun hz => br_t (by decide) ?_) (fun hz => br_f (fun x => x rfl) ?_)
  · refine c_cont (fun ha => ?_) (fun d hd e c => ?_) (fun d hd e c c' => ?_) (fun d hd e c c' => ?_)
    · refine br_f (by decide) ?_
      unfold wX12_comes
      exact r_isSize (fun _ => br_f (by decide) (r_shelf_f ha (br_f (fun x => x rfl) ⟨rfl, h.inv⟩))) (fun x => absurd hz x)
    · refine br_f (by decide) ?_
      subst e
      have hs := hsh d hd
      have in8 : vp_in (nI d) 8 := vp_in_nI hd (by decide)
      unfold wX12_comes wX12_noSort
      refine r_isSize (fun _ => br_f (by decide) (r_shelf_t ⟨d, hd, rfl⟩ (br_t (by decide) ⟨in8, ?_⟩))) (fun x => absurd hz x)
      rw [nI_clamp (by omega), ← hs.1]
      exact br_f (fun x => x c) (br_f (by decide) ⟨rfl, h.inv⟩)
    · refine br_f (by decide) ?_
      subst e
      have hs := hsh d hd
      have in8 : vp_in (nI d) 8 := vp_in_nI hd (by decide)
      unfold wX12_comes wX12_noSort
      refine r_isSize (fun _ => br_f (by decide) (r_shelf_t ⟨d, hd, rfl⟩ (br_t (by decide) ⟨in8, ?_⟩))) (fun x => absurd hz x)
      rw [nI_clamp (by omega), ← hs.1]
      exact br_t c ⟨in8, br_f c' (br_f (by decide) ⟨rfl, h.inv⟩)⟩
    · subst e
      have hs := hsh d hd
      have in8 : vp_in (nI d) 8 := vp_in_nI hd (by decide)
      have cd : (nI d).toNatClampNeg = d := nI_clamp (by omega)
      have h4 : Z 104 d = 1 := hs.1.symm.trans c'
      obtain ⟨-, z5, e1, z6, e2⟩ : Z 104 d = 1 ∧ zKi (Z 105 d) ∧ Z (60 + d) 1 = Z 105 d ∧ zin (Z 106 d) 0 9 ∧ Z (60 + d) 2 = Z 106 d := by
        rcases hs.2.1 with a | a | a
        · rw [h4] at a; exact absurd a (by decide)
        · exact a
        · rw [h4] at a; exact absurd a.1 (by decide)
      have ref : ∀ r Y, Y 104 = Z 104 → Y 105 = Z 105 → Y 106 = Z 106 → Y 97 = Z 97 → (S.1 < 6 → wX12_newServer (Z 105 d) (Z 106 d) a2 a3 Y (zD r)) → (¬ S.1 < 6 → zD r (-2) Y) → wX12_comes (nI d) a2 a3 Y (zD r) := by
        intro r Y y4 y5 y6 y7 p q
        unfold wX12_comes wX12_noSort
        refine r_isSize (fun _ => br_f (by decide) (r_shelf_t ⟨d, hd, rfl⟩ (br_t (by decide) ⟨in8, ?_⟩))) (fun x => absurd hz x)
        rw [cd, y4, ← hs.1]
        refine br_t c ⟨in8, br_t c' (br_t (by decide) ?_)⟩
        show (¬ Y 97 1 = 6 → _ ∧ _ ∧ wX12_newServer (Y 105 d) (Y 106 d) a2 a3 Y _) ∧ _
        rw [y5, y6, y7, hr.1]
        refine (br_c (fun x => ⟨in8, in8, p ?_⟩) (fun x => q ?_))
        · exact Nat.lt_of_le_of_ne hN (fun e => x (by rw [e]; rfl))
        · have : S.1 = 6 := (nI_eq (a := S.1) (b := 6) (by omega) (by decide)).mp (Classical.not_not.mp x)
          omega
      refine br_t rfl ?_
      rw [hc.1, cd, e1, e2]
      refine br_c (fun x => ⟨in8, in8, ?_⟩) (fun x => ?_)
      · have hn : S.1 < 6 := by
          have x := zlt.mp x
          rw [nI_toInt (by omega), show (6 : Int32).toInt = 6 from rfl] at x
          omega
        refine c_add hn hz hc (fun Z1 r1 f1 => ?_)
        have e54 : Z1 (54 + 0) 1 - 1 = nI S.1 := by
          rw [r1.1]
          show nI (S.1 + 1) - 1 = _
          rw [nI_dec (by omega)]; rfl
        rw [e54]
        have j := h.c f1 r1 (hw.add hn z5 z6 hz)
        have o : ∀ i, 57 ≤ i → Z1 i = Z i := fun i hi => f1.o (by decide) hi
        refine ref _ Z1 (o _ (by decide)) (o _ (by decide)) (o _ (by decide)) (o _ (by decide)) (fun _ => ?_) (fun x => absurd hn x)
        exact r_new hn j.2.2.2.1 (fun Z2 r2 f2 => ⟨rfl, (j.r (hFr.g f2) r2).inv⟩)
      · refine ref _ Z rfl rfl rfl rfl (fun y => absurd (nI_lt (b := 6) y (by decide)) x) (fun _ => ⟨rfl, h.inv⟩)
  · unfold wX12_comes
    exact r_isSize (fun x => absurd x hz) (fun _ => br_t rfl ⟨rfl, h.inv⟩)
end N5
