/-! FACE: text: the bytes of a script; the first bad one -/
section P1
variable {S Q P : zP} {Z Z0 Z' : zS} {K : Int32 → zS → Prop} {M : zS → Prop} {T : Nat} {E : Nat → Int32} {g : Nat}
def tDb (c : Int32) : Int32 := if c = 106 then 3 else if c = 115 then 6 else if c = 116 then 2 else -1
def tNx (x c : Int32) : Int32 := if x = -1 then tDb c else if x ≤ 0 then -1 else x + (-1)
def tOk (x c : Int32) : Prop := if x = -1 then ¬ tDb c = -1 else if x ≤ 0 then c = 59 else zW c 48 57
def tSt (E : Nat → Int32) : Nat → Int32
  | 0 => -1
  | i + 1 => tNx (tSt E i) (E i)
def tUp (E : Nat → Int32) (i : Nat) : Prop := ∀ k, k < i → tOk (tSt E k) (E k)
def tBad (E : Nat → Int32) (g : Nat) (r : Int32) : Prop := (∃ i, i < g ∧ tUp E i ∧ ¬ tOk (tSt E i) (E i) ∧ r = nI i) ∨ (tUp E g ∧ (g = 0 ∨ ¬ tSt E g = -1) ∧ r = nI g) ∨ (tUp E g ∧ ¬ g = 0 ∧ tSt E g = -1 ∧ r = -4)
theorem tUp.up {i : Nat} (h : tUp E i) (h' : tOk (tSt E i) (E i)) : tUp E (i + 1) := fun k hk => by
  by_cases e : k = i
  · rw [e]; exact h'
  · exact h k (by omega)
theorem tBad.u {r r' : Int32} (a : tBad E g r) (b : tBad E g r') : r = r' := by
  rcases a with ⟨i, a1, a2, a3, a4⟩ | ⟨a1, a2, a3⟩ | ⟨a1, a2, a3, a4⟩ <;> rcases b with ⟨j, b1, b2, b3, b4⟩ | ⟨b1, b2, b3⟩ | ⟨b1, b2, b3, b4⟩
  · rcases Nat.lt_trichotomy i j with c | c | c
    · exact absurd (b2 i c) a3
    · rw [a4, b4, c]
    · exact absurd (a2 j c) b3
  · exact absurd (b1 i a1) a3
  · exact absurd (b1 i a1) a3
  · exact absurd (a1 j b1) b3
  · rw [a3, b3]
  · rcases a2 with z | z
    · exact absurd z b2
    · exact absurd b3 z
  · exact absurd (a1 j b1) b3
  · rcases b2 with z | z
    · exact absurd z a2
    · exact absurd a3 z
  · rw [a4, b4]
theorem c_db {c : Int32} (hk : K (tDb c) Z) : wX8_digitsBehind c Z K := by
  unfold wX8_digitsBehind
  unfold tDb at hk
  intro y e
  subst e
  refine br_c (fun c1 => ?_) (fun c1 => br_c (fun c2 => ?_) (fun c2 => br_c (fun c3 => ?_) (fun c3 => ?_)))
  · rw [if_pos c1] at hk; exact hk
  · rw [if_neg c1, if_pos c2] at hk; exact hk
  · rw [if_neg c1, if_neg c2, if_pos c3] at hk; exact hk
  · rw [if_neg c1, if_neg c2, if_neg c3] at hk; exact hk
theorem c_bad {d : Nat} (hg : g ≤ 100) (e4 : Z (60 + d) 4 = nI g) (eE : ∀ i, i < 100 → Z (68 + d) i = E i) (hk : ∀ r, tBad E g r → K r Z) : wX8_firstBadByte d Z K := by
  unfold wX8_firstBadByte
  rintro _ rfl _ rfl
  refine pk_loop (σ := Int32) (fun m i x => wX8_firstBadByte_4 d K m x (nI i) Z) (fun i x => x = tSt E i ∧ tUp E i) g 0 (-1) (Nat.zero_le _) ⟨rfl, fun k hk => absurd hk (Nat.not_lt_zero _)⟩ ?_ ?_
  · rintro m x ⟨rfl, u⟩
    show wX8_firstBadByte_4b _ d (tSt E g) (nI g) Z K
    unfold wX8_firstBadByte_4b wX8_firstBadByte_89
    rw [e4]
    refine br_t (Int32.le_refl _) (br_c (fun c => ?_) (fun c => br_c (fun c' => ?_) (fun c' => ?_)))
    · exact hk _ (Or.inr (Or.inl ⟨u, Or.inl ((nI_eq (a := g) (b := 0) (by omega) (by decide)).mp c), rfl⟩))
    · exact hk _ (Or.inr (Or.inr ⟨u, fun z => c (by rw [z]; rfl), c', rfl⟩))
    · exact hk _ (Or.inr (Or.inl ⟨u, Or.inr c', rfl⟩))
  · rintro m i x hi ⟨ex, u⟩ ih
    show wX8_firstBadByte_4b (fun x1 x2 Z => wX8_firstBadByte_4 d K m x1 x2 Z) d x (nI i) Z K
    unfold wX8_firstBadByte_4b
    rw [e4]
    have bad : ¬ tOk x (E i) → K (nI i) Z := fun n => hk _ (Or.inl ⟨i, hi, u, by rw [← ex]; exact n, rfl⟩)
    have k71 : ∀ x', x' = tNx x (E i) → tOk x (E i) → wX8_firstBadByte_71 (fun x1 x2 Z => wX8_firstBadByte_4 d K m x1 x2 Z) d x' (nI i) Z K := by
      intro x' e' o
      unfold wX8_firstBadByte_71
      rintro _ rfl
      rw [nI_1]
      refine ih x' ⟨?_, u.up (by rw [← ex]; exact o)⟩
      show x' = tNx (tSt E i) (E i)
      rw [← ex]; exact e'
    refine br_f (nI_ge hi (by omega)) (c_at (by omega) (eE i (by omega)) ?_)
    refine br_c (fun c => br_c (fun c0 => br_c (fun c9 => bad ?_) (fun c9 => ?_)) (fun c0 => c_win (fun w => br_t (by decide) ?_) (fun w => br_f (fun z => z rfl) (bad ?_)))) (fun c => c_db (br_c (fun c1 => k71 _ ?_ ?_) (fun c1 => bad ?_)))
    · unfold tOk; rw [if_neg c, if_pos c0]; exact c9
    · rintro _ rfl
      refine k71 _ ?_ ?_
      · unfold tNx; rw [if_neg c, if_pos c0]
      · unfold tOk; rw [if_neg c, if_pos c0]; exact Classical.not_not.mp c9
    · rintro _ rfl
      refine k71 _ ?_ ?_
      · unfold tNx; rw [if_neg c, if_neg c0]
      · unfold tOk; rw [if_neg c, if_neg c0]; exact w
    · unfold tOk; rw [if_neg c, if_neg c0]; exact w
    · unfold tNx; rw [if_pos (Classical.not_not.mp c)]
    · unfold tOk; rw [if_pos (Classical.not_not.mp c)]; exact c1
    · unfold tOk; rw [if_pos (Classical.not_not.mp c)]; exact fun z => z (Classical.not_not.mp c1)
/-! the reference's reading: 97 7 the shelf, 97 8 the place -/
theorem r_is {d i : Nat} {c : Int32} (hd : d < 8) (hg : g ≤ 100) (hi : i ≤ g) (e7 : Z 97 7 = nI d) (e8 : Z 97 8 = nI i) (e6 : Z 106 d = nI g) (eE : ∀ i, i < 100 → Z 107 (100 * d + i) = E i) (h1 : i < g → E i = c → ∀ Z', eFr Z Z' → Z' 97 8 = nI (i + 1) → K 1 Z') (h0 : (i = g ∨ (i < g ∧ ¬ E i = c)) → K 0 Z) : wX12_is c Z K := by
  unfold wX12_is
  rw [e7, e8, nI_clamp (n := d) (by omega), e6]
  refine ⟨vp_in_nI hd (by decide), br_c (fun z => h0 (Or.inl ((nI_eq (a := i) (b := g) (by omega) (by omega)).mp z))) (fun z => ?_)⟩
  have hig : i < g := Nat.lt_of_le_of_ne hi (fun e => z (by rw [e]))
  simp (disch := omega) only [zlit_mul, nI_add, nI_clamp, vp_in_nI, true_and]
  rw [eE i (by omega)]
  refine br_c (fun y => ?_) (fun y => h0 (Or.inr ⟨hig, y⟩))
  rintro _ rfl
  exact h1 hig y _ (eFr.u ⟨fun _ _ => rfl, fun _ _ => rfl⟩) (by rw [zU_s, nI_1])
/-- the frame of reading: the place and the digits -/
def tFr (Z Z' : zS) : Prop := (∀ i, ¬ i = 97 → ¬ i = 101 → Z' i = Z i) ∧ ∀ k, ¬ k = 8 → Z' 97 k = Z 97 k
theorem tFr.rf : tFr Z Z := ⟨fun _ _ _ => rfl, fun _ _ => rfl⟩
theorem tFr.tr {Z1 : zS} (a : tFr Z Z1) (b : tFr Z1 Z') : tFr Z Z' := ⟨fun i h1 h2 => (b.1 i h1 h2).trans (a.1 i h1 h2), fun k hk => (b.2 k hk).trans (a.2 k hk)⟩
theorem tFr.e (f : eFr Z Z') : tFr Z Z' := ⟨fun i h1 _ => f.1 i h1, f.2⟩
theorem zdig (c : Int32) : zW (c - 48) 0 9 ↔ zW c 48 57 := by
  refine ⟨fun w => ?_, fun w => ?_⟩
  · obtain ⟨k, -, hk, ek⟩ := zW_n 0 9 rfl rfl (by decide) w
    have e : c = nI (48 + k) := by rw [← zlit_add, ← ek, Int32.add_comm, Int32.sub_add_cancel]
    have t := nI_toInt (n := 48 + k) (by omega)
    rw [e]
    have a : (48 : Int32).toInt = 48 := rfl
    have b : (57 : Int32).toInt = 57 := rfl
    exact ⟨zle.mpr (by rw [t, a]; omega), zle.mpr (by rw [t, b]; omega)⟩
  · have a : (48 : Int32).toInt = 48 := rfl
    have b : (57 : Int32).toInt = 57 := rfl
    have x := zle.mp w.1
    have y := zle.mp w.2
    rw [a] at x
    rw [b] at y
    have t : (c - 48).toInt = c.toInt - 48 := by rw [zsub (by rw [a]; omega) (by rw [a]; omega), a]
    have c9 : (9 : Int32).toInt = 9 := rfl
    exact ⟨zle.mpr (by rw [zi0, t]; omega), zle.mpr (by rw [t, c9]; omega)⟩
theorem r_digits {d p n : Nat} (hd : d < 8) (hg : g ≤ 100) (hp : p ≤ g) (hn : n ≤ 6) (e7 : Z 97 7 = nI d) (e8 : Z 97 8 = nI p) (e6 : Z 106 d = nI g) (eE : ∀ i, i < 100 → Z 107 (100 * d + i) = E i) (h1 : p + n ≤ g → (∀ k, k < n → zW (E (p + k)) 48 57) → ∀ Z', tFr Z Z' → Z' 97 8 = nI (p + n) → (∀ k, k < n → Z' 101 k = E (p + k) - 48) → K 1 Z') (h0 : ∀ i, i < n → p + i ≤ g → (∀ k, k < i → zW (E (p + k)) 48 57) → (p + i = g ∨ ¬ zW (E (p + i)) 48 57) → ∀ Z', tFr Z Z' → Z' 97 8 = nI (p + i) → K 0 Z') : wX12_digits (nI n) Z K := by
  unfold wX12_digits
  rintro _ rfl
  refine pk_loop (σ := zS) (fun m i Y => wX12_digits_2 (nI n) K m (nI i) Y) (fun i Y => tFr Z Y ∧ Y 97 8 = nI (p + i) ∧ p + i ≤ g ∧ (∀ k, k < i → zW (E (p + k)) 48 57) ∧ ∀ k, k < i → Y 101 k = E (p + k) - 48) n 0 Z (Nat.zero_le _) ⟨tFr.rf, e8, hp, fun k hk => absurd hk (Nat.not_lt_zero _), fun k hk => absurd hk (Nat.not_lt_zero _)⟩ ?_ ?_
  · rintro m Y ⟨y1, y2, y3, y4, y5⟩
    show wX12_digits_2b _ (nI n) (nI n) Y K
    unfold wX12_digits_2b
    exact br_t (Int32.le_refl _) (h1 y3 y4 Y y1 y2 y5)
  · rintro m i Y hi ⟨y1, y2, y3, y4, y5⟩ ih
    show wX12_digits_2b (fun x2 Z => wX12_digits_2 (nI n) K m x2 Z) (nI n) (nI i) Y K
    unfold wX12_digits_2b
    rw [y1.2 7 (by decide), e7, y2, nI_clamp (n := d) (by omega), y1.1 106 (by decide) (by decide), e6]
    refine br_f (nI_ge hi (by omega)) ⟨vp_in_nI hd (by decide), br_c (fun z => ?_) (fun z => h0 i hi y3 y4 (Or.inl ((nI_eq (a := p + i) (b := g) (by omega) (by omega)).mp (Classical.not_not.mp z))) Y y1 y2)⟩
    have hlt : p + i < g := Nat.lt_of_le_of_ne y3 (fun e => z (by rw [e]))
    simp (disch := omega) only [zlit_mul, nI_add, nI_clamp, vp_in_nI, true_and]
    rw [y1.1 107 (by decide) (by decide), eE _ (by omega)]
    intro Z7 e7'
    have f7 : tFr Z Z7 := y1.tr (by rw [e7']; exact ⟨fun j _ h2 => zU_r h2, fun k _ => zU_i (by decide)⟩)
    have v7 : Z7 101 i = E (p + i) - 48 := by rw [e7', zU_s]
    have p7 : Z7 97 8 = nI (p + i) := by rw [e7', zU_i (by decide)]; exact y2
    have dig : zW (E (p + i) - 48) 0 9 ↔ zW (E (p + i)) 48 57 := zdig _
    rw [v7]
    refine r_win (fun w => br_t (by decide) ?_) (fun w => br_f (fun z => z rfl) (h0 i hi y3 y4 (Or.inr (fun q => w (dig.mpr q))) Z7 f7 p7))
    rintro _ rfl _ rfl
    rw [nI_1]
    refine ih _ ⟨f7.tr (tFr.e (eFr.u ⟨fun _ _ => rfl, fun _ _ => rfl⟩)), by rw [zU_s, p7, nI_1]; rfl, by omega, fun k hk => ?_, fun k hk => ?_⟩
    · by_cases e : k = i
      · rw [e]; exact dig.mp w
      · exact y4 k (by omega)
    · rw [zU_i (by decide)]
      by_cases e : k = i
      · rw [e]; exact v7
      · rw [e7', zU_k (by omega)]; exact y5 k (by omega)
end P1
