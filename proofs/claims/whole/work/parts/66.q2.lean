/-! the first state -/
section Q2
variable {Z : zS}
def pNil : zP := (0, 0, fun _ _ => 0)
theorem z0_inv (p1 : Z (54 + 0) 1 = 0) (p2 : Z (54 + 0) 2 = 0) (m0 : Z 97 0 = 0) (m1 : Z 97 1 = 0) (i1 : Z 97 11 = 0) (i2 : Z 96 4 = 0) (s0 : ∀ d, d < 8 → Z (60 + d) 0 = 0) (s1 : ∀ d, d < 8 → Z 104 d = 0) (s2 : ∀ d, d < 8 → ∀ i, i < 100 → Z (68 + d) i = 0) (s3 : ∀ i, i < 800 → Z 107 i = 0) (t0 : ∀ t, t < 4 → Z (76 + t) 0 = 0) (t1 : ∀ t, t < 4 → Z 108 t = -4) : zInv Z := by
  refine ⟨pNil, pNil, ⟨Nat.zero_le _, ⟨by show 0 ≤ (0 : Int32).toInt; rw [zi0]; decide, by show (0 : Int32).toInt ≤ _; rw [zi0]; decide⟩, fun s hs => absurd hs (Nat.not_lt_zero _)⟩, ⟨p1, p2, fun s hs => absurd hs (Nat.not_lt_zero _)⟩, ⟨m1, m0, fun s hs => absurd hs (Nat.not_lt_zero _)⟩, ⟨by rw [i1, i2], Or.inl i2⟩, fun d hd => ⟨by rw [s0 d hd, s1 d hd], Or.inl (s1 d hd), fun i hi => by rw [s2 d hd i hi, s3 _ (by omega)]⟩, fun t ht => Or.inl ⟨t0 t ht, t1 t ht⟩⟩
end Q2
