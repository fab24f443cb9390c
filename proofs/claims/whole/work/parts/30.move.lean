/-! A PLANT BECOMES ANOTHER; THE REFERENCE KEEPS AND TAKES AGAIN -/
section MV
variable {p u v : Nat} {q : zQ} {Z Z' : zS} {S S' : zP}
theorem c_sbecomes {j : Nat} {K : zS → Prop} (hv : v < 18) (hu : u < 18) (hn : ¬ v = u) (h : sRel u q Z) (hj : q 10 = nI j) (hj4 : j < 5) (hb : zBo (q 13)) (hk : ∀ Z', sRel v q Z' → sFr v Z Z' → K Z') : wX5_becomes v u Z K := by
  have h1 := h.f
  unfold wX5_becomes
  rintro Z1 hZ1 Z2 hZ2 Z3 hZ3 Z4 hZ4 Z5 hZ5 Z6 hZ6 Z7 hZ7 Z8 hZ8 Z9 hZ9 Z10 hZ10 Z11 hZ11 _ rfl
  have o : ∀ i, ¬ i = v → Z11 i = Z i := fun i hi => by rw [hZ11, hZ10, hZ9, hZ8, hZ7, hZ6, hZ5, hZ4, hZ3, hZ2, hZ1]; simp only [zU_r hi]
  have ou : ∀ Y : zS, ∀ k x, zU Y v k x u = Y u := fun Y k x => zU_r (fun e => hn e.symm)
  have e : ∀ k, k < 11 → Z11 v k = q k := by
    intro k hk
    rw [← h1 k hk, hZ11, hZ10, hZ9, hZ8, hZ7, hZ6, hZ5, hZ4, hZ3, hZ2, hZ1]
    simp only [ou, zU_ap, true_and]
    rcases (show k = 0 ∨ k = 1 ∨ k = 2 ∨ k = 3 ∨ k = 4 ∨ k = 5 ∨ k = 6 ∨ k = 7 ∨ k = 8 ∨ k = 9 ∨ k = 10 by omega) with e | e | e | e | e | e | e | e | e | e | e <;> subst e <;> simp
  clear hZ1 hZ2 hZ3 hZ4 hZ5 hZ6 hZ7 hZ8 hZ9 hZ10 hZ11
  have u10 : ∀ Y : zS, Y u = Z u → Y u 10 = nI j := fun Y hY => by rw [hY, h1 10 (by decide), hj]
  refine pk_loop (σ := zS) (fun n i Y => wX5_becomes_90 v u K n (nI i) Y) (fun i Y => Y v = Z11 v ∧ (∀ m, m < i → Y (18 + v) m = Z (18 + u) m ∧ Y (36 + v) m = Z (36 + u) m) ∧ sFr v Z Y) j 0 Z11 (Nat.zero_le _) ⟨rfl, fun m hm => absurd hm (Nat.not_lt_zero _), fun i h1 _ _ => o i h1⟩ ?_ ?_
  · rintro n Y ⟨y0, yw, yf⟩
    have yu : Y u = Z u := yf u (fun e => hn e.symm) (by omega) (by omega)
    show wX5_becomes_90b _ v u (nI j) Y K
    unfold wX5_becomes_90b
    rw [u10 Y yu]
    refine br_t (Int32.le_refl _) ?_
    rw [yu, h.h]
    refine ⟨hb, ?_⟩
    rintro Z14 hZ14 Z15 hZ15
    refine hk Z15 ⟨⟨fun k hk => ?_, ?_, fun i hi => ?_⟩, fun a => ?_⟩ ?_
    · rw [hZ15, zU_k (by omega), hZ14, zU_k (by omega), y0]; exact e k hk
    · rw [hZ15, zU_k (by omega), hZ14, zU_s]
    · rw [hj, nI_clamp (by omega)] at hi
      rw [hZ15, hZ14, zU_r (by omega), zU_r (by omega), zU_r (by omega), zU_r (by omega), (yw i hi).1, (yw i hi).2]
      exact h.j i (by rw [hj, nI_clamp (by omega)]; exact hi)
    · rw [hZ15, zU_s, hZ14, zU_r (fun e => hn e.symm), yu]; exact h.2 a
    · rw [hZ15, hZ14]; exact yf.tr ((sFr.u _ _).tr (sFr.u _ _))
  · rintro n i Y hi ⟨y0, yw, yf⟩ ih
    have yu : Y u = Z u := yf u (fun e => hn e.symm) (by omega) (by omega)
    have yuw : Y (18 + u) = Z (18 + u) := yf _ (by omega) (by omega) (by omega)
    have yul : Y (36 + u) = Z (36 + u) := yf _ (by omega) (by omega) (by omega)
    show wX5_becomes_90b (fun x2 Z => wX5_becomes_90 v u K n x2 Z) v u (nI i) Y K
    unfold wX5_becomes_90b
    rw [u10 Y yu]
    refine br_f (nI_ge hi (by omega)) ?_
    simp (disch := omega) only [nI_clamp, vp_in_nI, true_and]
    rintro Z18 hZ18 Z21 hZ21 _ rfl
    rw [nI_1]
    refine ih Z21 ⟨?_, fun m hm => ?_, ?_⟩
    · rw [hZ21, hZ18, zU_r (by omega), zU_r (by omega)]; exact y0
    · by_cases a : m = i
      · rw [a, hZ21, zU_r (by omega), zU_s, hZ18, zU_s, zU_r (by omega), yuw, yul]; exact ⟨rfl, rfl⟩
      · rw [hZ21, zU_r (by omega), zU_k a, hZ18, zU_k a, zU_r (by omega)]; exact yw m (by omega)
    · rw [hZ21, hZ18]; exact yf.tr ((sFr.w _ _).tr (sFr.l _ _))
theorem c_becomes {K : zS → Prop} (hp : p < 3) (hu : u < 3) (hn : ¬ p = u) (hN : S.1 ≤ 6) (hw : ∀ s, s < S.1 → wf0 S.2.1 (S.2.2 s)) (h : cRel u S Z) (hk : ∀ Z', cRel p S Z' → cFr p Z Z' → K Z') : wX3_becomes p u Z K := by
  unfold wX3_becomes
  rintro Z1 hZ1 Z2 hZ2 _ rfl
  have f2 : cFr p Z Z2 := by rw [hZ2, hZ1]; exact (cFr.p hp _ _).tr (cFr.p hp _ _)
  have a1 : Z2 (54 + p) 1 = nI S.1 := by rw [hZ2, zU_k (by decide), hZ1, zU_s]; exact h.1
  have a2 : Z2 (54 + p) 2 = S.2.1 := by rw [hZ2, zU_s, hZ1, zU_r (by omega)]; exact h.2.1
  clear hZ1 hZ2
  refine pk_loop (σ := zS) (fun n i Y => wX3_becomes_18 p u K n (nI i) Y) (fun i Y => Y (54 + p) = Z2 (54 + p) ∧ (∀ s, s < i → sRel (6 * p + s) (S.2.2 s) Y) ∧ cFr p Z Y) S.1 0 Z2 (Nat.zero_le _) ⟨rfl, fun m hm => absurd hm (Nat.not_lt_zero _), f2⟩ ?_ ?_
  · rintro n Y ⟨y0, ys, yf⟩
    show wX3_becomes_18b _ p u (nI S.1) Y K
    unfold wX3_becomes_18b
    have yu : Y (54 + u) 1 = nI S.1 := by rw [yf _ (by rw [cOwn_d hu]; omega)]; exact h.1
    rw [yu]
    exact br_t (Int32.le_refl _) (hk Y ⟨by rw [y0]; exact a1, by rw [y0]; exact a2, ys⟩ yf)
  · rintro n i Y hi ⟨y0, ys, yf⟩ ih
    show wX3_becomes_18b (fun x2 Z => wX3_becomes_18 p u K n x2 Z) p u (nI i) Y K
    unfold wX3_becomes_18b
    have yu : Y (54 + u) 1 = nI S.1 := by rw [yf _ (by rw [cOwn_d hu]; omega)]; exact h.1
    rw [yu]
    have hi6 : i < 6 := Nat.lt_of_lt_of_le hi hN
    refine br_f (nI_ge hi (by omega)) ?_
    simp (disch := omega) only [nI_clamp, vp_in_nI, true_and]
    obtain ⟨j, hj, ej⟩ := zin_nI (n := 4) (hw i hi).jobs (by decide)
    have hsu : sRel (6 * u + i) (S.2.2 i) Y := (h.2.2 i hi).mv (yf _ (by rw [cOwn_a hu hi6]; omega)) (yf _ (by rw [cOwn_b hu hi6]; omega)) (yf _ (by rw [cOwn_c hu hi6]; omega))
    refine c_sbecomes (by omega) (by omega) (by omega) hsu ej (by omega) (hw i hi).hold (fun Z' r f => ?_)
    rintro _ rfl
    rw [nI_1]
    refine ih Z' ⟨?_, fun s hs => ?_, yf.tr (cFr.s hp hi6 f)⟩
    · rw [f _ (by omega) (by omega) (by omega)]; exact y0
    · by_cases a : s = i
      · rw [a]; exact r
      · exact (ys s (by omega)).mv (f _ (by omega) (by omega) (by omega)) (f _ (by omega) (by omega) (by omega)) (f _ (by omega) (by omega) (by omega))
theorem rSv.cg {s : Nat} {o w l o' w' l' : Nat → Int32} (hs : s < 6) (h : rSv s q o w l) (ho : ∀ k, k < 72 → o' k = o k) (hw : ∀ i, i < 24 → w' i = w i ∧ l' i = l i) : rSv s q o' w' l' := by
  obtain ⟨e0, e1, e2, e3, e5, e6, e7, e10, e8, e9, e13, e14, ej⟩ := h
  refine ⟨(ho _ (by omega)).trans e0, (ho _ (by omega)).trans e1, (ho _ (by omega)).trans e2, (ho _ (by omega)).trans e3, (ho _ (by omega)).trans e5, (ho _ (by omega)).trans e6, (ho _ (by omega)).trans e7, (ho _ (by omega)).trans e10, (ho _ (by omega)).trans e8, (ho _ (by omega)).trans e9, (ho _ (by omega)).trans e13, fun a => (ho _ (by omega)).trans (e14 a), fun i h4 hi => ?_⟩
  exact ⟨(hw _ (by omega)).1.trans (ej i h4 hi).1, (hw _ (by omega)).2.trans (ej i h4 hi).2⟩
/-- the live arrays into a row of 122 -/
theorem r_keep {a : Nat} {K : zS → Prop} (ha : 100 < a) (hN : S.1 ≤ 6) (h : rRel S Z) (hk : ∀ Z', aRel a S Z' → (∀ i, ¬ i = a → Z' i = Z i) → K Z') : wX12_keep a 122 Z K := by
  unfold wX12_keep
  rintro _ rfl
  refine pk_loop (σ := zS) (fun n i Y => wX12_keep_2 a 122 K n (nI i) Y) (fun i Y => (∀ k, k < i → Y a k = Z 98 k) ∧ (∀ i, ¬ i = a → Y i = Z i)) 72 0 Z (Nat.zero_le _) ⟨fun m hm => absurd hm (Nat.not_lt_zero _), fun _ _ => rfl⟩ ?_ ?_
  · rintro n Y ⟨yk, yf⟩
    show wX12_keep_2b _ a 122 72 Y K
    unfold wX12_keep_2b
    refine br_t (by decide) ?_
    rintro _ rfl
    refine pk_loop (σ := zS) (fun n i Y => wX12_keep_25 a 122 K n (nI i) Y) (fun i Y => (∀ k, k < 72 → Y a k = Z 98 k) ∧ (∀ k, k < i → Y a (72 + k) = Z 99 k ∧ Y a (96 + k) = Z 100 k) ∧ (∀ i, ¬ i = a → Y i = Z i)) 24 0 Y (Nat.zero_le _) ⟨yk, fun m hm => absurd hm (Nat.not_lt_zero _), yf⟩ ?_ ?_
    · rintro n Y ⟨yk, yw, yf⟩
      show wX12_keep_25b _ a 122 24 Y K
      unfold wX12_keep_25b
      refine br_t (by decide) ⟨vp_in_nI (n := 120) (by decide) (by decide), ?_⟩
      rintro Z10 hZ10
      refine ⟨vp_in_nI (n := 121) (by decide) (by decide), ?_⟩
      rintro Z12 hZ12
      have c120 : (120 : Int32).toNatClampNeg = 120 := by decide
      have c121 : (121 : Int32).toNatClampNeg = 121 := by decide
      rw [c120] at hZ10
      rw [c121] at hZ12
      have o : ∀ k, k < 120 → Z12 a k = Y a k := fun k hk => by rw [hZ12, zU_k (by omega), hZ10, zU_k (by omega)]
      refine hk Z12 ⟨?_, ?_, fun s hs => ?_⟩ (fun i hi => ?_)
      · rw [hZ12, zU_s, hZ10, zU_r (by omega), yf 97 (by omega)]; exact h.1
      · rw [hZ12, zU_k (by decide), hZ10, zU_s, yf 97 (by omega)]; exact h.2.1
      · exact (h.2.2 s hs).cg (by omega) (fun k hk => by rw [o k (by omega)]; exact yk k hk) (fun i hi => by rw [o (72 + i) (by omega), o (96 + i) (by omega)]; exact yw i hi)
      · rw [hZ12, zU_r hi, hZ10, zU_r hi]; exact yf i hi
    · rintro n i Y hi ⟨yk, yw, yf⟩ ih
      show wX12_keep_25b (fun x2 Z => wX12_keep_25 a 122 K n x2 Z) a 122 (nI i) Y K
      unfold wX12_keep_25b
      refine br_f (nI_ge (b := 24) hi (by decide)) ?_
      simp (disch := omega) only [zlit_add, nI_1, nI_clamp, vp_in_nI, true_and]
      rintro Z15 hZ15 Z18 hZ18 _ rfl
      refine ih Z18 ⟨fun k hk => ?_, fun k hk => ?_, fun i hi => ?_⟩
      · rw [hZ18, zU_k (by omega), hZ15, zU_k (by omega)]; exact yk k hk
      · rw [hZ18, hZ15, zU_r (show ¬ 100 = a by omega), yf 99 (by omega), yf 100 (by omega)]
        by_cases e : k = i
        · rw [e, zU_k (by omega), zU_s, zU_s]; exact ⟨rfl, rfl⟩
        · rw [zU_k (by omega), zU_k (by omega), zU_k (by omega), zU_k (by omega)]; exact yw k (by omega)
      · rw [hZ18, zU_r hi, hZ15, zU_r hi]; exact yf i hi
  · rintro n i Y hi ⟨yk, yf⟩ ih
    show wX12_keep_2b (fun x2 Z => wX12_keep_2 a 122 K n x2 Z) a 122 (nI i) Y K
    unfold wX12_keep_2b
    refine br_f (nI_ge (b := 72) hi (by decide)) ?_
    simp (disch := omega) only [zlit_add, nI_1, nI_clamp, vp_in_nI, true_and]
    rintro Z6 hZ6 _ rfl
    refine ih Z6 ⟨fun k hk => ?_, fun i hi => ?_⟩
    · by_cases e : k = i
      · rw [e, hZ6, zU_s, yf 98 (by omega)]
      · rw [hZ6, zU_k e]; exact yk k (by omega)
    · rw [hZ6, zU_r hi]; exact yf i hi
/-- and back -/
theorem r_again {a : Nat} {K : zS → Prop} (ha : 100 < a) (hN : S.1 ≤ 6) (h : aRel a S Z) (hk : ∀ Z', rRel S Z' → gFr Z Z' → Z' 97 5 = Z 97 5 → Z' 97 6 = Z 97 6 → K Z') : wX12_again a 122 Z K := by
  unfold wX12_again
  rintro _ rfl
  refine pk_loop (σ := zS) (fun n i Y => wX12_again_2 a 122 K n (nI i) Y) (fun i Y => (∀ k, k < i → Y 98 k = Z a k) ∧ (∀ i, ¬ i = 98 → Y i = Z i)) 72 0 Z (Nat.zero_le _) ⟨fun m hm => absurd hm (Nat.not_lt_zero _), fun _ _ => rfl⟩ ?_ ?_
  · rintro n Y ⟨yk, yf⟩
    show wX12_again_2b _ a 122 72 Y K
    unfold wX12_again_2b
    refine br_t (by decide) ?_
    rintro _ rfl
    refine pk_loop (σ := zS) (fun n i Y => wX12_again_25 a 122 K n (nI i) Y) (fun i Y => (∀ k, k < 72 → Y 98 k = Z a k) ∧ (∀ k, k < i → Y 99 k = Z a (72 + k) ∧ Y 100 k = Z a (96 + k)) ∧ (∀ i, ¬ i = 98 → ¬ i = 99 → ¬ i = 100 → Y i = Z i)) 24 0 Y (Nat.zero_le _) ⟨yk, fun m hm => absurd hm (Nat.not_lt_zero _), fun i h _ _ => yf i h⟩ ?_ ?_
    · rintro n Y ⟨yk, yw, yf⟩
      show wX12_again_25b _ a 122 24 Y K
      unfold wX12_again_25b
      refine br_t (by decide) ⟨vp_in_nI (n := 120) (by decide) (by decide), ?_⟩
      rintro Z10 hZ10
      refine ⟨vp_in_nI (n := 121) (by decide) (by decide), ?_⟩
      rintro Z12 hZ12
      have c120 : (120 : Int32).toNatClampNeg = 120 := by decide
      have c121 : (121 : Int32).toNatClampNeg = 121 := by decide
      rw [c120] at hZ10
      rw [c121] at hZ12
      have o : ∀ i, ¬ i = 97 → Z12 i = Y i := fun i hi => by rw [hZ12, zU_r hi, hZ10, zU_r hi]
      have ya : Y a = Z a := yf a (by omega) (by omega) (by omega)
      refine hk Z12 ⟨?_, ?_, fun s hs => ?_⟩ ⟨fun i hi => ?_, fun k h0 h1 _ _ => ?_⟩ ?_ ?_
      · rw [hZ12, zU_s, hZ10, zU_r (by omega), ya]; exact h.1
      · rw [hZ12, zU_k (by decide), hZ10, zU_s, ya]; exact h.2.1
      · rw [o 98 (by decide), o 99 (by decide), o 100 (by decide)]
        exact (h.2.2 s hs).cg (by omega) (fun k hk => yk k hk) (fun i hi => yw i hi)
      · rw [o i (by omega)]; exact yf i (by omega) (by omega) (by omega)
      · rw [hZ12, zU_k h1, hZ10, zU_k h0, yf 97 (by decide) (by decide) (by decide)]
      · rw [hZ12, zU_k (by decide), hZ10, zU_k (by decide), yf 97 (by decide) (by decide) (by decide)]
      · rw [hZ12, zU_k (by decide), hZ10, zU_k (by decide), yf 97 (by decide) (by decide) (by decide)]
    · rintro n i Y hi ⟨yk, yw, yf⟩ ih
      show wX12_again_25b (fun x2 Z => wX12_again_25 a 122 K n x2 Z) a 122 (nI i) Y K
      unfold wX12_again_25b
      refine br_f (nI_ge (b := 24) hi (by decide)) ?_
      simp (disch := omega) only [zlit_add, nI_1, nI_clamp, vp_in_nI, true_and]
      rintro Z15 hZ15 Z18 hZ18 _ rfl
      have ya : Y a = Z a := yf a (by omega) (by omega) (by omega)
      refine ih Z18 ⟨fun k hk => ?_, fun k hk => ?_, fun i h8 h9 h0 => ?_⟩
      · rw [hZ18, hZ15, zU_r (by decide), zU_r (by decide)]; exact yk k hk
      · rw [hZ18, hZ15, zU_r (show ¬ a = 99 by omega), ya, zU_r (show ¬ 99 = 100 by decide)]
        by_cases e : k = i
        · rw [e, zU_s, zU_s]; exact ⟨rfl, rfl⟩
        · rw [zU_k e, zU_k e, zU_r (by decide)]; exact yw k (by omega)
      · rw [hZ18, zU_r h0, hZ15, zU_r h9]; exact yf i h8 h9 h0
  · rintro n i Y hi ⟨yk, yf⟩ ih
    show wX12_again_2b (fun x2 Z => wX12_again_2 a 122 K n x2 Z) a 122 (nI i) Y K
    unfold wX12_again_2b
    refine br_f (nI_ge (b := 72) hi (by decide)) ?_
    simp (disch := omega) only [zlit_add, nI_1, nI_clamp, vp_in_nI, true_and]
    rintro Z6 hZ6 _ rfl
    refine ih Z6 ⟨fun k hk => ?_, fun i hi => ?_⟩
    · by_cases e : k = i
      · rw [e, hZ6, zU_s, yf a (by omega)]
      · rw [hZ6, zU_k e]; exact yk k (by omega)
    · rw [hZ6, zU_r hi]; exact yf i hi
end MV
