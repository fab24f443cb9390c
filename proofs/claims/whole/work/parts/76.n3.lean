/-! THE FIRST STATE; the constructors of class and reference -/
def sgL : List Nat := [10, 13, 16, 19, 22, 25, 30, 33, 36, 39, 42, 45, 50, 53, 56, 59, 62, 65, 11, 14, 17, 20, 23, 26, 31, 34, 37, 40, 43, 46, 51, 54, 57, 60, 63, 66, 12, 15, 18, 21, 24, 27, 32, 35, 38, 41, 44, 47, 52, 55, 58, 61, 64, 67, 8, 28, 48, 9, 29, 49, 69, 71, 73, 75, 77, 79, 81, 83, 70, 72, 74, 76, 78, 80, 82, 84, 86, 88, 90, 92, 87, 89, 91, 93, 1, 2, 3, 5, 6, 7, 4, 68, 85, 94, 95, 96, 0, 97, 98, 99, 100, 101, 102, 103, 104, 105, 106, 107, 108, 109, 110, 111]
def tgL : List Nat := [96, 84, 85, 86, 90, 87, 88, 89, 54, 57, 0, 18, 36, 1, 19, 37, 2, 20, 38, 3, 21, 39, 4, 22, 40, 5, 23, 41, 55, 58, 6, 24, 42, 7, 25, 43, 8, 26, 44, 9, 27, 45, 10, 28, 46, 11, 29, 47, 56, 59, 12, 30, 48, 13, 31, 49, 14, 32, 50, 15, 33, 51, 16, 34, 52, 17, 35, 53, 91, 60, 68, 61, 69, 62, 70, 63, 71, 64, 72, 65, 73, 66, 74, 67, 75, 92, 76, 80, 77, 81, 78, 82, 79, 83, 93, 94, 95, 97, 98, 99, 100, 101, 102, 103, 104, 105, 106, 107, 108, 109, 110, 111]
def sg (i : Nat) : Nat := sgL.getD i 0
def tg (k : Nat) : Nat := tgL.getD k 0
theorem tg_sg : ∀ i, i < 112 → tg (sg i) = i ∧ sg i < 112 := by decide +kernel
def Z0 : zS := fun i j => if i = 54 ∨ i = 55 ∨ i = 56 then (if j = 3 ∨ j = 4 then -4 else 0) else if i = 108 then (if j < 4 then -4 else 0) else 0
def nE (D : va_G) (b : Nat) (ct : Nat → ClassId) : zE := (D, fun i => b + sg i, ct, 0)
def fin (D : va_G) (b : Nat) (ct : Nat → ClassId) (k : Nat) : va_E := zent (nE D b ct) (tg k) (Z0 (tg k))
section NF
variable {D : va_G} {b : Nat} {ct : Nat → ClassId}
theorem fin_inj : zInj (nE D b ct) := by
  intro i j hi hj h
  have h1 : sg i = sg j := Nat.add_left_cancel h
  rw [← (tg_sg i hi).1, ← (tg_sg j hj).1, h1]
theorem fin_P {en : Nat → va_E} {H : Heap} (hP : va_P D vwCl (nW b 112 en) H) (hf : ∀ k, k < 112 → en k = fin D b ct k) : va_P (nE D b ct).1 vwCl (zw (nE D b ct) Z0) H := by
  intro k q hk
  obtain ⟨hk1, rfl⟩ := zw_in hk
  obtain ⟨h1, h2⟩ := tg_sg k hk1
  have h3 := hP (sg k) _ (nW_at h2)
  rw [hf _ h2] at h3
  unfold fin at h3
  rw [h1] at h3
  exact h3
theorem fin_pl : ∀ p, p < 3 → fin D b ct (8 + 20 * p) = .inr (3, [.ref (b + (9 + 20 * p)), .int 0, .int 0, .int (-4), .int (-4)]) := by
  intro p hp
  match p, hp with
  | 0, _ => rfl
  | 1, _ => rfl
  | 2, _ => rfl
theorem fin_sv : ∀ p s, p < 3 → s < 6 → fin D b ct (9 + 20 * p + 1 + 3 * s) = nS1 b (b + 1) (9 + 20 * p + 2 + 3 * s) ∧ fin D b ct (9 + 20 * p + 2 + 3 * s) = nI4 (nE D b ct) ∧ fin D b ct (9 + 20 * p + 3 + 3 * s) = nI4 (nE D b ct) := by
  intro p s hp hs
  match p, s, hp, hs with
  | 0, 0, _, _ => exact ⟨rfl, rfl, rfl⟩
  | 0, 1, _, _ => exact ⟨rfl, rfl, rfl⟩
  | 0, 2, _, _ => exact ⟨rfl, rfl, rfl⟩
  | 0, 3, _, _ => exact ⟨rfl, rfl, rfl⟩
  | 0, 4, _, _ => exact ⟨rfl, rfl, rfl⟩
  | 0, 5, _, _ => exact ⟨rfl, rfl, rfl⟩
  | 1, 0, _, _ => exact ⟨rfl, rfl, rfl⟩
  | 1, 1, _, _ => exact ⟨rfl, rfl, rfl⟩
  | 1, 2, _, _ => exact ⟨rfl, rfl, rfl⟩
  | 1, 3, _, _ => exact ⟨rfl, rfl, rfl⟩
  | 1, 4, _, _ => exact ⟨rfl, rfl, rfl⟩
  | 1, 5, _, _ => exact ⟨rfl, rfl, rfl⟩
  | 2, 0, _, _ => exact ⟨rfl, rfl, rfl⟩
  | 2, 1, _, _ => exact ⟨rfl, rfl, rfl⟩
  | 2, 2, _, _ => exact ⟨rfl, rfl, rfl⟩
  | 2, 3, _, _ => exact ⟨rfl, rfl, rfl⟩
  | 2, 4, _, _ => exact ⟨rfl, rfl, rfl⟩
  | 2, 5, _, _ => exact ⟨rfl, rfl, rfl⟩
def fGp (b p : Nat) : Nat → Option Nat := fun j => some (b + sg (6 * p + j))
theorem fin_pr : ∀ p, p < 3 → fin D b ct (9 + 20 * p) = .inl (ct 1, 6, .inr (.inr (.inr (.inr (fGp b p))))) := by
  intro p hp
  match p, hp with
  | 0, _ => rfl
  | 1, _ => rfl
  | 2, _ => rfl
theorem fGp_at {p : Nat} (hp : p < 3) : ∀ j, j < 6 → fGp b p j = some (b + (9 + 20 * p + 1 + 3 * j)) := by
  have h : ∀ p, p < 3 → ∀ j, j < 6 → sg (6 * p + j) = 9 + 20 * p + 1 + 3 * j := by decide +kernel
  intro j hj
  unfold fGp
  rw [h p hp j hj]
theorem fin_sh : ∀ d, d < 8 → fin D b ct (69 + 2 * d) = .inr (6, [.int 0, .ref (b + 1), .int 0, .int 0, .int 0, .ref (b + (70 + 2 * d))]) ∧ fin D b ct (70 + 2 * d) = nI0 (nE D b ct) 100 := by
  intro d hd
  match d, hd with
  | 0, _ => exact ⟨rfl, rfl⟩
  | 1, _ => exact ⟨rfl, rfl⟩
  | 2, _ => exact ⟨rfl, rfl⟩
  | 3, _ => exact ⟨rfl, rfl⟩
  | 4, _ => exact ⟨rfl, rfl⟩
  | 5, _ => exact ⟨rfl, rfl⟩
  | 6, _ => exact ⟨rfl, rfl⟩
  | 7, _ => exact ⟨rfl, rfl⟩
theorem fin_tr : ∀ t, t < 4 → fin D b ct (86 + 2 * t) = .inr (9, [.int 0, .ref (b + 1), .int 0, .ref (b + (87 + 2 * t))]) ∧ fin D b ct (87 + 2 * t) = nI0 (nE D b ct) 20 := by
  intro t ht
  match t, ht with
  | 0, _ => exact ⟨rfl, rfl⟩
  | 1, _ => exact ⟨rfl, rfl⟩
  | 2, _ => exact ⟨rfl, rfl⟩
  | 3, _ => exact ⟨rfl, rfl⟩
def fG (b o : Nat) : Nat → Option Nat := fun j => some (b + sg (o + j))
theorem fG_k : ∀ j, j < 6 → fG b 84 j = va_up (va_up (va_up (va_up (va_up (va_up (fun _ => none) (0 : Int32).toNatClampNeg (some (b + 1))) (1 : Int32).toNatClampNeg (some (b + 2))) (2 : Int32).toNatClampNeg (some (b + 3))) (3 : Int32).toNatClampNeg (some (b + 5))) (4 : Int32).toNatClampNeg (some (b + 6))) (5 : Int32).toNatClampNeg (some (b + 7)) j := by
  intro j hj
  match j, hj with
  | 0, _ => rfl
  | 1, _ => rfl
  | 2, _ => rfl
  | 3, _ => rfl
  | 4, _ => rfl
  | 5, _ => rfl
theorem fG_s : ∀ j, j < 8 → fG b 60 j = some (b + (69 + 2 * j)) := by
  have h : ∀ j, j < 8 → sg (60 + j) = 69 + 2 * j := by decide +kernel
  intro j hj
  unfold fG
  rw [h j hj]
theorem fG_t : ∀ j, j < 4 → fG b 76 j = some (b + (86 + 2 * j)) := by
  have h : ∀ j, j < 4 → sg (76 + j) = 86 + 2 * j := by decide +kernel
  intro j hj
  unfold fG
  rw [h j hj]
/-- what stands: the class's object is o; all else up to n but x is as it will stay -/
def fF (D : va_G) (b : Nat) (ct : Nat → ClassId) (x n : Nat) (en : Nat → va_E) (o : va_E) : Prop := en 0 = o ∧ ∀ j, 1 ≤ j → j < n → j ≠ x → en j = fin D b ct j
variable {x n : Nat} {en en1 : Nat → va_E} {o e0 e1 : va_E}
theorem fF.mk (h : fF D b ct x n en o) (hn : 1 ≤ n) (hx : x < n) (h1 : en1 = va_up (va_up en n e0) n e1) (he : e1 = fin D b ct n) : fF D b ct x (n + 1) en1 o ∧ en1 x = en x := by
  subst h1
  refine ⟨⟨by rw [va_up_n (by omega), va_up_n (by omega)]; exact h.1, fun j j1 j2 j3 => ?_⟩, by rw [va_up_n (by omega), va_up_n (by omega)]⟩
  by_cases e : j = n
  · subst e; rw [va_up_s]; exact he
  · rw [va_up_n e, va_up_n e]; exact h.2 j j1 (by omega) j3
theorem fF.mk1 (h : fF D b ct x n en o) (hn : 1 ≤ n) (hx : x < n) (h1 : en1 = va_up en n e1) (he : e1 = fin D b ct n) : fF D b ct x (n + 1) en1 o := by
  subst h1
  refine ⟨by rw [va_up_n (by omega)]; exact h.1, fun j j1 j2 j3 => ?_⟩
  by_cases e : j = n
  · subst e; rw [va_up_s]; exact he
  · rw [va_up_n e]; exact h.2 j j1 (by omega) j3
theorem fF.obj (h : fF D b ct x n en o) (h1 : en1 = va_up en 0 e1) : fF D b ct x n en1 e1 := by
  subst h1
  exact ⟨va_up_s _ _ _, fun j j1 j2 j3 => by rw [va_up_n (by omega)]; exact h.2 j j1 j2 j3⟩
theorem fF.opn (h : fF D b ct 0 n en o) (hn : 1 ≤ n) (h1 : en1 = va_up en n e1) : fF D b ct n (n + 1) en1 o ∧ en1 n = e1 := by
  subst h1
  exact ⟨⟨by rw [va_up_n (by omega)]; exact h.1, fun j j1 j2 j3 => by rw [va_up_n j3]; exact h.2 j j1 (by omega) (by omega)⟩, va_up_s _ _ _⟩
theorem fF.arr (h : fF D b ct x n en o) (hx : 1 ≤ x) (h1 : en1 = va_up en x e1) : fF D b ct x n en1 o ∧ en1 x = e1 := by
  subst h1
  exact ⟨⟨by rw [va_up_n (by omega)]; exact h.1, fun j j1 j2 j3 => by rw [va_up_n j3]; exact h.2 j j1 j2 j3⟩, va_up_s _ _ _⟩
theorem fF.cls (h : fF D b ct x n en o) (hx : en x = fin D b ct x) : fF D b ct 0 n en o := ⟨h.1, fun j j1 j2 _ => by
  by_cases e : j = x
  · rw [e]; exact hx
  · exact h.2 j j1 j2 e⟩
/-- a plant behind its constructor -/
theorem fF.plant {p : Nat} (h : fF D b ct 0 (8 + 20 * p) en o) (hp : p < 3) (he : en (8 + 20 * p) = e0) (g1 : ∀ j, j < 9 + 20 * p → j ≠ 8 + 20 * p → en1 j = en j) (g2 : en1 (8 + 20 * p) = .inr (3, [.ref (b + (9 + 20 * p)), .int 0, .int 0, .int (-4), .int (-4)])) (g3 : en1 (9 + 20 * p) = .inl (ct 1, 6, .inr (.inr (.inr (.inr (fGp b p)))))) (g4 : ∀ i, i < 6 → en1 (9 + 20 * p + 1 + 3 * i) = nS1 b (b + 1) (9 + 20 * p + 2 + 3 * i) ∧ en1 (9 + 20 * p + 2 + 3 * i) = nI4 (nE D b ct) ∧ en1 (9 + 20 * p + 3 + 3 * i) = nI4 (nE D b ct)) : fF D b ct 0 (9 + 20 * p + 19) en1 o := by
  refine ⟨(g1 0 (by omega) (by omega)).trans h.1, fun j j1 j2 _ => ?_⟩
  by_cases c1 : j < 8 + 20 * p
  · rw [g1 j (by omega) (by omega)]; exact h.2 j j1 c1 (by omega)
  · by_cases c2 : j = 8 + 20 * p
    · subst c2; rw [g2, fin_pl p hp]
    · by_cases c3 : j = 9 + 20 * p
      · subst c3; rw [g3, fin_pr p hp]
      · obtain ⟨i, r, hi, hr, e⟩ : ∃ i r, i < 6 ∧ r < 3 ∧ j = 9 + 20 * p + 1 + 3 * i + r := ⟨(j - (10 + 20 * p)) / 3, (j - (10 + 20 * p)) % 3, by omega, by omega, by omega⟩
        obtain ⟨a1, a2, a3⟩ := g4 i hi
        obtain ⟨f1, f2, f3⟩ := fin_sv (D := D) (b := b) (ct := ct) p i hp hi
        have hr : r = 0 ∨ r = 1 ∨ r = 2 := by omega
        rcases hr with rfl | rfl | rfl
        · rw [e, Nat.add_zero, a1, f1]
        · rw [e, show 9 + 20 * p + 1 + 3 * i + 1 = 9 + 20 * p + 2 + 3 * i by omega, a2, f2]
        · rw [e, show 9 + 20 * p + 1 + 3 * i + 2 = 9 + 20 * p + 3 + 3 * i by omega, a3, f3]
end NF
section NR2
variable {p : Program} {l : Launch} {e : Env} {R : Room} {s : State} {m : MethodId} {args : Array Value} {below : List Frame} {meth : Method} {c : Code} {H : Heap} {locs : List Loc} {cells slots : Nat} {Q : State → Prop}
variable {cc : ByteArray} {pc nL : Nat} {ls : Array Slot} {rest : List Value} {E : zE} {Ts : List Cond} {own : String} {b n : Nat} {en : Nat → va_E}
theorem n_astqO (hF : nFx p m c cc nL s args Ts own E) (hG : nG E b n en s H locs) (i t k ci : Nat) (hi : i < n) (hk : k < n) {C : String} {r : vw_C} {N : Nat} {vs : List Value} {f : Nat → Option Nat} (he : en i = .inl (E.2.2.1 t, N, .inr (.inr (.inr (.inr f))))) (ht : (zT E)[t]? = some (E.2.2.1 t, .object C)) (hca : va_Nw (.castable r.1 C) s) (hv : en k = .inr (ci, vs)) (hc : vwCl[ci]? = some r) {x : Int32} (hin : vp_in x N) (hdg : decode cc pc = .ok (.aastore, 1))
    (kk : ∀ (H' : Heap) (locs' : List Loc), nG E b n (va_up en i (.inl (E.2.2.1 t, N, .inr (.inr (.inr (.inr (va_up f x.toNatClampNeg (some (b + k))))))))) s H' locs' → W p l e R s m args below meth c H' locs' cells slots Q (F0 m (pc + 1) ls rest)) : W p l e R s m args below meth c H locs cells slots Q (F0 m pc ls (.ref (b + k) :: .int x :: .ref (b + i) :: rest)) :=
  va_astqO (A := nA b) hF.1.1 hF.1.2.1 hF.2.1 hG.1 nW_D hG.2.1 i t k ci (by rw [nW_at hi, he]) ht hca (by rw [nW_at hk, hv]) hc hin hdg
    (fun H1 locs1 hP _ hS => kk H1 locs1 ⟨by rw [nW_set hi] at hP; exact hP, hS, hG.2.2⟩)
end NR2
