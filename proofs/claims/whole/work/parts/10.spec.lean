/-! SERVERS AND PLANTS IN NUMBERS: a server q (0 kind, 1 figure, 2 budget, 3 period, 4 share, 5 left, 6 deadline, 7 state, 8 late, 9 done, 10 jobs, 13 holds, 14 first deadline, 20.. work, 30.. lock); a plant S: how many, the tick, the servers. What is done to them; where class and reference show them. -/
section PS
abbrev zQ : Type := Nat → Int32
abbrev zP : Type := Nat × Int32 × (Nat → zQ)
def zsum (f : Nat → Int32) : Nat → Int32
  | 0 => 0
  | n + 1 => zsum f n + f n
theorem zU_ap (Z : zS) (i k : Nat) (x : Int32) (a b : Nat) : zU Z i k x a b = if a = i ∧ b = k then x else Z a b := by
  unfold zU va_up upd
  by_cases h : a = i
  · subst h; by_cases h2 : b = k <;> simp [h2]
  · simp [h]
theorem upd_ap (q : zQ) (k : Nat) (x : Int32) (j : Nat) : upd q k x j = if j = k then x else q j := rfl
theorem vup_ap {α : Type} (f : Nat → α) (k : Nat) (x : α) (j : Nat) : va_up f k x j = if j = k then x else f j := rfl
def qDrop (q : zQ) : zQ := upd (upd (upd q 10 0) 13 0) 7 0
def qWake (q : zQ) : zQ := upd (upd (upd q 7 1) 5 (60 * q 2 + (if q 0 = 5 then q 5 else 0))) 6 (q 6 + q 3)
def qRefill (q : zQ) : zQ := if q 0 = 2 ∨ q 0 = 5 then upd q 7 2 else upd (upd q 5 (q 5 + 60 * q 2)) 6 (q 6 + q 3)
def qMax (load : Int32) (q : zQ) : Int32 := if load < q 4 then q 4 else load
def qGreedy (load : Int32) (q : zQ) : Int32 := if qMax load q < 60 then qMax load q else 60
def qPays (load : Int32) (q : zQ) : Int32 := if q 0 = 1 then qGreedy load q else if q 0 = 3 then (if qGreedy load q - q 1 < q 4 then q 4 else qGreedy load q - q 1) else if q 0 = 4 then (60 + qGreedy load q) / 2 else 60
def qBegin (t : Int32) (q : zQ) : zQ := if q 7 = 2 then (if t < q 6 then q else qWake q) else if q 7 = 3 then (if q 5 * q 3 < 60 * q 2 * (q 6 - t) then q else upd q 7 0) else q
def qJob (w l : Int32) (q : zQ) : zQ := upd (upd (upd q (20 + (q 10).toNatClampNeg) w) (30 + (q 10).toNatClampNeg) l) 10 (q 10 + 1)
def qTake (t w l : Int32) (q : zQ) : zQ :=
  if q 7 = 1 ∨ q 7 = 2 then qJob w l q
  else if q 7 = 0 ∨ q 5 ≤ 0 ∨ ¬ (q 5 * q 3 < 60 * q 2 * (q 6 - t)) then upd (upd (upd (upd (qJob w l q) 5 (60 * q 2)) 6 (t + q 3)) 7 1) 14 (t + q 3)
  else upd (upd (qJob w l q) 7 1) 14 (q 6)
def qMore (x : Int32) : Int32 := if x + 1 < 999 then x + 1 else 999
def qEnd (q : zQ) : zQ := fun k => if k < 20 then upd (upd (upd (upd (upd q 9 (qMore (q 9))) 10 (q 10 - 1)) 13 0) 14 (q 6)) 7 (if q 10 - 1 = 0 then 3 else q 7) k else q (k + 1)
def qRun1 (t : Int32) (q : zQ) : zQ := upd (upd (upd q 20 (q 20 - 1)) 13 (if q 30 = 3 then 0 else 1)) 8 (if t < q 14 then q 8 else qMore (q 8))
def qRun (t : Int32) (q : zQ) : zQ := if q 20 - 1 = 0 then qEnd (qRun1 t q) else qRun1 t q
def pSet (S : zP) (s : Nat) (q : zQ) : zP := (S.1, S.2.1, va_up S.2.2 s q)
def pBegin (S : zP) : zP := (S.1, S.2.1, fun s => qBegin S.2.1 (S.2.2 s))
def pLoad (S : zP) : Int32 := zsum (fun s => if S.2.2 s 7 = 0 then 0 else S.2.2 s 4) S.1
def pEar (P : Nat → zQ) : Nat → Int32
  | 0 => -4
  | n + 1 => if P n 7 = 1 ∧ (pEar P n = -4 ∨ ¬ P (pEar P n).toNatClampNeg 6 ≤ P n 6) then nI n else pEar P n
def pHol (P : Nat → zQ) (l : Int32) : Nat → Int32
  | 0 => -4
  | n + 1 => if pHol P l n = -4 then (if ¬ P n 10 ≤ 0 ∧ ¬ P n 13 = 0 ∧ P n 30 = l then nI n else -4) else pHol P l n
def pHold (S : zP) (l : Int32) : Int32 := if l = 3 then -4 else pHol S.2.2 l S.1
def pRnr (c : Int32) (S : zP) : Int32 := if pHold S (S.2.2 c.toNatClampNeg 30) = -4 then c else pHold S (S.2.2 c.toNatClampNeg 30)
def pPay (c : Nat) (S : zP) : zP := pSet S c (upd (S.2.2 c) 5 (S.2.2 c 5 - qPays (pLoad S) (S.2.2 c)))
def pWork (r : Nat) (S : zP) : zP := pSet S r (qRun S.2.1 (S.2.2 r))
def pFill (c : Nat) (S : zP) : zP := if S.2.2 c 7 = 1 ∧ S.2.2 c 5 ≤ 0 then pSet S c (qRefill (S.2.2 c)) else S
def pRun (c : Int32) (S : zP) : zP := pFill c.toNatClampNeg (pWork (pRnr c S).toNatClampNeg (pPay c.toNatClampNeg S))
def pCh (b : Int32) (S : zP) : Int32 := if b = 0 then pEar (pBegin S).2.2 S.1 else -4
def pRn (b : Int32) (S : zP) : Int32 := if pCh b S = -4 then -4 else pRnr (pCh b S) (pBegin S)
def pTick (S : zP) : zP := (S.1, S.2.1 + 1, S.2.2)
def pGo (b : Int32) (S : zP) : zP := pTick (if pCh b S = -4 then pBegin S else pRun (pCh b S) (pBegin S))
def pGoN : Nat → zP → zP
  | 0, S => S
  | n + 1, S => pGo 0 (pGoN n S)
def pLate (S : zP) : Int32 := zsum (fun s => S.2.2 s 8) S.1
def pDone (S : zP) : Int32 := zsum (fun s => S.2.2 s 9) S.1
def pJobs (S : zP) : Int32 := zsum (fun s => S.2.2 s 10) S.1
def pLateBut (o : Int32) (S : zP) : Int32 := zsum (fun s => if nI s = o then 0 else S.2.2 s 8) S.1
def pAdd (k f b p : Int32) (S : zP) : zP := (S.1 + 1, S.2.1, va_up S.2.2 S.1 (upd (upd (upd (upd (upd (fun _ => 0) 0 k) 1 f) 2 b) 3 p) 4 (60 * b / p)))
/-! where the class shows a server (its cell v), where a plant -/
def sRel0 (v : Nat) (q : zQ) (Z : zS) : Prop := (∀ k, k < 11 → Z v k = q k) ∧ Z v 13 = q 13 ∧ ∀ i : Nat, i < (q 10).toNatClampNeg → Z (18 + v) i = q (20 + i) ∧ Z (36 + v) i = q (30 + i)
def sRel (v : Nat) (q : zQ) (Z : zS) : Prop := sRel0 v q Z ∧ (¬ q 10 = 0 → Z v 14 = q 14)
def sFr (v : Nat) (Z Z' : zS) : Prop := ∀ i, i ≠ v → i ≠ 18 + v → i ≠ 36 + v → Z' i = Z i
def cRel (p : Nat) (S : zP) (Z : zS) : Prop := Z (54 + p) 1 = nI S.1 ∧ Z (54 + p) 2 = S.2.1 ∧ ∀ s, s < S.1 → sRel (6 * p + s) (S.2.2 s) Z
def cOwn (i : Nat) : Nat := if i < 54 then i % 18 / 6 else if i < 57 then i - 54 else 3
def cFr (p : Nat) (Z Z' : zS) : Prop := ∀ i, cOwn i ≠ p → Z' i = Z i
/-! where the reference shows a server -/
def rSv (s : Nat) (q : zQ) (o w l : Nat → Int32) : Prop := o s = q 0 ∧ o (6 + s) = q 1 ∧ o (12 + s) = q 2 ∧ o (18 + s) = q 3 ∧ o (24 + s) = q 5 ∧ o (30 + s) = q 6 ∧ o (36 + s) = q 7 ∧ o (42 + s) = q 10 ∧ o (48 + s) = q 8 ∧ o (54 + s) = q 9 ∧ o (66 + s) = q 13 ∧ (¬ q 10 = 0 → o (60 + s) = q 14) ∧ ∀ i : Nat, i < 4 → i < (q 10).toNatClampNeg → w (4 * s + i) = q (20 + i) ∧ l (4 * s + i) = q (30 + i)
def rRel (S : zP) (Z : zS) : Prop := Z 97 1 = nI S.1 ∧ Z 97 0 = S.2.1 ∧ ∀ s, s < S.1 → rSv s (S.2.2 s) (Z 98) (Z 99) (Z 100)
def aRel (a : Nat) (S : zP) (Z : zS) : Prop := Z a 121 = nI S.1 ∧ Z a 120 = S.2.1 ∧ ∀ s, s < S.1 → rSv s (S.2.2 s) (Z a) (fun i => Z a (72 + i)) (fun i => Z a (96 + i))
/-! a server that is as it must be, at the tick t -/
def zin (x : Int32) (a b : Int) : Prop := a ≤ x.toInt ∧ x.toInt ≤ b
def wf0 (t : Int32) (q : zQ) : Prop := zKi (q 0) ∧ zin (q 1) 0 9 ∧ zin (q 2) 1 30 ∧ ((q 2).toInt ≤ (q 3).toInt ∧ (q 3).toInt ≤ 60) ∧ (q 4 = 60 * q 2 / q 3 ∧ zin (q 4) 1 60) ∧ zin (q 5) (-59) 1800 ∧ zin (q 6) 0 (60 * t.toInt + 120) ∧ (q 7 = 0 ∨ q 7 = 1 ∨ q 7 = 2 ∨ q 7 = 3) ∧ zin (q 8) 0 999 ∧ zin (q 9) 0 999 ∧ zin (q 10) 0 4 ∧ (q 10 = 0 ↔ (q 7 = 0 ∨ q 7 = 3)) ∧ (q 7 = 2 → q 5 ≤ 0) ∧ zBo (q 13) ∧ (q 10 = 0 → q 13 = 0) ∧ ∀ i : Nat, i < (q 10).toNatClampNeg → zin (q (20 + i)) 1 9 ∧ zin (q (30 + i)) 0 3
def wfQ (t : Int32) (q : zQ) : Prop := wf0 t q ∧ (q 7 = 1 → ¬ q 5 ≤ 0)
def wfP (T : Nat) (S : zP) : Prop := S.1 ≤ 6 ∧ zin S.2.1 0 T ∧ ∀ s, s < S.1 → wfQ S.2.1 (S.2.2 s)
theorem wf0.kind {t : Int32} {q : zQ} (h : wf0 t q) : zKi (q 0) := h.1
theorem wfQ.kind {t : Int32} {q : zQ} (h : wfQ t q) : zKi (q 0) := h.1.1
theorem wf0.fig {t : Int32} {q : zQ} (h : wf0 t q) : zin (q 1) 0 9 := h.2.1
theorem wfQ.fig {t : Int32} {q : zQ} (h : wfQ t q) : zin (q 1) 0 9 := h.1.2.1
theorem wf0.bud {t : Int32} {q : zQ} (h : wf0 t q) : zin (q 2) 1 30 := h.2.2.1
theorem wfQ.bud {t : Int32} {q : zQ} (h : wfQ t q) : zin (q 2) 1 30 := h.1.2.2.1
theorem wf0.per {t : Int32} {q : zQ} (h : wf0 t q) : ((q 2).toInt ≤ (q 3).toInt ∧ (q 3).toInt ≤ 60) := h.2.2.2.1
theorem wfQ.per {t : Int32} {q : zQ} (h : wfQ t q) : ((q 2).toInt ≤ (q 3).toInt ∧ (q 3).toInt ≤ 60) := h.1.2.2.2.1
theorem wf0.part {t : Int32} {q : zQ} (h : wf0 t q) : (q 4 = 60 * q 2 / q 3 ∧ zin (q 4) 1 60) := h.2.2.2.2.1
theorem wfQ.part {t : Int32} {q : zQ} (h : wfQ t q) : (q 4 = 60 * q 2 / q 3 ∧ zin (q 4) 1 60) := h.1.2.2.2.2.1
theorem wf0.left {t : Int32} {q : zQ} (h : wf0 t q) : zin (q 5) (-59) 1800 := h.2.2.2.2.2.1
theorem wfQ.left {t : Int32} {q : zQ} (h : wfQ t q) : zin (q 5) (-59) 1800 := h.1.2.2.2.2.2.1
theorem wf0.dl {t : Int32} {q : zQ} (h : wf0 t q) : zin (q 6) 0 (60 * t.toInt + 120) := h.2.2.2.2.2.2.1
theorem wfQ.dl {t : Int32} {q : zQ} (h : wfQ t q) : zin (q 6) 0 (60 * t.toInt + 120) := h.1.2.2.2.2.2.2.1
theorem wf0.st {t : Int32} {q : zQ} (h : wf0 t q) : (q 7 = 0 ∨ q 7 = 1 ∨ q 7 = 2 ∨ q 7 = 3) := h.2.2.2.2.2.2.2.1
theorem wfQ.st {t : Int32} {q : zQ} (h : wfQ t q) : (q 7 = 0 ∨ q 7 = 1 ∨ q 7 = 2 ∨ q 7 = 3) := h.1.2.2.2.2.2.2.2.1
theorem wf0.late {t : Int32} {q : zQ} (h : wf0 t q) : zin (q 8) 0 999 := h.2.2.2.2.2.2.2.2.1
theorem wfQ.late {t : Int32} {q : zQ} (h : wfQ t q) : zin (q 8) 0 999 := h.1.2.2.2.2.2.2.2.2.1
theorem wf0.done {t : Int32} {q : zQ} (h : wf0 t q) : zin (q 9) 0 999 := h.2.2.2.2.2.2.2.2.2.1
theorem wfQ.done {t : Int32} {q : zQ} (h : wfQ t q) : zin (q 9) 0 999 := h.1.2.2.2.2.2.2.2.2.2.1
theorem wf0.jobs {t : Int32} {q : zQ} (h : wf0 t q) : zin (q 10) 0 4 := h.2.2.2.2.2.2.2.2.2.2.1
theorem wfQ.jobs {t : Int32} {q : zQ} (h : wfQ t q) : zin (q 10) 0 4 := h.1.2.2.2.2.2.2.2.2.2.2.1
theorem wf0.idle {t : Int32} {q : zQ} (h : wf0 t q) : (q 10 = 0 ↔ (q 7 = 0 ∨ q 7 = 3)) := h.2.2.2.2.2.2.2.2.2.2.2.1
theorem wfQ.idle {t : Int32} {q : zQ} (h : wfQ t q) : (q 10 = 0 ↔ (q 7 = 0 ∨ q 7 = 3)) := h.1.2.2.2.2.2.2.2.2.2.2.2.1
theorem wf0.rest {t : Int32} {q : zQ} (h : wf0 t q) : (q 7 = 2 → q 5 ≤ 0) := h.2.2.2.2.2.2.2.2.2.2.2.2.1
theorem wfQ.rest {t : Int32} {q : zQ} (h : wfQ t q) : (q 7 = 2 → q 5 ≤ 0) := h.1.2.2.2.2.2.2.2.2.2.2.2.2.1
theorem wf0.hold {t : Int32} {q : zQ} (h : wf0 t q) : zBo (q 13) := h.2.2.2.2.2.2.2.2.2.2.2.2.2.1
theorem wfQ.hold {t : Int32} {q : zQ} (h : wfQ t q) : zBo (q 13) := h.1.2.2.2.2.2.2.2.2.2.2.2.2.2.1
theorem wf0.hold0 {t : Int32} {q : zQ} (h : wf0 t q) : (q 10 = 0 → q 13 = 0) := h.2.2.2.2.2.2.2.2.2.2.2.2.2.2.1
theorem wfQ.hold0 {t : Int32} {q : zQ} (h : wfQ t q) : (q 10 = 0 → q 13 = 0) := h.1.2.2.2.2.2.2.2.2.2.2.2.2.2.2.1
theorem wf0.job {t : Int32} {q : zQ} (h : wf0 t q) : ∀ i : Nat, i < (q 10).toNatClampNeg → zin (q (20 + i)) 1 9 ∧ zin (q (30 + i)) 0 3 := h.2.2.2.2.2.2.2.2.2.2.2.2.2.2.2
theorem wfQ.job {t : Int32} {q : zQ} (h : wfQ t q) : ∀ i : Nat, i < (q 10).toNatClampNeg → zin (q (20 + i)) 1 9 ∧ zin (q (30 + i)) 0 3 := h.1.2.2.2.2.2.2.2.2.2.2.2.2.2.2.2
theorem wfQ.ready {t : Int32} {q : zQ} (h : wfQ t q) : q 7 = 1 → ¬ q 5 ≤ 0 := h.2
/-! numbers -/
theorem zlit_add (c n : Nat) : (no_index (@OfNat.ofNat Int32 c _)) + nI n = nI (@OfNat.ofNat Nat c _ + n) := nI_add c n
theorem zlit_mul (c n : Nat) : (no_index (@OfNat.ofNat Int32 c _)) * nI n = nI (@OfNat.ofNat Nat c _ * n) := pk_mul c n
theorem zadd {a b : Int32} (h1 : -2147483648 ≤ a.toInt + b.toInt) (h2 : a.toInt + b.toInt ≤ 2147483647) : (a + b).toInt = a.toInt + b.toInt := by
  rw [Int32.toInt_add]; exact Int.bmod_eq_of_le (by omega) (by omega)
theorem zsub {a b : Int32} (h1 : -2147483648 ≤ a.toInt - b.toInt) (h2 : a.toInt - b.toInt ≤ 2147483647) : (a - b).toInt = a.toInt - b.toInt := by
  rw [Int32.toInt_sub]; exact Int.bmod_eq_of_le (by omega) (by omega)
theorem zmul {a b : Int32} (h1 : -2147483648 ≤ a.toInt * b.toInt) (h2 : a.toInt * b.toInt ≤ 2147483647) : (a * b).toInt = a.toInt * b.toInt := by
  rw [Int32.toInt_mul]; exact Int.bmod_eq_of_le (by omega) (by omega)
theorem zin_nI {x : Int32} {n : Nat} (h : zin x 0 n) (hn : n < 2 ^ 31) : ∃ j : Nat, j ≤ n ∧ x = nI j := by
  refine ⟨x.toInt.toNat, ?_, ?_⟩
  · have := h.1; have := h.2; omega
  · have h0 := h.1
    have h1 := h.2
    refine Int32.toInt_inj.mp ?_
    rw [nI_toInt (by omega)]
    omega
theorem zin_of {j n : Nat} (h : j ≤ n) (hn : n < 2 ^ 31) : zin (nI j) 0 n := by
  unfold zin
  rw [nI_toInt (by omega)]
  omega
theorem qMore_le {x : Int32} (h : zin x 0 999) (c : 999 ≤ x) : qMore x = x := by
  have c2 : (999 : Int) ≤ x.toInt := Int32.le_iff_toInt_le.mp c
  have e : x = 999 := Int32.toInt_inj.mp (by have := h.2; show x.toInt = 999; omega)
  rw [e]; decide
theorem qMore_lt {x : Int32} (h : zin x 0 999) (c : ¬ 999 ≤ x) : qMore x = x + 1 := by
  have c2 : ¬ (999 : Int) ≤ x.toInt := fun a => c (Int32.le_iff_toInt_le.mpr a)
  have h0 := h.1
  unfold qMore
  by_cases a : x + 1 < 999
  · rw [if_pos a]
  · rw [if_neg a]
    have a2 : ¬ (x + 1).toInt < 999 := fun b => a (Int32.lt_iff_toInt_lt.mpr b)
    have e1 : (x + 1).toInt = x.toInt + 1 := zadd (a := x) (b := 1) (by show _ ≤ x.toInt + 1; omega) (by show x.toInt + 1 ≤ _; omega)
    refine Int32.toInt_inj.mp ?_
    rw [e1]
    show (999 : Int) = _
    omega
end PS
