/-! STATES IN NUMBERS: Z i k is what cell i holds at place k (the world, further on, says which cell is what). -/
section ZB
abbrev zS : Type := Nat → Nat → Int32
def zU (Z : zS) (i k : Nat) (x : Int32) : zS := va_up Z i (upd (Z i) k x)
theorem zU_s (Z : zS) (i k : Nat) (x : Int32) : zU Z i k x i k = x := by simp [zU, va_up, upd]
theorem zU_k {Z : zS} {i k a b : Nat} {x : Int32} (h : b ≠ k) : zU Z i k x a b = Z a b := by
  by_cases ha : a = i
  · subst ha; simp [zU, va_up, upd, h]
  · simp [zU, va_up, ha]
theorem zU_i {Z : zS} {i k a b : Nat} {x : Int32} (h : a ≠ i) : zU Z i k x a b = Z a b := by simp [zU, va_up, h]
theorem zU_r {Z : zS} {i k a : Nat} {x : Int32} (h : a ≠ i) : zU Z i k x a = Z a := by simp [zU, va_up, h]
def zKi (x : Int32) : Prop := x = 0 ∨ x = 1 ∨ x = 2 ∨ x = 3 ∨ x = 4 ∨ x = 5
def zBo (x : Int32) : Prop := x = 0 ∨ x = 1
def zch0 (u : Int32) : Int32 := if u = 0 then 1 else 0
def zch1 (u : Int32) : Int32 := if u = 1 then 1 else zch0 u
def zch2 (u : Int32) : Int32 := if u = 2 then 1 else zch0 u
def zch3 (u : Int32) : Int32 := if u = 3 then 1 else zch1 u
def zch4 (u : Int32) : Int32 := if u = 4 then 1 else zch1 u
def zch5 (u : Int32) : Int32 := if u = 5 then 1 else zch2 u
def zch (v u : Int32) : Int32 := if v = 0 then zch0 u else if v = 1 then zch1 u else if v = 2 then zch2 u else if v = 3 then zch3 u else if v = 4 then zch4 u else zch5 u
end ZB
