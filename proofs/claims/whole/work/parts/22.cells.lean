abbrev cLo (i p : Int32) (ra : Nat) (du : Int64) (lo : Option Nat) (en : Int32) : va_E := .inr (4, [.int i, .int p, .ref ra, .long du, va_rf lo, .int en])
abbrev cDe (p : Int32) (ra : Nat) (so : Int32) (am dy le pa : Int64) : va_E := .inr (2, [.int p, .ref ra, .int so, .long am, .long dy, .long le, .long pa])
abbrev cBr (bn bd : Nat) (n : Int32) : va_E := .inr (3, [.ref bn, .ref bd, .int n])
abbrev cCl (dy : Nat) (n : Int32) : va_E := .inr (1, [.ref dy, .int n])
abbrev cFi (ra : Nat) (rn : Int32) (la : Nat) (ln : Int32) (ia dr cd cr : Nat) (bl : Int32) : va_E := .inr (0, [.ref ra, .int rn, .ref la, .int ln, .ref ia, .ref dr, .ref cd, .ref cr, .int bl])
def lent (lo : Option Nat) (en : Int32) : Bool := decide (en = 0) && lo.isNone
def dInt (v : RV) (le dy at_ : Int64) : Int64 := if at_ ≤ dy then 0 else rvInt v le ((at_ - dy) / 30)
theorem i30 : ¬ (30 : Int64) = 0 := by decide
theorem cB_0 {f : Nat → Int64} {x y : Int64} : cB f x y 0 = 0 := rfl
theorem cB_no1 {f : Nat → Int64} {x y : Int64} {i : Nat} (h : f i ≤ x) : cB f x y (i + 1) = cB f x y i := by
  simp [cB, Int64.not_lt.mpr h]
theorem cB_no2 {f : Nat → Int64} {x y : Int64} {i : Nat} (h : y < f i) : cB f x y (i + 1) = cB f x y i := by
  simp [cB, Int64.not_le.mpr h]
theorem cB_yes {f : Nat → Int64} {x y : Int64} {i : Nat} (h1 : ¬ f i ≤ x) (h2 : ¬ y < f i) : cB f x y (i + 1) = cB f x y i + 1 := by
  simp [cB, Int64.not_le.mp h1, Int64.not_lt.mp h2]
