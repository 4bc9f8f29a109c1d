/-! WHAT EACH CALL ANSWERS, and the state behind it. -/
def spRule (σ : SS) (x y z : Int32) : Int32 × SS := if (wi x 0 100000 && wi y 0 10000000 && wi z 0 365 && decide (sNR σ < 10)) = true then (nI (sNR σ), ((sNR σ + 1, va_up (sRV σ) (sNR σ) (x, y, z, 0, 0)), σ.2)) else (-1, σ)
def okInt (σ : SS) (x y z : Int32) : Bool := wi x 0 (nI (sNR σ) - 1) && wi y 0 1000 && wi z 0 1000000
def spInt (σ : SS) (x y z : Int32) : Int32 × SS := if (okInt σ x y z && decide (¬ z = 0)) = true then (100000 * y / z, ((sNR σ, va_up (sRV σ) x.toInt.toNat ((sRV σ x.toInt.toNat).1, (sRV σ x.toInt.toNat).2.1, (sRV σ x.toInt.toNat).2.2.1, y, z)), σ.2)) else (-1, σ)
def spClosed (σ : SS) (x : Int64) : Int32 × SS := if (wd x && cadd (sCD σ) (sNC σ) x) = true then (nI (sNC σ + 1), (σ.1, σ.2.1, σ.2.2.1, (sNC σ + 1, va_up (sCD σ) (sNC σ) x), σ.2.2.2.2)) else (0, σ)
def spLoan (σ : SS) (x y z : Int32) (d : Int64) : Int32 × SS := if (wi x 0 59 && wi y 0 29 && wi z 0 (nI (sNR σ) - 1) && wd d && (sIT σ x.toInt.toNat).isNone && decide (sNL σ < 120)) = true then (nI (sNL σ + 1), (σ.1, (sNL σ + 1, va_up (sLV σ) (sNL σ) (x.toInt.toNat, y.toInt.toNat, z.toInt.toNat, d, 1, 0)), σ.2.2.1, σ.2.2.2.1, σ.2.2.2.2.1, sTH σ, va_up (sIT σ) x.toInt.toNat (some (sNL σ)))) else (0, σ)
def lateJ (σ : SS) (k : Nat) (x : Int64) : Int64 := rvCents (sRV σ (sLV σ k).2.2.1) (opD (sCD σ) (sNC σ) (sLV σ k).2.2.2.1 x)
def lentN (σ : SS) (x : Int32) : Option Nat := if (wi x 1 (nI (sNL σ)) && decide ((sLV σ (x.toInt.toNat - 1)).2.2.2.2.1 = 1)) = true then some (x.toInt.toNat - 1) else none
def spOver (σ : SS) (x : Int32) (d : Int64) : Int64 := match lentN σ x with
  | none => -1
  | some k => if wd d = true then lateJ σ k d else -1
def dayF (σ : SS) : Nat → Int64 := fun j => (sDV σ (sOD σ j)).2.2.2.2.2
def posD (f : Nat → Int64) (x : Int64) : Nat → Nat
  | 0 => 0
  | q + 1 => if x < f q then posD f x q else q + 1
/-- a debt more -/
def adD (σ : SS) (k : Nat) (am : Nat) (so : Int32) (d : Int64) : SS := (σ.1, σ.2.1, (sND σ + 1, va_up (sDV σ) (sND σ) (k, am, am, 0, so, d), insO (sOD σ) (sND σ) (posD (dayF σ) d (sND σ))), σ.2.2.2)
/-- a loan comes back -/
def enL (σ : SS) (k : Nat) : SS := (σ.1, (sNL σ, va_up (sLV σ) k ((sLV σ k).1, (sLV σ k).2.1, (sLV σ k).2.2.1, (sLV σ k).2.2.2.1, 2, (sLV σ k).2.2.2.2.2)), σ.2.2.1, σ.2.2.2.1, σ.2.2.2.2.1, sTH σ, va_up (sIT σ) (sLV σ k).1 none)
def lateN (σ : SS) (k : Nat) (x : Int64) : Nat := (lateJ σ k x).toInt.toNat
def chD (σ : SS) (k : Nat) (am : Int64) (d : Int64) : Int32 × SS := if 0 < am then (nI (sND σ + 1), adD σ k am.toInt.toNat 0 d) else (0, σ)
def spBack (σ : SS) (x : Int32) (d : Int64) : Int32 × SS := match lentN σ x with
  | none => (-1, σ)
  | some k => if (wd d && !(decide (0 < lateJ σ k d) && fullB (sND σ))) = true then chD (enL σ k) k (lateJ σ k d) d else (-1, σ)
def spLost (σ : SS) (x y : Int32) (d : Int64) : Int32 × SS := match lentN σ x with
  | none => (-1, σ)
  | some k => if (wd d && wi y 1 10000000 && !fullB (sND σ)) = true then (nI (sND σ + 1), (σ.1, (sNL σ, va_up (sLV σ) k ((sLV σ k).1, (sLV σ k).2.1, (sLV σ k).2.2.1, (sLV σ k).2.2.2.1, 3, sND σ + 1)), (adD σ k y.toInt.toNat 1 d).2.2)) else (-1, σ)
def stD (σ : SS) (k : Nat) (v : DV) : SS := (σ.1, σ.2.1, (sND σ, va_up (sDV σ) k v, sOD σ), σ.2.2.2)
def stK (σ : SS) (k v : Nat) : SS := (σ.1, σ.2.1, σ.2.2.1, σ.2.2.2.1, va_up (sKR σ) k v, σ.2.2.2.2.2)
def zeD (σ : SS) (k : Nat) : SS := stD σ k ((sDV σ k).1, (sDV σ k).2.1, 0, (sDV σ k).2.2.2.1, (sDV σ k).2.2.2.2.1, (sDV σ k).2.2.2.2.2)
def lostN (σ : SS) (x : Int32) : Option Nat := if wi x 0 59 = true then (match sIT σ x.toInt.toNat with | none => none | some k => if (sLV σ k).2.2.2.2.1 = 3 then some k else none) else none
def spFound (σ : SS) (x : Int32) (d : Int64) : Int64 × SS := match lostN σ x with
  | none => (-1, σ)
  | some k => if (wd d && !(decide (0 < lateJ σ k d) && fullB (sND σ))) = true then (lN (sDV σ ((sLV σ k).2.2.2.2.2 - 1)).2.2.2.1, (chD (enL (stK (zeD σ ((sLV σ k).2.2.2.2.2 - 1)) (sLV σ k).2.1 (sKR σ (sLV σ k).2.1 + (sDV σ ((sLV σ k).2.2.2.2.2 - 1)).2.2.2.1)) k) k (lateJ σ k d) d).2) else (-1, σ)
def dbtN (σ : SS) (x : Int32) : Option Nat := if wi x 1 (nI (sND σ)) = true then some (x.toInt.toNat - 1) else none
def spWaive (σ : SS) (x y : Int32) : Int64 × SS := match dbtN σ x with
  | none => (-1, σ)
  | some k => if wi y 0 100000 = true then (if y.toInt64 < lN (sDV σ k).2.2.1 then (0, σ) else (lN (sDV σ k).2.2.1, zeD σ k)) else (-1, σ)
/-- what is left of a person's debts, the interest of them -/
def sumL (σ : SS) (x : Int32) : Nat → Int64
  | 0 => 0
  | n + 1 => if nI (sLV σ (sDV σ n).1).2.1 = x then sumL σ x n + lN (sDV σ n).2.2.1 else sumL σ x n
def intD (σ : SS) (k : Nat) (y : Int64) : Int64 := dInt (sRV σ (sLV σ (sDV σ k).1).2.2.1) (lN (sDV σ k).2.2.1) (sDV σ k).2.2.2.2.2 y
def sumI (σ : SS) (x : Int32) (y : Int64) : Nat → Int64
  | 0 => 0
  | n + 1 => if nI (sLV σ (sDV σ n).1).2.1 = x then sumI σ x y n + intD σ n y else sumI σ x y n
def balS (σ : SS) (x : Int32) : Int64 := sumL σ x (sND σ) - lN (sKR σ x.toInt.toNat)
def spOwes (σ : SS) (x : Int32) (d : Int64) : Int64 := if wi x 0 29 = true then (if d < 0 then balS σ x else balS σ x + sumI σ x (mnJ d 1000000) (sND σ)) else -1000000000000001
def spPlan (σ : SS) (x y z : Int32) : Int64 := if (wi x 0 29 && wi y 1 12 && wi z 0 (y - 1)) = true then (if z.toInt64 < sumL σ x (sND σ) - sumL σ x (sND σ) / y.toInt64 * y.toInt64 then sumL σ x (sND σ) / y.toInt64 + 1 else sumL σ x (sND σ) / y.toInt64) else 0
def spTh (σ : SS) (x : Int32) : Int32 × SS := if wi x 1 1000000 = true then (sTH σ, (σ.1, σ.2.1, σ.2.2.1, σ.2.2.2.1, σ.2.2.2.2.1, x, σ.2.2.2.2.2.2)) else (-1, σ)
def spBlk (σ : SS) (x : Int32) : Bool := wi x 0 29 && decide ((sTH σ).toInt64 ≤ balS σ x)
def spDebt (σ : SS) (x y : Int32) : Int64 := match dbtN σ x with
  | none => -1
  | some k => if y = 0 then (nI (sLV σ (sDV σ k).1).2.1).toInt64 else if y = 1 then lN (sDV σ k).2.1 else if y = 2 then lN (sDV σ k).2.2.1 else if y = 3 then (sDV σ k).2.2.2.2.2 else if y = 4 then (sDV σ k).2.2.2.2.1.toInt64 else if y = 5 then intD σ k ((sDV σ k).2.2.2.2.2 + 30) else -1
def spShare (σ : SS) (x y z : Int32) : Int64 := match dbtN σ x with
  | none => -1
  | some k => if (wi z 1 1000 && wi y 1 z) = true then lN (sDV σ k).2.1 * y.toInt64 / z.toInt64 else -1
