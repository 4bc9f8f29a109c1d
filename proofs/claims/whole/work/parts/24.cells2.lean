/-- a debt as the class holds it: person, rule, sort, amount, day, left, paid -/
abbrev DC : Type := Int32 × Nat × Int32 × Int64 × Int64 × Int64 × Int64
abbrev cDv (v : DC) : va_E := cDe v.1 v.2.1 v.2.2.1 v.2.2.2.1 v.2.2.2.2.1 v.2.2.2.2.2.1 v.2.2.2.2.2.2
def sLe (dv : Nat → DC) (x : Int32) : Nat → Int64
  | 0 => 0
  | n + 1 => if (dv n).1 = x then sLe dv x n + (dv n).2.2.2.2.2.1 else sLe dv x n
def sIn (dv : Nat → DC) (rv : Nat → RV) (x : Int32) (y : Int64) : Nat → Int64
  | 0 => 0
  | n + 1 => if (dv n).1 = x then sIn dv rv x y n + dInt (rv n) (dv n).2.2.2.2.2.1 (dv n).2.2.2.2.1 y else sIn dv rv x y n
theorem sLe_y {dv : Nat → DC} {x : Int32} {n : Nat} (h : (dv n).1 = x) : sLe dv x (n + 1) = sLe dv x n + (dv n).2.2.2.2.2.1 := by simp [sLe, h]
theorem sLe_n {dv : Nat → DC} {x : Int32} {n : Nat} (h : ¬ (dv n).1 = x) : sLe dv x (n + 1) = sLe dv x n := by simp [sLe, h]
theorem sIn_y {dv : Nat → DC} {rv : Nat → RV} {x : Int32} {y : Int64} {n : Nat} (h : (dv n).1 = x) : sIn dv rv x y (n + 1) = sIn dv rv x y n + dInt (rv n) (dv n).2.2.2.2.2.1 (dv n).2.2.2.2.1 y := by simp [sIn, h]
theorem sIn_n {dv : Nat → DC} {rv : Nat → RV} {x : Int32} {y : Int64} {n : Nat} (h : ¬ (dv n).1 = x) : sIn dv rv x y (n + 1) = sIn dv rv x y n := by simp [sIn, h]
def fullB (n : Nat) : Bool := decide (200 ≤ n)
def numQ (f : Nat → Option Nat) (n : Nat) (x : Int32) : Option Nat := if wi x 1 (nI n) then f (x.toInt.toNat - 1) else none
def ordQ (f : Nat → Option Nat) (n : Nat) (x : Int32) : Option Nat := if wi x 0 (nI n - 1) then f x.toInt.toNat else none
theorem wi_num {x : Int32} {n : Nat} (hn : n < 1000000) (h : wi x 1 (nI n) = true) : ∃ k, k < n ∧ x = nI (k + 1) := by
  obtain ⟨h1, h2⟩ := wi_iff.mp h
  rw [Int32.le_iff_toInt_le] at h1 h2
  rw [nI_toInt (by omega)] at h2
  have e1 : (1 : Int32).toInt = 1 := by decide
  refine ⟨x.toInt.toNat - 1, by omega, ?_⟩
  rw [← Int32.toInt_inj, nI_toInt (by omega)]
  omega
theorem wi_ord {x : Int32} {n : Nat} (hn : n < 1000000) (h : wi x 0 (nI n - 1) = true) : ∃ k, k < n ∧ x = nI k := by
  obtain ⟨h1, h2⟩ := wi_iff.mp h
  have e0 : (0 : Int32).toInt = 0 := by decide
  have e1 : (nI n - 1).toInt = (n : Int) - 1 := by
    have := pk_sub_toInt (a := n) (b := 1) (by omega) (by decide)
    exact this
  rw [Int32.le_iff_toInt_le] at h1 h2
  rw [e0] at h1
  rw [e1] at h2
  refine ⟨x.toInt.toNat, by omega, ?_⟩
  rw [← Int32.toInt_inj, nI_toInt (by omega)]
  omega
theorem wi_num_of {k n : Nat} (hn : n < 1000000) (h : k < n) : wi (nI (k + 1)) 1 (nI n) = true := by
  refine wi_t ?_ (nI_le (by omega) (by omega))
  exact nI_le (a := 1) (by omega) (by omega)
theorem wi_ord_of {k n : Nat} (hn : n < 1000000) (h : k < n) : wi (nI k) 0 (nI n - 1) = true := by
  refine wi_t (nI_pos' (by omega)) ?_
  obtain ⟨j, rfl⟩ : ∃ j, n = j + 1 := ⟨n - 1, by omega⟩
  rw [nI_pred]
  exact nI_le (by omega) (by omega)
