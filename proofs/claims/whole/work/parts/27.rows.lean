theorem numQ_at {f : Nat → Option Nat} {n k : Nat} (hn : n < 1000000) (h : k < n) : numQ f n (nI (k + 1)) = f k := by
  rw [numQ, if_pos (wi_num_of hn h), nI_toInt (by omega)]
  congr 1
theorem numQ_no {f : Nat → Option Nat} {n : Nat} {x : Int32} (h : wi x 1 (nI n) = false) : numQ f n x = none := by simp [numQ, h]
theorem ordQ_at {f : Nat → Option Nat} {n k : Nat} (hn : n < 1000000) (h : k < n) : ordQ f n (nI k) = f k := by
  rw [ordQ, if_pos (wi_ord_of hn h), nI_toInt (by omega)]
  congr 1
theorem ordQ_no {f : Nat → Option Nat} {n : Nat} {x : Int32} (h : wi x 0 (nI n - 1) = false) : ordQ f n x = none := by simp [ordQ, h]
/-- where a new debt of day x goes among the first q of the order -/
def insP (db : Nat → DC) (x : Int64) : Nat → Nat
  | 0 => 0
  | q + 1 => if x < (db q).2.2.2.2.1 then insP db x q else q + 1
def shf (f : Nat → Option Nat) (n q : Nat) : Nat → Option Nat := fun j => if j ≤ q then f j else if j ≤ n then f (j - 1) else f j
theorem shf_n (f : Nat → Option Nat) (n : Nat) : shf f n n = f := by
  funext j
  by_cases h : j ≤ n <;> simp [shf, h]
theorem shf_up (f : Nat → Option Nat) (n q : Nat) (hq : q + 1 ≤ n) : va_up (shf f n (q + 1)) (q + 1) (shf f n (q + 1) q) = shf f n q := by
  funext j
  by_cases h : j = q + 1
  · subst h
    have h1 : ¬ q + 1 ≤ q := by omega
    simp [va_up, shf, hq]
    try omega
  · by_cases h2 : j ≤ q
    · have h3 : j ≤ q + 1 := by omega
      simp [va_up, shf, h, h2, h3]
    · have h3 : ¬ j ≤ q + 1 := by omega
      simp [va_up, shf, h, h2, h3]
theorem shf_at {f : Nat → Option Nat} {n q j : Nat} (h : j ≤ q) : shf f n q j = f j := by simp [shf, h]
def insF (f : Nat → Option Nat) (n q : Nat) (o : Nat) : Nat → Option Nat := va_up (shf f n q) q (some o)
theorem insP_le (db : Nat → DC) (x : Int64) : ∀ q, insP db x q ≤ q
  | 0 => Nat.le_refl 0
  | q + 1 => by
    rw [insP]
    split
    · exact Nat.le_succ_of_le (insP_le db x q)
    · exact Nat.le_refl _
def bAdd (t : Nat → ClassId) (g : hG) (a bn bd n : Nat) (fN fB : Nat → Option Nat) (P o : Nat) (cell : va_E) : hG :=
  va_up (va_up (va_up (va_up g o (some cell)) bd (some (arQ t 5 200 (insF fB n P o)))) bn (some (arQ t 5 200 (va_up fN n (some o))))) a (some (cBr bn bd (nI (n + 1))))
