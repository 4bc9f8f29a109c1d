/-! Pure words of the leaves. -/
def bi (b : Bool) : Int32 := cond b 1 0
theorem bi_t : bi true = 1 := rfl
theorem bi_f : bi false = 0 := rfl
theorem bi_0 {b : Bool} : bi b = 0 ↔ b = false := by cases b <;> decide
theorem bi_n0 {b : Bool} : ¬ bi b = 0 ↔ b = true := by cases b <;> decide
theorem bi_le {b : Bool} : bi b ≤ 0 ↔ b = false := by cases b <;> decide
theorem bi_nar (b : Bool) : narrow .boolean (.int (bi b)) = .int (bi b) := by cases b <;> rfl
theorem lg_cmp_ne (x y : Int64) : (lg_cmp x y ≠ 0) ↔ x ≠ y := not_congr (lg_cmp_eq x y)
/-- y to z holds x -/
def wi (x y z : Int32) : Bool := decide (y ≤ x) && decide (x ≤ z)
def wd (d : Int64) : Bool := decide (0 ≤ d) && decide (d ≤ 1000000)
def wl (x y z : Int64) : Bool := decide (y ≤ x) && decide (x ≤ z)
theorem wi_t {x y z : Int32} (h1 : y ≤ x) (h2 : x ≤ z) : wi x y z = true := by simp [wi, h1, h2]
theorem wi_f1 {x y z : Int32} (h : x < y) : wi x y z = false := by simp [wi, Int32.not_le.mpr h]
theorem wi_f2 {x y z : Int32} (h : z < x) : wi x y z = false := by simp [wi, Int32.not_le.mpr h]
theorem wi_iff {x y z : Int32} : wi x y z = true ↔ y ≤ x ∧ x ≤ z := by simp [wi]
theorem wd_t {d : Int64} (h1 : 0 ≤ d) (h2 : d ≤ 1000000) : wd d = true := by simp [wd, h1, h2]
theorem wd_f1 {d : Int64} (h : d < 0) : wd d = false := by simp [wd, Int64.not_le.mpr h]
theorem wd_f2 {d : Int64} (h : 1000000 < d) : wd d = false := by simp [wd, Int64.not_le.mpr h]
theorem wl_t {x y z : Int64} (h1 : y ≤ x) (h2 : x ≤ z) : wl x y z = true := by simp [wl, h1, h2]
theorem wl_f1 {x y z : Int64} (h : x < y) : wl x y z = false := by simp [wl, Int64.not_le.mpr h]
theorem wl_f2 {x y z : Int64} (h : z < x) : wl x y z = false := by simp [wl, Int64.not_le.mpr h]
def mnJ (x y : Int64) : Int64 := if y < x then y else x
/-- rules: cents, cap, grace, up, down (0 until it has an interest) -/
abbrev RV : Type := Int32 × Int32 × Int32 × Int32 × Int32
abbrev cRu (v : RV) : va_E := .inr (5, [.int v.1, .int v.2.1, .int v.2.2.1, .int v.2.2.2.1, .int v.2.2.2.2])
def rvCents (v : RV) (d : Int64) : Int64 := if d ≤ v.2.2.1.toInt64 then 0 else mnJ (d * v.1.toInt64) v.2.1.toInt64
def rvInt (v : RV) (left n : Int64) : Int64 := if v.2.2.2.2 ≤ 0 then 0 else left * v.2.2.2.1.toInt64 * n / v.2.2.2.2.toInt64
/-- how many of the first n of the days lie behind x, up to y -/
def cB (f : Nat → Int64) (x y : Int64) : Nat → Int32
  | 0 => 0
  | n + 1 => if x < f n ∧ f n ≤ y then cB f x y n + 1 else cB f x y n
def opD (f : Nat → Int64) (n : Nat) (x y : Int64) : Int64 := if y ≤ x then 0 else y - x - (cB f x y n).toInt64
theorem toI64_ne0 {x : Int32} (h : ¬ x ≤ 0) : ¬ x.toInt64 = 0 := fun e => h (by
  have h1 : x.toInt64.toInt = x.toInt := Int32.toInt_toInt64 x
  rw [e] at h1
  rw [Int32.le_iff_toInt_le]
  have h2 : (0 : Int64).toInt = 0 := by decide
  have h3 : (0 : Int32).toInt = 0 := by decide
  omega)
