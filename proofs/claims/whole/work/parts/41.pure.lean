theorem inj_up {f : Nat → Nat} {n q : Nat} (h : inj f n) (hq : ∀ k, k < n → f k ≠ q) : inj (va_up f n q) (n + 1) := by
  intro i j hi hj e
  by_cases h1 : i = n
  · by_cases h2 : j = n
    · omega
    · rw [h1, va_up_self, va_up_ne f q h2] at e
      exact absurd e.symm (hq j (by omega))
  · by_cases h2 : j = n
    · rw [h2, va_up_self, va_up_ne f q h1] at e
      exact absurd e (hq i (by omega))
    · rw [va_up_ne f q h1, va_up_ne f q h2] at e
      exact h i j (by omega) (by omega) e
theorem lc_aR {aR aD : Nat → Nat} {v : LV} {n q : Nat} (h : v.2.2.1 < n) : lcOf (va_up aR n q) aD v = lcOf aR aD v := by
  have : ¬ v.2.2.1 = n := by omega
  simp [lcOf, va_up, this]
theorem lc_aD {aR aD : Nat → Nat} {v : LV} {n q : Nat} (h : v.2.2.2.2.2 ≤ n) : lcOf aR (va_up aD n q) v = lcOf aR aD v := by
  by_cases h0 : v.2.2.2.2.2 = 0
  · simp [lcOf, h0]
  · have : ¬ v.2.2.2.2.2 - 1 = n := by omega
    simp [lcOf, va_up, this]
theorem dc_aR {aR : Nat → Nat} {L : Nat → LV} {v : DV} {n q : Nat} (h : (L v.1).2.2.1 < n) : dcOf (va_up aR n q) L v = dcOf aR L v := by
  have : ¬ (L v.1).2.2.1 = n := by omega
  simp [dcOf, va_up, this]
theorem dc_L {aR : Nat → Nat} {L L' : Nat → LV} {v : DV} (h : (L' v.1).2.1 = (L v.1).2.1 ∧ (L' v.1).2.2.1 = (L v.1).2.2.1) : dcOf aR L' v = dcOf aR L v := by
  simp [dcOf, h.1, h.2]
