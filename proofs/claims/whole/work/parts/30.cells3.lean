abbrev LC : Type := Int32 × Int32 × Nat × Int64 × Option Nat × Int32
abbrev cLc (v : LC) : va_E := cLo v.1 v.2.1 v.2.2.1 v.2.2.2.1 v.2.2.2.2.1 v.2.2.2.2.2
def lnQ (aL : Nat → Nat) (lc : Nat → LC) (n : Nat) (x : Int32) : Option Nat := if wi x 1 (nI n) then (if lent (lc (x.toInt.toNat - 1)).2.2.2.2.1 (lc (x.toInt.toNat - 1)).2.2.2.2.2 then some (aL (x.toInt.toNat - 1)) else none) else none
theorem nI_k1 {k : Nat} (h : k < 1000000) : (nI (k + 1)).toInt.toNat - 1 = k := by rw [nI_toInt (by omega)]; omega
theorem nI_k0 {k : Nat} (h : k < 1000000) : (nI k).toInt.toNat = k := by rw [nI_toInt (by omega)]; omega
theorem lnQ_yes {aL : Nat → Nat} {lc : Nat → LC} {n k : Nat} (hn : n < 1000000) (h : k < n) (hl : lent (lc k).2.2.2.2.1 (lc k).2.2.2.2.2 = true) : lnQ aL lc n (nI (k + 1)) = some (aL k) := by
  rw [lnQ, if_pos (wi_num_of hn h), nI_k1 (by omega), if_pos hl]
theorem lnQ_not {aL : Nat → Nat} {lc : Nat → LC} {n k : Nat} (hn : n < 1000000) (h : k < n) (hl : lent (lc k).2.2.2.2.1 (lc k).2.2.2.2.2 = false) : lnQ aL lc n (nI (k + 1)) = none := by
  rw [lnQ, if_pos (wi_num_of hn h), nI_k1 (by omega), hl]; rfl
theorem lnQ_no {aL : Nat → Nat} {lc : Nat → LC} {n : Nat} {x : Int32} (h : wi x 1 (nI n) = false) : lnQ aL lc n x = none := by simp [lnQ, h]
theorem wi_pl {x : Int32} {n : Nat} {M : Int32} (hM : M = nI n) (hn : n < 1000000) (h : wi x 0 M = true) : ∃ k, k < n + 1 ∧ x = nI k := by
  subst hM
  obtain ⟨h1, h2⟩ := wi_iff.mp h
  have e0 : (0 : Int32).toInt = 0 := by decide
  rw [Int32.le_iff_toInt_le] at h1 h2
  rw [e0] at h1
  rw [nI_toInt (by omega)] at h2
  refine ⟨x.toInt.toNat, by omega, ?_⟩
  rw [← Int32.toInt_inj, nI_toInt (by omega)]
  omega
theorem wi_pl_of {k n : Nat} {M : Int32} (hM : M = nI n) (hn : n < 1000000) (h : k ≤ n) : wi (nI k) 0 M = true := by
  subst hM
  exact wi_t (nI_pos' (by omega)) (nI_le h (by omega))
def balJ (dv : Nat → DC) (n : Nat) (fK : Nat → Int64) (x : Int32) : Int64 := if wi x 0 29 then sLe dv x n - fK x.toInt.toNat else 0
theorem balJ_at {dv : Nat → DC} {n : Nat} {fK : Nat → Int64} {k : Nat} (h : k < 30) : balJ dv n fK (nI k) = sLe dv (nI k) n - fK k := by
  rw [balJ, if_pos (wi_pl_of (M := 29) (n := 29) rfl (by decide) (by omega)), nI_k0 (by omega)]
theorem balJ_no {dv : Nat → DC} {n : Nat} {fK : Nat → Int64} {x : Int32} (h : wi x 0 29 = false) : balJ dv n fK x = 0 := by simp [balJ, h]
