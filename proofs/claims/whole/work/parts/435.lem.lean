theorem ordQ_some {f : Nat → Option Nat} {aR : Nat → Nat} {n y : Nat} {x : Int32} (hn : n < 1000000) (hf : ∀ k, k < n → f k = some (aR k)) (h : ordQ f n x = some y) : ∃ k, k < n ∧ x = nI k ∧ y = aR k ∧ wi x 0 (nI n - 1) = true := by
  by_cases hw : wi x 0 (nI n - 1) = true
  · obtain ⟨k, hk, rfl⟩ := wi_ord hn hw
    rw [ordQ_at hn hk, hf k hk] at h
    exact ⟨k, hk, rfl, (Option.some.inj h).symm, hw⟩
  · rw [ordQ, if_neg hw] at h; cases h
theorem ordQ_none {f : Nat → Option Nat} {aR : Nat → Nat} {n : Nat} {x : Int32} (hn : n < 1000000) (hf : ∀ k, k < n → f k = some (aR k)) (h : ordQ f n x = none) : wi x 0 (nI n - 1) = false := by
  by_cases hw : wi x 0 (nI n - 1) = true
  · obtain ⟨k, hk, rfl⟩ := wi_ord hn hw
    rw [ordQ_at hn hk, hf k hk] at h; cases h
  · exact Bool.eq_false_iff.mpr hw
theorem numQ_some {f : Nat → Option Nat} {aR : Nat → Nat} {n y : Nat} {x : Int32} (hn : n < 1000000) (hf : ∀ k, k < n → f k = some (aR k)) (h : numQ f n x = some y) : ∃ k, k < n ∧ x = nI (k + 1) ∧ y = aR k ∧ wi x 1 (nI n) = true := by
  by_cases hw : wi x 1 (nI n) = true
  · obtain ⟨k, hk, rfl⟩ := wi_num hn hw
    rw [numQ_at hn hk, hf k hk] at h
    exact ⟨k, hk, rfl, (Option.some.inj h).symm, hw⟩
  · rw [numQ, if_neg hw] at h; cases h
theorem numQ_none {f : Nat → Option Nat} {aR : Nat → Nat} {n : Nat} {x : Int32} (hn : n < 1000000) (hf : ∀ k, k < n → f k = some (aR k)) (h : numQ f n x = none) : wi x 1 (nI n) = false := by
  by_cases hw : wi x 1 (nI n) = true
  · obtain ⟨k, hk, rfl⟩ := wi_num hn hw
    rw [numQ_at hn hk, hf k hk] at h; cases h
  · exact Bool.eq_false_iff.mpr hw
theorem lent_lc {aR aD : Nat → Nat} {v : LV} (h1 : v.2.2.2.2.1 = 1 → v.2.2.2.2.2 = 0) (h3 : v.2.2.2.2.1 = 3 → 0 < v.2.2.2.2.2) (hb : 1 ≤ v.2.2.2.2.1 ∧ v.2.2.2.2.1 ≤ 3) : lent (lcOf aR aD v).2.2.2.2.1 (lcOf aR aD v).2.2.2.2.2 = decide (v.2.2.2.2.1 = 1) := by
  have h : v.2.2.2.2.1 = 1 ∨ v.2.2.2.2.1 = 2 ∨ v.2.2.2.2.1 = 3 := by omega
  rcases h with e | e | e
  · simp [lent, lcOf, e, h1 e]
  · simp [lent, lcOf, e]
  · have : ¬ v.2.2.2.2.2 = 0 := by have := h3 e; omega
    simp [lent, lcOf, e, this]
theorem lnQ_S {σ : SS} (hV : Inv σ) {aR aL aD : Nat → Nat} {x : Int32} {y : Nat} (h : lnQ aL (fun k => lcOf aR aD (sLV σ k)) (sNL σ) x = some y) : ∃ k, k < sNL σ ∧ x = nI (k + 1) ∧ y = aL k ∧ (sLV σ k).2.2.2.2.1 = 1 ∧ lentN σ x = some k := by
  have hn := hV.1.2.1
  by_cases hw : wi x 1 (nI (sNL σ)) = true
  · obtain ⟨k, hk, rfl⟩ := wi_num (by omega) hw
    obtain ⟨-, -, -, hb, -, h1, h3⟩ := hV.2.2.1 k hk
    have e := lent_lc (aR := aR) (aD := aD) h1 h3 hb
    by_cases hs : (sLV σ k).2.2.2.2.1 = 1
    · rw [lnQ_yes (by omega) hk (by rw [e]; exact decide_eq_true hs)] at h
      refine ⟨k, hk, rfl, (Option.some.inj h).symm, hs, ?_⟩
      rw [lentN, hw, nI_k1 (by omega)]
      simp [hs]
    · rw [lnQ_not (by omega) hk (by rw [e]; exact decide_eq_false hs)] at h; cases h
  · rw [lnQ_no (Bool.eq_false_iff.mpr hw)] at h; cases h
theorem lnQ_N {σ : SS} (hV : Inv σ) {aR aL aD : Nat → Nat} {x : Int32} (h : lnQ aL (fun k => lcOf aR aD (sLV σ k)) (sNL σ) x = none) : lentN σ x = none := by
  have hn := hV.1.2.1
  by_cases hw : wi x 1 (nI (sNL σ)) = true
  · obtain ⟨k, hk, rfl⟩ := wi_num (by omega) hw
    obtain ⟨-, -, -, hb, -, h1, h3⟩ := hV.2.2.1 k hk
    have e := lent_lc (aR := aR) (aD := aD) h1 h3 hb
    by_cases hs : (sLV σ k).2.2.2.2.1 = 1
    · rw [lnQ_yes (by omega) hk (by rw [e]; exact decide_eq_true hs)] at h; cases h
    · rw [lentN, nI_k1 (by omega)]
      simp [hs]
  · simp [lentN, Bool.eq_false_iff.mpr hw]
theorem dbtN_some {σ : SS} (hV : Inv σ) {k : Nat} (hk : k < sND σ) : dbtN σ (nI (k + 1)) = some k := by
  have hn := hV.1.2.2.1
  rw [dbtN, if_pos (wi_num_of (by omega) hk), nI_k1 (by omega)]
theorem dbtN_none {σ : SS} {x : Int32} (h : wi x 1 (nI (sND σ)) = false) : dbtN σ x = none := by simp [dbtN, h]
theorem insP_pos (aR : Nat → Nat) (σ : SS) (x : Int64) : ∀ n, insP (fun j => dcOf aR (sLV σ) (sDV σ (sOD σ j))) x n = posD (dayF σ) x n
  | 0 => rfl
  | n + 1 => by
    rw [insP, posD, insP_pos aR σ x n]; rfl
theorem posD_le (f : Nat → Int64) (x : Int64) : ∀ q, posD f x q ≤ q
  | 0 => Nat.le_refl 0
  | q + 1 => by
    rw [posD]
    split
    · exact Nat.le_succ_of_le (posD_le f x q)
    · exact Nat.le_refl _
theorem sLe_sum (aR : Nat → Nat) (σ : SS) (x : Int32) : ∀ n, sLe (fun k => dcOf aR (sLV σ) (sDV σ k)) x n = sumL σ x n
  | 0 => rfl
  | n + 1 => by rw [sLe, sumL, sLe_sum aR σ x n]; rfl
theorem sIn_sum (aR : Nat → Nat) (σ : SS) (x : Int32) (y : Int64) : ∀ n, sIn (fun k => dcOf aR (sLV σ) (sDV σ k)) (fun k => sRV σ (sLV σ (sDV σ k).1).2.2.1) x y n = sumI σ x y n
  | 0 => rfl
  | n + 1 => by rw [sIn, sumI, sIn_sum aR σ x y n]; rfl
theorem lN_toNat {x : Int64} (h : 0 < x) : lN x.toInt.toNat = x := by
  have h0 : (0 : Int64).toInt = 0 := by decide
  have h1 : 0 < x.toInt := by rw [Int64.lt_iff_toInt_lt, h0] at h; exact h
  have h2 : x.toInt < 2 ^ 63 := Int64.toInt_lt x
  rw [← Int64.toInt_inj, pk_lT (by omega)]
  omega
