def clB (f : Nat → Int64) (x : Int64) : Nat → Bool
  | 0 => false
  | n + 1 => clB f x n || decide (f n = x)
/-- the number of the last loan of an item that has not come back -/
def lof (L : Nat → LV) (x : Int32) : Nat → Nat
  | 0 => 0
  | n + 1 => if nI (L n).1 = x ∧ (L n).2.2.2.2.1 ≠ 2 then n + 1 else lof L x n
theorem lof_le (L : Nat → LV) (x : Int32) : ∀ n, lof L x n ≤ n
  | 0 => Nat.le_refl 0
  | n + 1 => by
    rw [lof]; split
    · exact Nat.le_refl _
    · exact Nat.le_succ_of_le (lof_le L x n)
theorem lof_y {L : Nat → LV} {x : Int32} {n : Nat} (h1 : nI (L n).1 = x) (h2 : (L n).2.2.2.2.1 ≠ 2) : lof L x (n + 1) = n + 1 := by rw [lof, if_pos ⟨h1, h2⟩]
theorem lof_n1 {L : Nat → LV} {x : Int32} {n : Nat} (h1 : ¬ nI (L n).1 = x) : lof L x (n + 1) = lof L x n := by rw [lof, if_neg (fun q => h1 q.1)]
theorem lof_n2 {L : Nat → LV} {x : Int32} {n : Nat} (h2 : (L n).2.2.2.2.1 = 2) : lof L x (n + 1) = lof L x n := by rw [lof, if_neg (fun q => q.2 h2)]
theorem nI_small {a b : Nat} (ha : a < 1000) (hb : b < 1000) : nI a = nI b ↔ a = b := nI_eq (by omega) (by omega)
theorem lentN_y {σ : SS} (hV : Inv σ) {k : Nat} (hk : k < sNL σ) (h : (sLV σ k).2.2.2.2.1 = 1) : lentN σ (nI (k + 1)) = some k := by
  have hn := hV.1.2.1
  rw [lentN, nI_k1 (by omega), if_pos (by rw [wi_num_of (by omega) hk]; simp [h])]
theorem lentN_n {σ : SS} (hV : Inv σ) {k : Nat} (hk : k < sNL σ) (h : ¬ (sLV σ k).2.2.2.2.1 = 1) : lentN σ (nI (k + 1)) = none := by
  have hn := hV.1.2.1
  rw [lentN, nI_k1 (by omega), if_neg (by simp [h])]
theorem lentN_w {σ : SS} {x : Int32} (h : wi x 1 (nI (sNL σ)) = false) : lentN σ x = none := by simp [lentN, h]
theorem i64s0 (x : Int64) : x - 0 = x := by simp
theorem late_end {C : Nat → Int64} {nc : Nat} {v : RV} {du x b : Int64} (hb : b = x - du - (cB C du x nc).toInt64) : (if x ≤ du ∨ b ≤ v.2.2.1.toInt64 then 0 else if v.2.1.toInt64 < b * v.1.toInt64 then v.2.1.toInt64 else b * v.1.toInt64) = rvCents v (opD C nc du x) ∨ ¬ 0 ≤ v.2.2.1 := by
  by_cases hg : 0 ≤ v.2.2.1
  · left
    by_cases h : x ≤ du
    · rw [if_pos (Or.inl h), opD, if_pos h, rvCents, if_pos]
      rw [Int64.le_iff_toInt_le, Int32.toInt_toInt64]
      rw [Int32.le_iff_toInt_le] at hg
      exact hg
    · rw [opD, if_neg h, ← hb, rvCents, mnJ]
      by_cases h2 : b ≤ v.2.2.1.toInt64
      · rw [if_pos (Or.inr h2), if_pos h2]
      · rw [if_neg (fun q => q.elim h h2), if_neg h2]
  · right; exact hg
theorem late_m {σ : SS} (hV : Inv σ) {j : Nat} (hj : j < sNL σ) {b d : Int64} (hb : b = d - (sLV σ j).2.2.2.1 - (cB (sCD σ) (sLV σ j).2.2.2.1 d (sNC σ)).toInt64) : lateJ σ j d = (if d ≤ (sLV σ j).2.2.2.1 ∨ b ≤ (sRV σ (sLV σ j).2.2.1).2.2.1.toInt64 then 0 else if (sRV σ (sLV σ j).2.2.1).2.1.toInt64 < b * (sRV σ (sLV σ j).2.2.1).1.toInt64 then (sRV σ (sLV σ j).2.2.1).2.1.toInt64 else b * (sRV σ (sLV σ j).2.2.1).1.toInt64) := by
  rcases late_end (v := sRV σ (sLV σ j).2.2.1) hb with h | h
  · exact h.symm
  · exact absurd (hV.2.1 _ (hV.2.2.1 j hj).2.2.1).2.2.1 h
theorem dn1_ne0 (x : Int32) : ¬ (dn1 x).toInt64 = 0 := by
  unfold dn1
  split
  · decide
  · rename_i h
    intro e
    refine h ?_
    have h1 : x.toInt64.toInt = x.toInt := Int32.toInt_toInt64 x
    rw [e] at h1
    have h2 : (0 : Int64).toInt = 0 := by decide
    have h3 : (0 : Int32).toInt = 0 := by decide
    rw [← Int32.toInt_inj]
    omega
theorem i64_zdiv (x : Int64) : 0 / x = 0 := by simp
theorem int_m {v : RV} {le dy y n : Int64} (h0 : 0 ≤ v.2.2.2.2) (hu : v.2.2.2.2 = 0 → v.2.2.2.1 = 0) (hn : n = if y < dy then 0 else (y - dy) / 30) : le * v.2.2.2.1.toInt64 * n / (dn1 v.2.2.2.2).toInt64 = dInt v le dy y := by
  unfold dInt
  by_cases h1 : y ≤ dy
  · rw [if_pos h1]
    have hn0 : n = 0 := by
      rw [hn]
      by_cases h2 : y < dy
      · rw [if_pos h2]
      · have e : y = dy := by
          rw [← Int64.toInt_inj]
          rw [Int64.le_iff_toInt_le] at h1
          rw [Int64.lt_iff_toInt_lt] at h2
          omega
        rw [if_neg h2, e]
        simp
    rw [hn0]; simp
  · rw [if_neg h1]
    have h2 : ¬ y < dy := fun q => h1 (Int64.le_of_lt q)
    rw [if_neg h2] at hn
    unfold rvInt dn1
    by_cases h3 : v.2.2.2.2 = 0
    · rw [if_pos h3, hu h3, h3]; simp
    · have h4 : ¬ v.2.2.2.2 ≤ 0 := fun q => h3 (Int32.le_antisymm q h0)
      rw [if_neg h3, if_neg h4, hn]
