def clB (f : Nat → Int64) (x : Int64) : Nat → Bool
  | 0 => false
  | n + 1 => clB f x n || decide (f n = x)
/-- the number of the last loan of an item that has not come back -/
def lof (L : Nat → LV) (x : Int32) : Nat → Nat
  | 0 => 0
  | n + 1 => if nI (L n).1 = x ∧ (L n).2.2.2.2.1 ≠ 2 then n + 1 else lof L x n
theorem lof_le (L : Nat → LV) (x : Int32) : ∀ n, lof L x n ≤ n
  | 0 => Nat.le_refl 0
  | n + 1 => by
    rw [lof]; split
    · exact Nat.le_refl _
    · exact Nat.le_succ_of_le (lof_le L x n)
theorem lof_y {L : Nat → LV} {x : Int32} {n : Nat} (h1 : nI (L n).1 = x) (h2 : (L n).2.2.2.2.1 ≠ 2) : lof L x (n + 1) = n + 1 := by rw [lof, if_pos ⟨h1, h2⟩]
theorem lof_n1 {L : Nat → LV} {x : Int32} {n : Nat} (h1 : ¬ nI (L n).1 = x) : lof L x (n + 1) = lof L x n := by rw [lof, if_neg (fun q => h1 q.1)]
theorem lof_n2 {L : Nat → LV} {x : Int32} {n : Nat} (h2 : (L n).2.2.2.2.1 = 2) : lof L x (n + 1) = lof L x n := by rw [lof, if_neg (fun q => q.2 h2)]
theorem nI_small {a b : Nat} (ha : a < 1000) (hb : b < 1000) : nI a = nI b ↔ a = b := nI_eq (by omega) (by omega)
theorem lentN_y {σ : SS} (hV : Inv σ) {k : Nat} (hk : k < sNL σ) (h : (sLV σ k).2.2.2.2.1 = 1) : lentN σ (nI (k + 1)) = some k := by
  have hn := hV.1.2.1
  rw [lentN, nI_k1 (by omega), if_pos (by rw [wi_num_of (by omega) hk]; simp [h])]
theorem lentN_n {σ : SS} (hV : Inv σ) {k : Nat} (hk : k < sNL σ) (h : ¬ (sLV σ k).2.2.2.2.1 = 1) : lentN σ (nI (k + 1)) = none := by
  have hn := hV.1.2.1
  rw [lentN, nI_k1 (by omega), if_neg (by simp [h])]
theorem lentN_w {σ : SS} {x : Int32} (h : wi x 1 (nI (sNL σ)) = false) : lentN σ x = none := by simp [lentN, h]
theorem i64s0 (x : Int64) : x - 0 = x := by simp
theorem late_end {C : Nat → Int64} {nc : Nat} {v : RV} {du x b : Int64} (hb : b = x - du - (cB C du x nc).toInt64) : (if x ≤ du ∨ b ≤ v.2.2.1.toInt64 then 0 else if v.2.1.toInt64 < b * v.1.toInt64 then v.2.1.toInt64 else b * v.1.toInt64) = rvCents v (opD C nc du x) ∨ ¬ 0 ≤ v.2.2.1 := by
  by_cases hg : 0 ≤ v.2.2.1
  · left
    by_cases h : x ≤ du
    · rw [if_pos (Or.inl h), opD, if_pos h, rvCents, if_pos]
      rw [Int64.le_iff_toInt_le, Int32.toInt_toInt64]
      rw [Int32.le_iff_toInt_le] at hg
      exact hg
    · rw [opD, if_neg h, ← hb, rvCents, mnJ]
      by_cases h2 : b ≤ v.2.2.1.toInt64
      · rw [if_pos (Or.inr h2), if_pos h2]
      · rw [if_neg (fun q => q.elim h h2), if_neg h2]
  · right; exact hg
