theorem lentN_S {σ : SS} (hV : Inv σ) {x : Int32} (h : (lentN σ x).isSome = true) : ∃ k, k < sNL σ ∧ x = nI (k + 1) ∧ (sLV σ k).2.2.2.2.1 = 1 ∧ lentN σ (nI (k + 1)) = some k := by
  have hn := hV.1.2.1
  unfold lentN at h
  split at h
  · rename_i q
    rw [Bool.and_eq_true] at q
    obtain ⟨k, hk, rfl⟩ := wi_num (by omega) q.1
    have h1 := of_decide_eq_true q.2
    rw [nI_k1 (by omega)] at h1
    exact ⟨k, hk, rfl, h1, lentN_y hV hk h1⟩
  · exact absurd h (by simp)
theorem lentN_N {σ : SS} {x : Int32} (h : (lentN σ x).isSome = false) : lentN σ x = none := by
  cases q : lentN σ x with
  | none => rfl
  | some k => rw [q] at h; cases h
theorem lof_spec (L : Nat → LV) (x : Int32) : ∀ n, (lof L x n = 0 ∧ ∀ k, k < n → ¬ (nI (L k).1 = x ∧ (L k).2.2.2.2.1 ≠ 2)) ∨ ∃ k, k < n ∧ lof L x n = k + 1 ∧ nI (L k).1 = x ∧ (L k).2.2.2.2.1 ≠ 2
  | 0 => Or.inl ⟨rfl, fun k h => absurd h (Nat.not_lt_zero k)⟩
  | n + 1 => by
    by_cases h : nI (L n).1 = x ∧ (L n).2.2.2.2.1 ≠ 2
    · exact Or.inr ⟨n, Nat.lt_succ_self n, lof_y h.1 h.2, h⟩
    · have e : lof L x (n + 1) = lof L x n := by rw [lof, if_neg h]
      rcases lof_spec L x n with ⟨h1, h2⟩ | ⟨k, h1, h2, h3⟩
      · refine Or.inl ⟨by rw [e, h1], fun k hk => ?_⟩
        by_cases q : k = n
        · rw [q]; exact h
        · exact h2 k (by omega)
      · exact Or.inr ⟨k, by omega, by rw [e, h2], h3⟩
theorem lof_S {σ : SS} (hV : Inv σ) (x : Int32) : (lof (sLV σ) x (sNL σ) = 0 ∧ (∀ i, i < 60 → x = nI i → sIT σ i = none) ∧ lostN σ x = none) ∨ ∃ k i, k < sNL σ ∧ i < 60 ∧ lof (sLV σ) x (sNL σ) = k + 1 ∧ x = nI i ∧ sIT σ i = some k ∧ (sLV σ k).1 = i ∧ (sLV σ k).2.2.2.2.1 ≠ 2 := by
  rcases lof_spec (sLV σ) x (sNL σ) with ⟨h1, h2⟩ | ⟨k, h1, h2, h3, h4⟩
  · have key : ∀ i, i < 60 → x = nI i → sIT σ i = none := fun i hi hx => by
      cases q : sIT σ i with
      | none => rfl
      | some k =>
        obtain ⟨q1, q2, q3⟩ := (hV.2.2.2.2.1 i hi k).mp q
        exact absurd ⟨by rw [q2, hx], q3⟩ (h2 k q1)
    refine Or.inl ⟨h1, key, ?_⟩
    cases hw : wi x 0 59 with
    | false => exact lostN_no hw
    | true =>
      obtain ⟨i, hi, rfl⟩ := wi_pl (n := 59) rfl (by decide) hw
      exact lostN_it hi (key i hi rfl)
  · have hi := (hV.2.2.1 k h1).1
    exact Or.inr ⟨k, (sLV σ k).1, h1, hi, h2, h3.symm, (hV.2.2.2.2.1 _ hi k).mpr ⟨h1, rfl, h4⟩, rfl, h4⟩
theorem l2iN {x : Int64} (h : 0 < x) (h2 : x.toInt.toNat ≤ 10000000) : x.toInt32 = nI x.toInt.toNat := by
  have h0 : 0 ≤ x.toInt := by
    rw [Int64.lt_iff_toInt_lt] at h
    have e0 : (0 : Int64).toInt = 0 := by decide
    omega
  rw [← Int32.toInt_inj, nI_toInt (by omega), Int64.toInt_toInt32]
  have e : ((x.toInt.toNat : Nat) : Int) = x.toInt := Int.toNat_of_nonneg h0
  rw [e]
  exact Int.bmod_eq_of_le (by omega) (by omega)
theorem up_up {α : Type} (f : Nat → α) (k : Nat) (v w : α) : va_up (va_up f k v) k w = va_up f k w := by
  funext i
  by_cases e : i = k
  · subst e; simp [va_up]
  · simp [va_up, e]
theorem lateJ_enL (σ : SS) (k : Nat) (d : Int64) : lateJ (enL σ k) k d = lateJ σ k d := by
  show rvCents (sRV σ (va_up (sLV σ) k _ k).2.2.1) (opD (sCD σ) (sNC σ) (va_up (sLV σ) k _ k).2.2.2.1 d) = _
  rw [va_up_self]
  rfl
theorem sh_n {y z : Int32} (h : wi y 1 1000 = false) : (wi z 1 1000 && wi y 1 z) = false := by
  cases hq : (wi z 1 1000 && wi y 1 z) with
  | false => rfl
  | true =>
    rw [Bool.and_eq_true, wi_iff, wi_iff] at hq
    rw [wi_t hq.2.1 (Int32.le_trans hq.2.2 hq.1.2)] at h
    cases h
theorem MRel_st {fm : Nat → Nat → Int32} {fj : Nat → Nat → Int64} {σ : SS} (h : MRel fm fj σ) (k n : Nat) : MRel (va_up fm 10 (va_up (fm 10) (k + 1) (nI n))) fj (σ.1, (sNL σ, va_up (sLV σ) k ((sLV σ k).1, (sLV σ k).2.1, (sLV σ k).2.2.1, (sLV σ k).2.2.2.1, n, (sLV σ k).2.2.2.2.2)), σ.2.2) := by
  obtain ⟨h1, h2, h3, h6, h20, h11⟩ := h
  refine ⟨h1, fun j hj => ?_, h3, h6, h20, h11⟩
  obtain ⟨a1, a2, a3, a4, a5, a6⟩ := h2 j hj
  by_cases e : j = k
  · subst e
    simp only [sLV, va_up_self]
    exact ⟨a1, a2, a3, (by first | trivial | exact va_up_self _ _ _ | rfl), a5, a6⟩
  · simp only [sLV, va_up_ne _ _ e]
    exact ⟨a1, a2, a3, (va_up_ne (fm 10) _ (by omega)).trans a4, a5, a6⟩
theorem MRel_loss {fm : Nat → Nat → Int32} {fj : Nat → Nat → Int64} {σ : SS} (h : MRel fm fj σ) (k n : Nat) (hk : k < sNL σ) : MRel (va_up fm 11 (va_up (fm 11) (k + 1) (nI n))) fj (σ.1, (sNL σ, va_up (sLV σ) k ((sLV σ k).1, (sLV σ k).2.1, (sLV σ k).2.2.1, (sLV σ k).2.2.2.1, (sLV σ k).2.2.2.2.1, n)), σ.2.2) := by
  obtain ⟨h1, h2, h3, h6, h20, h11⟩ := h
  refine ⟨h1, fun j hj => ?_, h3, h6, h20, fun j hj => ?_⟩
  · obtain ⟨a1, a2, a3, a4, a5, a6⟩ := h2 j hj
    by_cases e : j = k
    · subst e
      simp only [sLV, va_up_self]
      exact ⟨a1, a2, a3, a4, (by first | trivial | exact va_up_self _ _ _ | rfl), a6⟩
    · simp only [sLV, va_up_ne _ _ e]
      exact ⟨a1, a2, a3, a4, (va_up_ne (fm 11) _ (by omega)).trans a5, a6⟩
  · have hj2 : sNL σ ≤ j := hj
    exact (va_up_ne (fm 11) _ (by omega)).trans (h11 j hj)
theorem stD_id (σ : SS) (k : Nat) : stD σ k (sDV σ k) = σ := by
  have e : va_up (sDV σ) k (sDV σ k) = sDV σ := by
    funext i
    by_cases q : i = k
    · subst q; simp [va_up]
    · simp [va_up, q]
  rw [stD, e]
theorem nI_sub0 (x : Int32) : x - 0 = x := by simp
theorem nI_subs (x : Int32) : x - x = 0 := by simp
