/-! The numbers stay as they must, call by call. -/
def Ok (n : Nat) (σ : SS) : Prop := Inv σ ∧ ∀ i, i < 30 → sKR σ i ≤ 10000000 * n
theorem Ok.up {n : Nat} {σ : SS} (h : Ok n σ) : Ok (n + 1) σ := ⟨h.1, fun i hi => by have := h.2 i hi; omega⟩
theorem Ok.of {n : Nat} {σ τ : SS} (h : Ok n σ) (hi : Inv τ) (hk : sKR τ = sKR σ) : Ok (n + 1) τ := ⟨hi, fun i hi => by rw [hk]; have := h.2 i hi; omega⟩
theorem Ok_0 : Ok 0 σ0 := by
  refine ⟨⟨⟨Nat.zero_le _, Nat.zero_le _, Nat.zero_le _, Nat.zero_le _⟩, fun k hk => absurd hk (Nat.not_lt_zero k), fun k hk => absurd hk (Nat.not_lt_zero k), fun k hk => absurd hk (Nat.not_lt_zero k), fun i hi k => ?_, fun i hi => absurd hi (Nat.not_lt_zero i), fun i hi => absurd hi (Nat.not_lt_zero i), fun i j _ hj => absurd hj (Nat.not_lt_zero j)⟩, fun i _ => Nat.zero_le _⟩
  exact ⟨fun h => (by cases h), fun h => absurd h.1 (Nat.not_lt_zero k)⟩
theorem Ok_rule {n : Nat} {σ : SS} (h : Ok n σ) (x y z : Int32) : Ok (n + 1) (spRule σ x y z).2 := by
  unfold spRule
  split
  · rename_i hc
    simp only [Bool.and_eq_true, decide_eq_true_eq] at hc
    obtain ⟨⟨⟨h1, h2⟩, h3⟩, h4⟩ := hc
    obtain ⟨⟨i1, i2, i3, i4⟩, iR, iL, iD, iI, iO⟩ := h.1
    refine h.of ⟨⟨h4, i2, i3, i4⟩, fun k hk => ?_, fun k hk => ?_, iD, iI, iO⟩ rfl
    · by_cases e : k = sNR σ
      · subst e
        simp only [sRV, va_up_self]
        obtain ⟨q, hq, hyq⟩ : ∃ q, q ≤ 10000000 ∧ y = nI q := by
          obtain ⟨g1, g2⟩ := wi_iff.mp h2
          rw [Int32.le_iff_toInt_le] at g1 g2
          have e1 : (0 : Int32).toInt = 0 := by decide
          have e2 : (10000000 : Int32).toInt = 10000000 := by decide
          refine ⟨y.toInt.toNat, by omega, ?_⟩
          rw [← Int32.toInt_inj, nI_toInt (by omega)]
          omega
        exact ⟨(wi_iff.mp h1).1, ⟨q, hq, hyq⟩, (wi_iff.mp h3).1, by decide, by decide, fun _ => trivial⟩
      · have hk2 : k < sNR σ + 1 := hk
        simp only [sRV, va_up_ne _ _ e]
        exact iR k (by omega)
    · obtain ⟨a1, a2, a3, a4⟩ := iL k hk
      exact ⟨a1, a2, Nat.lt_succ_of_lt a3, a4⟩
  · exact h.up
theorem Ok_int {n : Nat} {σ : SS} (h : Ok n σ) (x y z : Int32) : Ok (n + 1) (spInt σ x y z).2 := by
  unfold spInt
  split
  · rename_i hc
    simp only [okInt, Bool.and_eq_true, decide_eq_true_eq] at hc
    obtain ⟨⟨⟨h1, h2⟩, h3⟩, h4⟩ := hc
    obtain ⟨i0, iR, iL, iD, iI, iO⟩ := h.1
    refine h.of ⟨i0, fun k hk => ?_, iL, iD, iI, iO⟩ rfl
    obtain ⟨a1, a2, a3, a4, a5, a6⟩ := iR k hk
    by_cases e : k = x.toInt.toNat
    · subst e
      simp only [sRV, va_up_self]
      exact ⟨a1, a2, a3, (wi_iff.mp h2).1, (wi_iff.mp h3).1, fun q => absurd q h4⟩
    · simp only [sRV, va_up_ne _ _ e]
      exact ⟨a1, a2, a3, a4, a5, a6⟩
  · exact h.up
theorem Ok_closed {n : Nat} {σ : SS} (h : Ok n σ) (x : Int64) : Ok (n + 1) (spClosed σ x).2 := by
  unfold spClosed
  split
  · rename_i hc
    simp only [cadd, Bool.and_eq_true, decide_eq_true_eq] at hc
    obtain ⟨⟨i1, i2, i3, i4⟩, iR, iL, iD, iI, iO⟩ := h.1
    exact h.of ⟨⟨i1, i2, i3, hc.2.1⟩, iR, iL, iD, iI, iO⟩ rfl
  · exact h.up
theorem Ok_loan {n : Nat} {σ : SS} (h : Ok n σ) (x y z : Int32) (d : Int64) : Ok (n + 1) (spLoan σ x y z d).2 := by
  unfold spLoan
  split
  · rename_i hc
    simp only [Bool.and_eq_true, decide_eq_true_eq] at hc
    obtain ⟨⟨⟨⟨⟨h1, h2⟩, h3⟩, h4⟩, h5⟩, h6⟩ := hc
    obtain ⟨⟨i1, i2, i3, i4⟩, iR, iL, iD, iI, iO⟩ := h.1
    obtain ⟨xi, hxi, rfl⟩ := wi_pl (n := 59) rfl (by decide) h1
    obtain ⟨yi, hyi, rfl⟩ := wi_pl (n := 29) rfl (by decide) h2
    obtain ⟨zi, hzi, rfl⟩ := wi_ord (by omega) h3
    rw [nI_k0 (by omega)] at h5
    have hno : sIT σ xi = none := by
      cases q : sIT σ xi with
      | none => rfl
      | some v => rw [q] at h5; cases h5
    rw [nI_k0 (show xi < 1000000 by omega), nI_k0 (show yi < 1000000 by omega), nI_k0 (show zi < 1000000 by omega)]
    refine h.of ⟨⟨i1, h6, i3, i4⟩, iR, fun k hk => ?_, fun k hk => ?_, fun i hi k => ?_, iO⟩ rfl
    · have hk2 : k < sNL σ + 1 := hk
      by_cases e : k = sNL σ
      · subst e
        simp only [sLV, va_up_self]
        exact ⟨by omega, by omega, hzi, ⟨by decide, by decide⟩, Nat.zero_le _, fun _ => trivial, fun q => absurd q (by decide)⟩
      · simp only [sLV, va_up_ne _ _ e]
        exact iL k (by omega)
    · obtain ⟨a1, a2⟩ := iD k hk
      exact ⟨Nat.lt_succ_of_lt a1, a2⟩
    · show va_up (sIT σ) xi (some (sNL σ)) i = some k ↔ (k < sNL σ + 1 ∧ (va_up (sLV σ) (sNL σ) (xi, yi, zi, d, 1, 0) k).1 = i ∧ (va_up (sLV σ) (sNL σ) (xi, yi, zi, d, 1, 0) k).2.2.2.2.1 ≠ 2)
      by_cases e : i = xi
      · subst e
        rw [va_up_self]
        by_cases ek : k = sNL σ
        · subst ek
          rw [va_up_self]
          exact ⟨fun _ => ⟨Nat.lt_succ_self _, rfl, (by show (1 : Nat) ≠ 2; decide)⟩, fun _ => rfl⟩
        · rw [va_up_ne _ _ ek]
          constructor
          · intro q; exact absurd (Option.some.inj q).symm ek
          · intro q
            have := (iI i (by omega) k).mpr ⟨by omega, q.2⟩
            rw [hno] at this; cases this
      · rw [va_up_ne _ _ e]
        by_cases ek : k = sNL σ
        · subst ek
          rw [va_up_self]
          constructor
          · intro q
            have := (iI i hi (sNL σ)).mp q
            exact absurd this.1 (Nat.lt_irrefl _)
          · intro q; exact absurd q.2.1 (fun z => e z.symm)
        · rw [va_up_ne _ _ ek, iI i hi k]
          exact ⟨fun q => ⟨by omega, q.2⟩, fun q => ⟨by omega, q.2⟩⟩
  · exact h.up
theorem lentN_I {σ : SS} (hV : Inv σ) {x : Int32} {k : Nat} (h : lentN σ x = some k) : k < sNL σ ∧ (sLV σ k).2.2.2.2.1 = 1 := by
  obtain ⟨j, h1, rfl, h3, h4⟩ := lentN_S hV (x := x) (by rw [h]; rfl)
  rw [h4] at h
  cases h
  exact ⟨h1, h3⟩
theorem Inv_chD {σ : SS} (hV : Inv σ) {k : Nat} (hk : k < sNL σ) {am d : Int64} (ham : 0 < am → am.toInt.toNat ≤ 10000000 ∧ sND σ < 200) : Inv (chD σ k am d).2 := by
  unfold chD
  split
  · rename_i q; exact Inv_adD hV hk (ham q).1 (ham q).2
  · exact hV
theorem chD_K (σ : SS) (k : Nat) (am d : Int64) : sKR (chD σ k am d).2 = sKR σ := by
  unfold chD
  split <;> rfl
theorem Ok_back {n : Nat} {σ : SS} (h : Ok n σ) (x : Int32) (d : Int64) : Ok (n + 1) (spBack σ x d).2 := by
  unfold spBack
  split
  · exact h.up
  · rename_i k hk
    obtain ⟨h1, h2⟩ := lentN_I h.1 hk
    split
    · rename_i hc
      refine h.of (Inv_chD (Inv_enL h.1 h1 (by rw [h2]; decide)) h1 (fun q => ⟨late_le h.1 h1 q, ?_⟩)) (by rw [chD_K]; rfl)
      simp only [Bool.and_eq_true, Bool.not_eq_true', Bool.and_eq_false_iff, decide_eq_false_iff_not] at hc
      rcases hc.2 with q2 | q2
      · exact absurd q q2
      · have := of_decide_eq_false q2; show sND σ < 200; omega
    · exact h.up
theorem Ok_lost {n : Nat} {σ : SS} (h : Ok n σ) (x y : Int32) (d : Int64) : Ok (n + 1) (spLost σ x y d).2 := by
  unfold spLost
  split
  · exact h.up
  · rename_i k hk
    obtain ⟨h1, h2⟩ := lentN_I h.1 hk
    split
    · rename_i hc
      simp only [Bool.and_eq_true, Bool.not_eq_true'] at hc
      have hn : sND σ < 200 := by have := of_decide_eq_false hc.2; omega
      obtain ⟨am, ham, rfl⟩ := wi_c hc.1.2
      rw [nI_k9 ham]
      exact h.of (Inv_lost (Inv_adD h.1 h1 ham hn (d := d) (so := 1)) h1 h2 (n := sND σ + 1) (Nat.succ_pos _) (Nat.le_refl _)) rfl
    · exact h.up
theorem Ok_found {n : Nat} {σ : SS} (h : Ok n σ) (x : Int32) (d : Int64) : Ok (n + 1) (spFound σ x d).2 := by
  unfold spFound
  split
  · exact h.up
  · rename_i k hk
    split
    · rename_i hc
      have hst : sIT σ x.toInt.toNat = some k ∧ (sLV σ k).2.2.2.2.1 = 3 ∧ x.toInt.toNat < 60 := by
        unfold lostN at hk
        split at hk
        · rename_i hw
          obtain ⟨i, hi, rfl⟩ := wi_pl (n := 59) rfl (by decide) hw
          split at hk
          · cases hk
          · rename_i k2 hk2
            split at hk
            · rename_i h3
              cases hk
              exact ⟨hk2, h3, by rw [nI_k0 (by omega)]; omega⟩
            · cases hk
        · cases hk
      obtain ⟨h1, h2, h3⟩ := hst
      obtain ⟨k1, k2, k3⟩ := (h.1.2.2.2.2.1 _ h3 k).mp h1
      obtain ⟨l1, l2, l3, l4, l5, l6, l7⟩ := h.1.2.2.1 k k1
      have hls := l7 h2
      have hii : (sLV σ k).2.2.2.2.2 - 1 < sND σ := by omega
      have hdv := h.1.2.2.2.1 _ hii
      refine ⟨Inv_chD (Inv_enL (Inv_stK (Inv_zeD h.1 hii)) k1 k3) k1 (fun q => ⟨late_le h.1 k1 q, ?_⟩), fun i hi => ?_⟩
      · simp only [Bool.and_eq_true, Bool.not_eq_true', Bool.and_eq_false_iff, decide_eq_false_iff_not] at hc
        rcases hc.2 with q2 | q2
        · exact absurd q q2
        · have := of_decide_eq_false q2; show sND σ < 200; omega
      · rw [chD_K]
        show va_up (sKR σ) (sLV σ k).2.1 (sKR σ (sLV σ k).2.1 + (sDV σ ((sLV σ k).2.2.2.2.2 - 1)).2.2.2.1) i ≤ _
        have hki := h.2 i hi
        by_cases e : i = (sLV σ k).2.1
        · rw [e, va_up_self]
          have := h.2 (sLV σ k).2.1 l2
          omega
        · rw [va_up_ne _ _ e]; omega
    · exact h.up
theorem Ok_waive {n : Nat} {σ : SS} (h : Ok n σ) (x y : Int32) : Ok (n + 1) (spWaive σ x y).2 := by
  unfold spWaive
  split
  · exact h.up
  · rename_i k hk
    have hkd : k < sND σ := by
      unfold dbtN at hk
      split at hk
      · rename_i hw
        have := h.1.1.2.2.1
        obtain ⟨j, hj, rfl⟩ := wi_num (by omega) hw
        rw [nI_k1 (by omega)] at hk
        cases hk; exact hj
      · cases hk
    split
    · split
      · exact h.up
      · exact h.of (Inv_zeD h.1 hkd) rfl
    · exact h.up
theorem Ok_th {n : Nat} {σ : SS} (h : Ok n σ) (x : Int32) : Ok (n + 1) (spTh σ x).2 := by
  unfold spTh
  split
  · exact h.of h.1 rfl
  · exact h.up
theorem Ok_pay {n : Nat} {σ τ : SS} {r x y : Int32} (h : Ok n σ) (hp : spPay σ x y (r, τ)) : Ok (n + 1) τ := by
  unfold spPay at hp
  split at hp
  · rename_i hc
    rw [Bool.and_eq_true] at hc
    obtain ⟨q, hq, rfl⟩ := wi_pl (n := 29) rfl (by decide) hc.1
    obtain ⟨am, ham, rfl⟩ := wi_c hc.2
    rw [nI_k9 ham, nI_k0 (by omega)] at hp
    obtain rfl : τ = _ := (Prod.mk.inj hp).2
    refine ⟨payF_inv h.1 (sND σ) (Nat.le_refl _), fun i hi => ?_⟩
    show va_up (sKR σ) q (payF σ q am (sND σ)).1 i ≤ _
    have hki := h.2 i hi
    by_cases e : i = q
    · subst e
      rw [va_up_self]
      have := (payF_b (σ := σ) (q := i) (c := am) (sND σ)).1
      omega
    · rw [va_up_ne _ _ e]; omega
  · obtain rfl : τ = σ := (Prod.mk.inj hp).2
    exact h.up
theorem spPay_fun {σ τ τ' : SS} {r r' x y : Int32} (h : spPay σ x y (r, τ)) (h' : spPay σ x y (r', τ')) : r' = r ∧ τ' = τ := by
  unfold spPay at h h'
  split at h
  · rename_i hc
    rw [if_pos hc] at h'
    have e := h'.trans h.symm
    exact ⟨(Prod.mk.inj e).1, (Prod.mk.inj e).2⟩
  · rename_i hc
    rw [if_neg hc] at h'
    have e := h'.trans h.symm
    exact ⟨(Prod.mk.inj e).1, (Prod.mk.inj e).2⟩
theorem Ok.kb {n : Nat} {σ : SS} (h : Ok n σ) (hn : n ≤ 1000) : ∀ i, i < 30 → sKR σ i ≤ 1000000000000 := fun i hi => by have := h.2 i hi; omega
