theorem MRel_enL {fm : Nat → Nat → Int32} {fj : Nat → Nat → Int64} {σ : SS} (h : MRel fm fj σ) (k : Nat) : MRel (va_up fm 10 (va_up (fm 10) (k + 1) 2)) fj (enL σ k) := by
  obtain ⟨h1, h2, h3, h6, h20, h11⟩ := h
  refine ⟨h1, fun j hj => ?_, h3, h6, h20, h11⟩
  obtain ⟨a1, a2, a3, a4, a5, a6⟩ := h2 j hj
  by_cases e : j = k
  · subst e
    simp only [enL, sLV, va_up_self]
    exact ⟨a1, a2, a3, (by first | trivial | exact va_up_self _ _ _ | rfl), a5, a6⟩
  · simp only [enL, sLV, va_up_ne _ _ e]
    exact ⟨a1, a2, a3, (va_up_ne (fm 10) 2 (by omega)).trans a4, a5, a6⟩
theorem MRel_ls {fm : Nat → Nat → Int32} {fj : Nat → Nat → Int64} {σ : SS} (h : MRel fm fj σ) (k : Nat) (hk : k < sNL σ) (n : Nat) : MRel (va_up (va_up fm 10 (va_up (fm 10) (k + 1) 3)) 11 (va_up (fm 11) (k + 1) (nI n))) fj (σ.1, (sNL σ, va_up (sLV σ) k ((sLV σ k).1, (sLV σ k).2.1, (sLV σ k).2.2.1, (sLV σ k).2.2.2.1, 3, n)), σ.2.2) := by
  obtain ⟨h1, h2, h3, h6, h20, h11⟩ := h
  refine ⟨h1, fun j hj => ?_, h3, h6, h20, fun j hj => ?_⟩
  · obtain ⟨a1, a2, a3, a4, a5, a6⟩ := h2 j hj
    by_cases e : j = k
    · subst e
      simp only [sLV, va_up_self]
      exact ⟨a1, a2, a3, va_up_self _ _ _, trivial, a6⟩
    · simp only [sLV, va_up_ne _ _ e]
      exact ⟨a1, a2, a3, (va_up_ne (fm 10) 3 (by omega)).trans a4, (va_up_ne (fm 11) _ (by omega)).trans a5, a6⟩
  · have hj2 : sNL σ ≤ j := hj
    exact (va_up_ne (fm 11) _ (by omega)).trans (h11 j hj)
theorem MRel_adD {fm : Nat → Nat → Int32} {fj : Nat → Nat → Int64} {σ : SS} (h : MRel fm fj σ) (k am : Nat) (so : Int32) (d : Int64) : MRel (va_up (va_up (va_up (va_up (va_up fm 13 (va_up (fm 13) (sND σ + 1) (nI (k + 1)))) 14 (va_up (fm 14) (sND σ + 1) (nI am))) 15 (va_up (fm 15) (sND σ + 1) (nI am))) 16 (va_up (fm 16) (sND σ + 1) 0)) 17 (va_up (fm 17) (sND σ + 1) so)) (va_up fj 18 (va_up (fj 18) (sND σ + 1) d)) (adD σ k am so d) := by
  obtain ⟨h1, h2, h3, h6, h20, h11⟩ := h
  refine ⟨h1, h2, fun j hj => ?_, h6, h20, h11⟩
  by_cases e : j = sND σ
  · subst e
    simp only [adD, sDV, va_up_self]
    exact ⟨va_up_self _ _ _, va_up_self _ _ _, va_up_self _ _ _, va_up_self _ _ _, trivial, trivial⟩
  · have hne : ¬ j + 1 = sND σ + 1 := by omega
    obtain ⟨a1, a2, a3, a4, a5, a6⟩ := h3 j (lt_s1 hj e)
    simp only [adD, sDV, va_up_ne _ _ e]
    exact ⟨(va_up_ne (fm 13) _ hne).trans a1, (va_up_ne (fm 14) _ hne).trans a2, (va_up_ne (fm 15) _ hne).trans a3, (va_up_ne (fm 16) _ hne).trans a4, (va_up_ne (fm 17) _ hne).trans a5, (va_up_ne (fj 18) _ hne).trans a6⟩
theorem MRel_left {fm : Nat → Nat → Int32} {fj : Nat → Nat → Int64} {σ : SS} (h : MRel fm fj σ) (k : Nat) (v : DV) (hv : v.1 = (sDV σ k).1 ∧ v.2.1 = (sDV σ k).2.1 ∧ v.2.2.2.1 = (sDV σ k).2.2.2.1 ∧ v.2.2.2.2 = (sDV σ k).2.2.2.2) : MRel (va_up fm 15 (va_up (fm 15) (k + 1) (nI v.2.2.1))) fj (stD σ k v) := by
  obtain ⟨h1, h2, h3, h6, h20, h11⟩ := h
  refine ⟨h1, h2, fun j hj => ?_, h6, h20, h11⟩
  obtain ⟨a1, a2, a3, a4, a5, a6⟩ := h3 j hj
  by_cases e : j = k
  · subst e
    simp only [stD, sDV, va_up_self]
    rw [hv.1, hv.2.1, hv.2.2.1, hv.2.2.2]
    exact ⟨a1, a2, (by first | trivial | exact va_up_self _ _ _ | rfl), a4, a5, a6⟩
  · simp only [stD, sDV, va_up_ne _ _ e]
    exact ⟨a1, a2, (va_up_ne (fm 15) _ (by omega)).trans a3, a4, a5, a6⟩
theorem MRel_paid {fm : Nat → Nat → Int32} {fj : Nat → Nat → Int64} {σ : SS} (h : MRel fm fj σ) (k : Nat) (v : DV) (hv : v.1 = (sDV σ k).1 ∧ v.2.1 = (sDV σ k).2.1 ∧ v.2.2.2.2 = (sDV σ k).2.2.2.2) : MRel (va_up (va_up fm 15 (va_up (fm 15) (k + 1) (nI v.2.2.1))) 16 (va_up (fm 16) (k + 1) (nI v.2.2.2.1))) fj (stD σ k v) := by
  obtain ⟨h1, h2, h3, h6, h20, h11⟩ := h
  refine ⟨h1, h2, fun j hj => ?_, h6, h20, h11⟩
  obtain ⟨a1, a2, a3, a4, a5, a6⟩ := h3 j hj
  by_cases e : j = k
  · subst e
    simp only [stD, sDV, va_up_self]
    rw [hv.1, hv.2.1, hv.2.2]
    exact ⟨a1, a2, (by first | trivial | exact va_up_self _ _ _ | rfl), (by first | trivial | exact va_up_self _ _ _ | rfl), a5, a6⟩
  · simp only [stD, sDV, va_up_ne _ _ e]
    exact ⟨a1, a2, (va_up_ne (fm 15) _ (by omega)).trans a3, (va_up_ne (fm 16) _ (by omega)).trans a4, a5, a6⟩
theorem MRel_credit {fm : Nat → Nat → Int32} {fj : Nat → Nat → Int64} {σ : SS} (h : MRel fm fj σ) (k v : Nat) : MRel fm (va_up fj 20 (va_up (fj 20) k (lN v))) (stK σ k v) := by
  obtain ⟨h1, h2, h3, h6, h20, h11⟩ := h
  refine ⟨h1, h2, h3, h6, ?_, h11⟩
  show va_up (fj 20) k (lN v) = (fun i => lN (va_up (sKR σ) k v i))
  rw [h20]; exact (up_map lN (sKR σ) k v).symm
theorem MRel_served {fm : Nat → Nat → Int32} {fj : Nat → Nat → Int64} {σ : SS} (h : MRel fm fj σ) (k : Nat) (v : Int32) : MRel (va_up fm 19 (va_up (fm 19) k v)) fj σ := h
theorem MRel_th {fm : Nat → Nat → Int32} {fj : Nat → Nat → Int64} {σ : SS} (h : MRel fm fj σ) (x : Int32) : MRel fm fj (σ.1, σ.2.1, σ.2.2.1, σ.2.2.2.1, σ.2.2.2.2.1, x, σ.2.2.2.2.2.2) := h
theorem MRel_closed {fm : Nat → Nat → Int32} {fj : Nat → Nat → Int64} {σ : SS} (h : MRel fm fj σ) (x : Int64) : MRel fm (va_up fj 6 (va_up (fj 6) (sNC σ) x)) (σ.1, σ.2.1, σ.2.2.1, (sNC σ + 1, va_up (sCD σ) (sNC σ) x), σ.2.2.2.2) := by
  obtain ⟨h1, h2, h3, h6, h20, h11⟩ := h
  refine ⟨h1, h2, h3, ?_, h20, h11⟩
  show va_up (fj 6) (sNC σ) x = va_up (sCD σ) (sNC σ) x
  rw [h6]
theorem MRel_rule {fm : Nat → Nat → Int32} {fj : Nat → Nat → Int64} {σ : SS} (h : MRel fm fj σ) (x y z : Int32) : MRel (va_up (va_up (va_up (va_up (va_up fm 1 (va_up (fm 1) (sNR σ) x)) 2 (va_up (fm 2) (sNR σ) y)) 3 (va_up (fm 3) (sNR σ) z)) 4 (va_up (fm 4) (sNR σ) 0)) 5 (va_up (fm 5) (sNR σ) 1)) fj ((sNR σ + 1, va_up (sRV σ) (sNR σ) (x, y, z, 0, 0)), σ.2) := by
  obtain ⟨h1, h2, h3, h6, h20, h11⟩ := h
  refine ⟨fun k hk => ?_, h2, h3, h6, h20, h11⟩
  by_cases e : k = sNR σ
  · subst e
    simp only [sRV, va_up_self]
    exact ⟨va_up_self _ _ _, va_up_self _ _ _, va_up_self _ _ _, va_up_self _ _ _, by rfl⟩
  · obtain ⟨a1, a2, a3, a4, a5⟩ := h1 k (lt_s1 hk e)
    simp only [sRV, va_up_ne _ _ e]
    exact ⟨(va_up_ne (fm 1) _ e).trans a1, (va_up_ne (fm 2) _ e).trans a2, (va_up_ne (fm 3) _ e).trans a3, (va_up_ne (fm 4) _ e).trans a4, (va_up_ne (fm 5) _ e).trans a5⟩
theorem MRel_int {fm : Nat → Nat → Int32} {fj : Nat → Nat → Int64} {σ : SS} (h : MRel fm fj σ) (k : Nat) (y z : Int32) (hz : ¬ z = 0) : MRel (va_up (va_up fm 4 (va_up (fm 4) k y)) 5 (va_up (fm 5) k z)) fj ((sNR σ, va_up (sRV σ) k ((sRV σ k).1, (sRV σ k).2.1, (sRV σ k).2.2.1, y, z)), σ.2) := by
  obtain ⟨h1, h2, h3, h6, h20, h11⟩ := h
  refine ⟨fun j hj => ?_, h2, h3, h6, h20, h11⟩
  obtain ⟨a1, a2, a3, a4, a5⟩ := h1 j hj
  by_cases e : j = k
  · subst e
    simp only [sRV, va_up_self]
    exact ⟨a1, a2, a3, va_up_self _ _ _, by simp [dn1, hz]⟩
  · simp only [sRV, va_up_ne _ _ e]
    exact ⟨a1, a2, a3, (va_up_ne (fm 4) _ e).trans a4, (va_up_ne (fm 5) _ e).trans a5⟩
theorem MRel_loan {fm : Nat → Nat → Int32} {fj : Nat → Nat → Int64} {σ : SS} (h : MRel fm fj σ) (i pn k : Nat) (d : Int64) (it' : Nat → Option Nat) : MRel (va_up (va_up (va_up (va_up fm 7 (va_up (fm 7) (sNL σ + 1) (nI i))) 8 (va_up (fm 8) (sNL σ + 1) (nI pn))) 9 (va_up (fm 9) (sNL σ + 1) (nI k))) 10 (va_up (fm 10) (sNL σ + 1) 1)) (va_up fj 12 (va_up (fj 12) (sNL σ + 1) d)) (σ.1, (sNL σ + 1, va_up (sLV σ) (sNL σ) (i, pn, k, d, 1, 0)), σ.2.2.1, σ.2.2.2.1, σ.2.2.2.2.1, sTH σ, it') := by
  obtain ⟨h1, h2, h3, h6, h20, h11⟩ := h
  refine ⟨h1, fun j hj => ?_, h3, h6, h20, fun j hj => h11 j (Nat.le_of_succ_le hj)⟩
  by_cases e : j = sNL σ
  · subst e
    simp only [sLV, va_up_self]
    exact ⟨(by first | trivial | exact va_up_self _ _ _ | rfl), (by first | trivial | exact va_up_self _ _ _ | rfl), (by first | trivial | exact va_up_self _ _ _ | rfl), (by first | trivial | exact va_up_self _ _ _ | rfl), h11 _ (Nat.le_refl _), (by first | trivial | exact va_up_self _ _ _ | rfl)⟩
  · have hne : ¬ j + 1 = sNL σ + 1 := by omega
    obtain ⟨a1, a2, a3, a4, a5, a6⟩ := h2 j (lt_s1 hj e)
    simp only [sLV, va_up_ne _ _ e]
    exact ⟨(va_up_ne (fm 7) _ hne).trans a1, (va_up_ne (fm 8) _ hne).trans a2, (va_up_ne (fm 9) _ hne).trans a3, (va_up_ne (fm 10) _ hne).trans a4, a5, (va_up_ne (fj 12) _ hne).trans a6⟩
