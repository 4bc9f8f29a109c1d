/-! The reference holds the state: one object, 20 arrays. -/
abbrev mOb (ma : Nat → Nat) (tv a b c d th : Int32) : va_E := .inr (6, [.int tv, .int a, .int b, .int c, .int d, .ref (ma 1), .ref (ma 2), .ref (ma 3), .ref (ma 4), .ref (ma 5), .ref (ma 6), .ref (ma 7), .ref (ma 8), .ref (ma 9), .ref (ma 10), .ref (ma 11), .ref (ma 12), .ref (ma 13), .ref (ma 14), .ref (ma 15), .ref (ma 16), .ref (ma 17), .ref (ma 18), .ref (ma 19), .ref (ma 20), .int th])
def mcell (t : Nat → ClassId) (fm : Nat → Nat → Int32) (fj : Nat → Nat → Int64) (i : Nat) : va_E :=
  if i = 6 then arJ t 100 (fj 6) else if i = 12 then arJ t 121 (fj 12) else if i = 18 then arJ t 201 (fj 18) else if i = 20 then arJ t 30 (fj 20) else if i = 19 then arZ t 201 (fm 19) else if i ≤ 5 then arI t 10 (fm i) else if i ≤ 12 then arI t 121 (fm i) else arI t 201 (fm i)
theorem mcell_eq {t : Nat → ClassId} {fm fm' : Nat → Nat → Int32} {fj fj' : Nat → Nat → Int64} {i : Nat} (h1 : fm' i = fm i) (h2 : fj' i = fj i) : mcell t fm' fj' i = mcell t fm fj i := by
  unfold mcell
  by_cases e6 : i = 6
  · subst e6; simp [h2]
  by_cases e12 : i = 12
  · subst e12; simp [h2]
  by_cases e18 : i = 18
  · subst e18; simp [h2]
  by_cases e20 : i = 20
  · subst e20; simp [h2]
  by_cases e19 : i = 19
  · subst e19; simp [h1]
  simp [e6, e12, e18, e20, e19, h1]
def MC (t : Nat → ClassId) (g : hG) (ma : Nat → Nat) (tv a b c d th : Int32) (fm : Nat → Nat → Int32) (fj : Nat → Nat → Int64) : Prop :=
  g (ma 0) = some (mOb ma tv a b c d th) ∧ (∀ i, 1 ≤ i → i ≤ 20 → g (ma i) = some (mcell t fm fj i)) ∧ inj ma 21
theorem mne {ma : Nat → Nat} (h : inj ma 21) (i j : Nat) (hi : i < 21) (hj : j < 21) (hn : i ≠ j) : ma i ≠ ma j := fun e => hn (h i j hi hj e)
theorem MC.put {t : Nat → ClassId} {g : hG} {ma : Nat → Nat} {tv a b c d th : Int32} {fm : Nat → Nat → Int32} {fj : Nat → Nat → Int64} (h : MC t g ma tv a b c d th fm fj) (tv' a' b' c' d' th' : Int32) : MC t (va_up g (ma 0) (some (mOb ma tv' a' b' c' d' th'))) ma tv' a' b' c' d' th' fm fj :=
  ⟨va_up_self _ _ _, fun i h1 h2 => up_at (h.2.1 i h1 h2) (mne h.2.2 i 0 (by omega) (by decide) (by omega)), h.2.2⟩
theorem MC.st {t : Nat → ClassId} {g : hG} {ma : Nat → Nat} {tv a b c d th : Int32} {fm fm' : Nat → Nat → Int32} {fj fj' : Nat → Nat → Int64} (h : MC t g ma tv a b c d th fm fj) (i : Nat) (hi : 1 ≤ i ∧ i ≤ 20) (h1 : ∀ j, j ≠ i → fm' j = fm j) (h2 : ∀ j, j ≠ i → fj' j = fj j) : MC t (va_up g (ma i) (some (mcell t fm' fj' i))) ma tv a b c d th fm' fj' := by
  refine ⟨up_at h.1 (mne h.2.2 0 i (by decide) (by omega) (by omega)), fun j q1 q2 => ?_, h.2.2⟩
  by_cases e : j = i
  · subst e; exact va_up_self _ _ _
  · rw [mcell_eq (h1 j e) (h2 j e)]
    exact up_at (h.2.1 j q1 q2) (mne h.2.2 j i (by omega) (by omega) e)
theorem MC.ai {t : Nat → ClassId} {g : hG} {ma : Nat → Nat} {tv a b c d th : Int32} {fm : Nat → Nat → Int32} {fj : Nat → Nat → Int64} (h : MC t g ma tv a b c d th fm fj) (i : Nat) (hi : 1 ≤ i ∧ i ≤ 20) (k : Nat) (v : Int32) : MC t (va_up g (ma i) (some (mcell t (va_up fm i (va_up (fm i) k v)) fj i))) ma tv a b c d th (va_up fm i (va_up (fm i) k v)) fj :=
  MC.st h i hi (fun j e => va_up_ne fm _ e) (fun j e => rfl)
theorem MC.aj {t : Nat → ClassId} {g : hG} {ma : Nat → Nat} {tv a b c d th : Int32} {fm : Nat → Nat → Int32} {fj : Nat → Nat → Int64} (h : MC t g ma tv a b c d th fm fj) (i : Nat) (hi : 1 ≤ i ∧ i ≤ 20) (k : Nat) (v : Int64) : MC t (va_up g (ma i) (some (mcell t fm (va_up fj i (va_up (fj i) k v)) i))) ma tv a b c d th fm (va_up fj i (va_up (fj i) k v)) :=
  MC.st h i hi (fun j e => rfl) (fun j e => va_up_ne fj _ e)
def dn1 (x : Int32) : Int32 := if x = 0 then 1 else x
def MRel (fm : Nat → Nat → Int32) (fj : Nat → Nat → Int64) (σ : SS) : Prop :=
  (∀ k, k < sNR σ → fm 1 k = (sRV σ k).1 ∧ fm 2 k = (sRV σ k).2.1 ∧ fm 3 k = (sRV σ k).2.2.1 ∧ fm 4 k = (sRV σ k).2.2.2.1 ∧ fm 5 k = dn1 (sRV σ k).2.2.2.2) ∧
  (∀ k, k < sNL σ → fm 7 (k + 1) = nI (sLV σ k).1 ∧ fm 8 (k + 1) = nI (sLV σ k).2.1 ∧ fm 9 (k + 1) = nI (sLV σ k).2.2.1 ∧ fm 10 (k + 1) = nI (sLV σ k).2.2.2.2.1 ∧ fm 11 (k + 1) = nI (sLV σ k).2.2.2.2.2 ∧ fj 12 (k + 1) = (sLV σ k).2.2.2.1) ∧
  (∀ k, k < sND σ → fm 13 (k + 1) = nI ((sDV σ k).1 + 1) ∧ fm 14 (k + 1) = nI (sDV σ k).2.1 ∧ fm 15 (k + 1) = nI (sDV σ k).2.2.1 ∧ fm 16 (k + 1) = nI (sDV σ k).2.2.2.1 ∧ fm 17 (k + 1) = (sDV σ k).2.2.2.2.1 ∧ fj 18 (k + 1) = (sDV σ k).2.2.2.2.2) ∧
  fj 6 = sCD σ ∧ fj 20 = (fun i => lN (sKR σ i)) ∧ ∀ k, sNL σ ≤ k → fm 11 (k + 1) = 0
def RMx (t : Nat → ClassId) (ma : Nat → Nat) (tv : Int32) (σ : SS) (g : hG) : Prop := ∃ fm fj, MC t g ma tv (nI (sNR σ)) (nI (sNL σ)) (nI (sND σ)) (nI (sNC σ)) (sTH σ) fm fj ∧ MRel fm fj σ
/-- the reference's cells -/
def mF (ma : Nat → Nat) : Nat → Prop := fun a => ∃ i, i < 21 ∧ a = ma i
theorem mF_i (ma : Nat → Nat) (i : Nat) (h : i < 21) : mF ma (ma i) := ⟨i, h, rfl⟩
theorem MC.keep {G : Nat → Prop} {t : Nat → ClassId} {g u : hG} {ma : Nat → Nat} {tv a b c d th : Int32} {fm : Nat → Nat → Int32} {fj : Nat → Nat → Int64} (h : MC t g ma tv a b c d th fm fj) (hk : Keep G g u) (hG : ∀ i, i < 21 → ¬ G (ma i)) : MC t u ma tv a b c d th fm fj := by
  have K : ∀ {i : Nat} {x : va_E}, i < 21 → g (ma i) = some x → u (ma i) = some x := fun {i x} hi hg => by
    rw [hk _ (hG i hi) (by rw [hg]; exact fun q => by cases q)]; exact hg
  exact ⟨K (by decide) h.1, fun i h1 h2 => K (by omega) (h.2.1 i h1 h2), h.2.2⟩
theorem wl_i {x y z : Int32} : wl x.toInt64 y.toInt64 z.toInt64 = wi x y z := by
  simp [wl, wi, Int64.le_iff_toInt_le, Int32.le_iff_toInt_le, Int32.toInt_toInt64]
