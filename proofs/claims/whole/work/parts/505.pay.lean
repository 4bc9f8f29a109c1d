/-! A payment, along the order of the debts. -/
def pyS (σ : SS) (dv : Nat → DV) : SS := (σ.1, σ.2.1, (sND σ, dv, sOD σ), σ.2.2.2)
def pyT (v : DV) (pu : Nat) : DV := (v.1, v.2.1, v.2.2.1 - min pu v.2.2.1, v.2.2.2.1 + min pu v.2.2.1, v.2.2.2.2.1, v.2.2.2.2.2)
def pyC (σ : SS) (q : Nat) (s : Nat × Nat × (Nat → DV)) (d : Nat) : Prop := (sLV σ (s.2.2 d).1).2.1 = q ∧ 0 < s.1 ∧ 0 < (s.2.2 d).2.2.1
def pyU (s : Nat × Nat × (Nat → DV)) (d : Nat) : Nat × Nat × (Nat → DV) := (s.1 - min s.1 (s.2.2 d).2.2.1, s.2.1 + 1, va_up s.2.2 d (pyT (s.2.2 d) s.1))
noncomputable def payF (σ : SS) (q c : Nat) : Nat → Nat × Nat × (Nat → DV)
  | 0 => (sKR σ q + c, 0, sDV σ)
  | i + 1 => @ite _ (pyC σ q (payF σ q c i) (sOD σ i)) (Classical.propDecidable _) (pyU (payF σ q c i) (sOD σ i)) (payF σ q c i)
theorem payF_y {σ : SS} {q c i : Nat} {s : Nat × Nat × (Nat → DV)} (h : payF σ q c i = s) (hc : pyC σ q s (sOD σ i)) : payF σ q c (i + 1) = pyU s (sOD σ i) := by
  subst h; rw [payF, if_pos hc]
theorem payF_n {σ : SS} {q c i : Nat} {s : Nat × Nat × (Nat → DV)} (h : payF σ q c i = s) (hc : ¬ pyC σ q s (sOD σ i)) : payF σ q c (i + 1) = s := by
  subst h; rw [payF, if_neg hc]
theorem payF_z {σ : SS} {q c i : Nat} {s : Nat × Nat × (Nat → DV)} (h : payF σ q c i = s) (h0 : s.1 = 0) : ∀ j, payF σ q c (i + j) = s
  | 0 => h
  | j + 1 => payF_n (payF_z h h0 j) (fun hc => by have := hc.2.1; omega)
theorem payF_b {σ : SS} {q c : Nat} : ∀ i, (payF σ q c i).1 ≤ sKR σ q + c ∧ (payF σ q c i).2.1 ≤ i
  | 0 => ⟨Nat.le_refl _, Nat.le_refl _⟩
  | i + 1 => by
    have ih := payF_b (σ := σ) (q := q) (c := c) i
    by_cases hc : pyC σ q (payF σ q c i) (sOD σ i)
    · rw [payF_y rfl hc]; exact ⟨Nat.le_trans (Nat.sub_le _ _) ih.1, Nat.succ_le_succ ih.2⟩
    · rw [payF_n rfl hc]; exact ⟨ih.1, Nat.le_succ_of_le ih.2⟩
theorem Inv_pyT {σ : SS} (hV : Inv σ) {d pu : Nat} (hd : d < sND σ) : Inv (stD σ d (pyT (sDV σ d) pu)) := by
  have h := (hV.2.2.2.1 d hd).2.2
  refine Inv_stD hV hd rfl rfl ?_ rfl
  show (sDV σ d).2.2.1 - min pu (sDV σ d).2.2.1 + ((sDV σ d).2.2.2.1 + min pu (sDV σ d).2.2.1) ≤ (sDV σ d).2.1
  have : min pu (sDV σ d).2.2.1 ≤ (sDV σ d).2.2.1 := Nat.min_le_right _ _
  omega
theorem payF_inv {σ : SS} (hV : Inv σ) {q c : Nat} : ∀ i, i ≤ sND σ → Inv (pyS σ (payF σ q c i).2.2)
  | 0, _ => hV
  | i + 1, hi => by
    have ih := payF_inv hV (q := q) (c := c) i (by omega)
    by_cases hc : pyC σ q (payF σ q c i) (sOD σ i)
    · rw [payF_y rfl hc]
      exact Inv_pyT ih (pu := (payF σ q c i).1) (hV.2.2.2.2.2.1 i (by omega))
    · rw [payF_n rfl hc]; exact ih
def spPay (σ : SS) (x y : Int32) : Int32 × SS → Prop := fun r => if (wi x 0 29 && wi y 1 10000000) = true then r = (nI (payF σ x.toInt.toNat y.toInt.toNat (sND σ)).2.1, stK (pyS σ (payF σ x.toInt.toNat y.toInt.toNat (sND σ)).2.2) x.toInt.toNat (payF σ x.toInt.toNat y.toInt.toNat (sND σ)).1) else r = (-1, σ)
theorem mnJ_N {a b : Nat} (ha : a < 2 ^ 62) (hb : b < 2 ^ 62) : mnJ (lN a) (lN b) = lN (min a b) := by
  unfold mnJ
  by_cases h : b < a
  · rw [if_pos ((pk_lLT (by omega) (by omega)).mpr h), Nat.min_eq_right (by omega)]
  · rw [if_neg (fun q => h ((pk_lLT (by omega) (by omega)).mp q)), Nat.min_eq_left (by omega)]
theorem lN_le0 {a : Nat} (ha : a < 2 ^ 62) (h : lN a ≤ 0) : a = 0 := by
  have := (pk_lLE (a := a) (b := 0) (by omega) (by decide)).mp h
  omega
theorem take_cell {aR : Nat → Nat} {L : Nat → LV} {v : DV} {pu : Nat} (hp : pu < 2 ^ 62) (hv : v.2.2.1 < 2 ^ 62) : cDe (dcOf aR L v).1 (dcOf aR L v).2.1 (dcOf aR L v).2.2.1 (dcOf aR L v).2.2.2.1 (dcOf aR L v).2.2.2.2.1 ((dcOf aR L v).2.2.2.2.2.1 - mnJ (lN pu) (dcOf aR L v).2.2.2.2.2.1) ((dcOf aR L v).2.2.2.2.2.2 + mnJ (lN pu) (dcOf aR L v).2.2.2.2.2.1) = cDv (dcOf aR L (pyT v pu)) := by
  have e : mnJ (lN pu) (dcOf aR L v).2.2.2.2.2.1 = lN (min pu v.2.2.1) := mnJ_N hp hv
  rw [e]
  show cDe _ _ _ _ _ (lN v.2.2.1 - lN (min pu v.2.2.1)) (lN v.2.2.2.1 + lN (min pu v.2.2.1)) = cDe _ _ _ _ _ (lN (v.2.2.1 - min pu v.2.2.1)) (lN (v.2.2.2.1 + min pu v.2.2.1))
  rw [lN_sub (Nat.min_le_right _ _), lN_add]; rfl
theorem wi_c {y : Int32} (h : wi y 1 10000000 = true) : ∃ c0 : Nat, c0 ≤ 10000000 ∧ y = nI c0 := by
  obtain ⟨h1, h2⟩ := wi_iff.mp h
  rw [Int32.le_iff_toInt_le] at h1 h2
  have e1 : (1 : Int32).toInt = 1 := by decide
  have e2 : (10000000 : Int32).toInt = 10000000 := by decide
  refine ⟨y.toInt.toNat, by omega, ?_⟩
  rw [← Int32.toInt_inj, nI_toInt (by omega)]
  omega
theorem nI_k9 {k : Nat} (h : k ≤ 10000000) : (nI k).toInt.toNat = k := by rw [nI_toInt (by omega)]; omega
