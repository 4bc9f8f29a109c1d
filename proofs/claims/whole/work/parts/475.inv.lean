theorem up_if {α : Type} (f : Nat → α) (k : Nat) (v : α) (j : Nat) : va_up f k v j = if j = k then v else f j := rfl
theorem posD_hi (f : Nat → Int64) (x : Int64) : ∀ n j, posD f x n ≤ j → j < n → x < f j
  | 0, j, _, h => by omega
  | n + 1, j, h, hj => by
    rw [posD] at h
    by_cases hx : x < f n
    · rw [if_pos hx] at h
      by_cases e : j = n
      · subst e; exact hx
      · exact posD_hi f x n j h (by omega)
    · rw [if_neg hx] at h; omega
theorem posD_lo (f : Nat → Int64) (x : Int64) : ∀ n, 0 < posD f x n → ¬ x < f (posD f x n - 1)
  | 0, h => by simp [posD] at h
  | n + 1, h => by
    rw [posD] at h ⊢
    by_cases hx : x < f n
    · rw [if_pos hx] at h ⊢; exact posD_lo f x n h
    · rw [if_neg hx] at h ⊢; exact hx
def srt (n : Nat) (day : Nat → Int64) (od : Nat → Nat) : Prop := (∀ i, i < n → od i < n) ∧ (∀ d, d < n → ∃ i, i < n ∧ od i = d) ∧ ∀ i j, i < j → j < n → day (od i) < day (od j) ∨ (day (od i) = day (od j) ∧ od i < od j)
theorem i64_lt {x y : Int64} : x < y ↔ x.toInt < y.toInt := Int64.lt_iff_toInt_lt
theorem i64_eq {x y : Int64} : x = y ↔ x.toInt = y.toInt := Int64.toInt_inj.symm
theorem srt_ins {n : Nat} {day : Nat → Int64} {od : Nat → Nat} {x : Int64} (h : srt n day od) (hx : day n = x) : srt (n + 1) day (insO od n (posD (fun j => day (od j)) x n)) := by
  obtain ⟨h1, h2, h3⟩ := h
  generalize hp : posD (fun j => day (od j)) x n = p
  have hpn : p ≤ n := by rw [← hp]; exact posD_le _ _ _
  have hhi : ∀ j, p ≤ j → j < n → x < day (od j) := fun j hj hn => posD_hi (fun j => day (od j)) x n j (by rw [hp]; exact hj) hn
  have hlo : ∀ j, j < p → ¬ x < day (od j) := fun j hj => by
    have hl := posD_lo (fun j => day (od j)) x n (by rw [hp]; omega)
    rw [hp] at hl
    by_cases e : j = p - 1
    · subst e; exact hl
    · rcases h3 j (p - 1) (by omega) (by omega) with q | ⟨q, -⟩
      · intro hc
        rw [i64_lt] at q hc hl
        omega
      · rw [q]; exact hl
  refine ⟨fun i hi => ?_, fun d hd => ?_, fun i j hij hj => ?_⟩
  · unfold insO
    by_cases a : i < p
    · rw [if_pos a]; have := h1 i (by omega); omega
    · rw [if_neg a]
      by_cases b : i = p
      · rw [if_pos b]; omega
      · rw [if_neg b]; have := h1 (i - 1) (by omega); omega
  · by_cases e : d = n
    · refine ⟨p, by omega, ?_⟩
      simp [insO, e]
    · obtain ⟨i, hi, hd2⟩ := h2 d (by omega)
      by_cases a : i < p
      · exact ⟨i, by omega, by simp [insO, a, hd2]⟩
      · refine ⟨i + 1, by omega, ?_⟩
        have b1 : ¬ i + 1 < p := by omega
        have b2 : ¬ i + 1 = p := by omega
        simp [insO, b1, b2, hd2]
  · unfold insO
    by_cases a : i < p
    · rw [if_pos a]
      by_cases b : j < p
      · rw [if_pos b]; exact h3 i j hij (by omega)
      · rw [if_neg b]
        by_cases c : j = p
        · rw [if_pos c, hx]
          have hl := hlo i a
          have hi := h1 i (by omega)
          by_cases e : day (od i) = x
          · exact Or.inr ⟨e, hi⟩
          · refine Or.inl ?_
            rw [i64_lt] at hl ⊢
            rw [i64_eq] at e
            omega
        · rw [if_neg c]; exact h3 i (j - 1) (by omega) (by omega)
    · rw [if_neg a]
      have b : ¬ j < p := by omega
      have c : ¬ j = p := by omega
      rw [if_neg b, if_neg c]
      by_cases e : i = p
      · rw [if_pos e, hx]
        exact Or.inl (hhi (j - 1) (by omega) (by omega))
      · rw [if_neg e]; exact h3 (i - 1) (j - 1) (by omega) (by omega)
theorem srt_day {n : Nat} {day day' : Nat → Int64} {od : Nat → Nat} (h : srt n day od) (hd : ∀ k, k < n → day' k = day k) : srt n day' od := by
  obtain ⟨h1, h2, h3⟩ := h
  refine ⟨h1, h2, fun i j hij hj => ?_⟩
  rw [hd _ (h1 i (by omega)), hd _ (h1 j hj)]
  exact h3 i j hij hj
theorem Inv_enL {σ : SS} (hV : Inv σ) {k : Nat} (hk : k < sNL σ) (hst : (sLV σ k).2.2.2.2.1 ≠ 2) : Inv (enL σ k) := by
  obtain ⟨hb, hr, hl, hd, hi, ho⟩ := hV
  refine ⟨hb, hr, fun j hj => ?_, hd, fun i hi0 j => ?_, ho⟩
  · show (va_up (sLV σ) k _ j).1 < 60 ∧ _
    by_cases e : j = k
    · subst e
      obtain ⟨a1, a2, a3, a4, a5, a6, a7⟩ := hl j hj
      simp only [enL, sLV, sNL, sNR, sND, va_up_self]
      exact ⟨a1, a2, a3, ⟨by decide, by decide⟩, a5, (fun h => by cases h), (fun h => by cases h)⟩
    · have := hl j hj
      simp only [enL, sLV, sNL, sNR, sND, va_up_ne _ _ e]
      exact this
  · have e0 := hi i hi0 j
    show va_up (sIT σ) (sLV σ k).1 none i = some j ↔ j < sNL σ ∧ (va_up (sLV σ) k _ j).1 = i ∧ (va_up (sLV σ) k _ j).2.2.2.2.1 ≠ 2
    by_cases e : j = k
    · subst e
      rw [va_up_self]
      constructor
      · intro h
        by_cases e2 : i = (sLV σ j).1
        · rw [e2, va_up_self] at h; cases h
        · rw [va_up_ne _ _ e2] at h
          exact absurd (e0.mp h).2.1.symm e2
      · intro h; exact absurd rfl h.2.2
    · rw [va_up_ne (sLV σ) _ e]
      by_cases e2 : i = (sLV σ k).1
      · rw [e2, va_up_self]
        constructor
        · intro h; cases h
        · intro h
          have hi1 := hi (sLV σ k).1 (hl k hk).1
          have q1 := (hi1 k).mpr ⟨hk, rfl, hst⟩
          have q2 := (hi1 j).mpr h
          rw [q1] at q2
          exact absurd (Option.some.inj q2).symm e
      · rw [va_up_ne _ _ e2]; exact e0
theorem Inv_adD {σ : SS} (hV : Inv σ) {k am : Nat} {so : Int32} {d : Int64} (hk : k < sNL σ) (ham : am ≤ 10000000) (hn : sND σ < 200) : Inv (adD σ k am so d) := by
  obtain ⟨hb, hr, hl, hd, hi, ho⟩ := hV
  refine ⟨⟨hb.1, hb.2.1, Nat.succ_le_of_lt hn, hb.2.2.2⟩, hr, fun j hj => ?_, fun j hj => ?_, hi, ?_⟩
  · obtain ⟨a1, a2, a3, a4, a5, a6, a7⟩ := hl j hj
    exact ⟨a1, a2, a3, a4, Nat.le_succ_of_le a5, a6, a7⟩
  · show (va_up (sDV σ) (sND σ) _ j).1 < sNL σ ∧ (va_up (sDV σ) (sND σ) _ j).2.1 ≤ 10000000 ∧ (va_up (sDV σ) (sND σ) _ j).2.2.1 + (va_up (sDV σ) (sND σ) _ j).2.2.2.1 ≤ (va_up (sDV σ) (sND σ) _ j).2.1
    by_cases e : j = sND σ
    · subst e; rw [va_up_self]; exact ⟨hk, ham, Nat.le_refl _⟩
    · rw [va_up_ne _ _ e]; exact hd j (lt_s1 hj e)
  · have h1 : srt (sND σ) (fun j => (va_up (sDV σ) (sND σ) (k, am, am, 0, so, d) j).2.2.2.2.2) (sOD σ) := srt_day (day := fun j => (sDV σ j).2.2.2.2.2) ho (fun j hj => by
      show (va_up (sDV σ) (sND σ) _ j).2.2.2.2.2 = _
      rw [va_up_ne _ _ (by omega)])
    have h2 := srt_ins (x := d) h1 (by show (va_up (sDV σ) (sND σ) _ (sND σ)).2.2.2.2.2 = d; rw [va_up_self])
    have e : posD (fun j => (va_up (sDV σ) (sND σ) (k, am, am, 0, so, d) (sOD σ j)).2.2.2.2.2) d (sND σ) = posD (dayF σ) d (sND σ) := by
      have : ∀ n, n ≤ sND σ → posD (fun j => (va_up (sDV σ) (sND σ) (k, am, am, 0, so, d) (sOD σ j)).2.2.2.2.2) d n = posD (dayF σ) d n := by
        intro n
        induction n with
        | zero => intro _; rfl
        | succ n ih =>
          intro hn2
          have hne : ¬ sOD σ n = sND σ := by have := ho.1 n (by omega); omega
          rw [posD, posD, ih (by omega)]
          simp only [va_up_ne _ _ hne]
          rfl
      exact this _ (Nat.le_refl _)
    rw [e] at h2
    exact h2
theorem Inv_stD {σ : SS} (hV : Inv σ) {k : Nat} {v : DV} (hk : k < sND σ) (h1 : v.1 = (sDV σ k).1) (h2 : v.2.1 = (sDV σ k).2.1) (h3 : v.2.2.1 + v.2.2.2.1 ≤ v.2.1) (h4 : v.2.2.2.2.2 = (sDV σ k).2.2.2.2.2) : Inv (stD σ k v) := by
  obtain ⟨hb, hr, hl, hd, hi, ho⟩ := hV
  refine ⟨hb, hr, hl, fun j hj => ?_, hi, ?_⟩
  · show (va_up (sDV σ) k v j).1 < sNL σ ∧ (va_up (sDV σ) k v j).2.1 ≤ 10000000 ∧ (va_up (sDV σ) k v j).2.2.1 + (va_up (sDV σ) k v j).2.2.2.1 ≤ (va_up (sDV σ) k v j).2.1
    by_cases e : j = k
    · subst e; rw [va_up_self, h1, h2]; exact ⟨(hd j hj).1, (hd j hj).2.1, by rw [← h2]; exact h3⟩
    · rw [va_up_ne _ _ e]; exact hd j hj
  · have hh : srt (sND σ) (fun j => (va_up (sDV σ) k v j).2.2.2.2.2) (sOD σ) := srt_day (day := fun j => (sDV σ j).2.2.2.2.2) ho (fun j hj => by
      show (va_up (sDV σ) k v j).2.2.2.2.2 = (sDV σ j).2.2.2.2.2
      by_cases e : j = k
      · subst e; rw [va_up_self, h4]
      · rw [va_up_ne _ _ e])
    exact hh
theorem Inv_zeD {σ : SS} (hV : Inv σ) {k : Nat} (hk : k < sND σ) : Inv (zeD σ k) := Inv_stD hV hk rfl rfl (by have := (hV.2.2.2.1 k hk).2.2; show 0 + (sDV σ k).2.2.2.1 ≤ (sDV σ k).2.1; omega) rfl
theorem Inv_stK {σ : SS} (hV : Inv σ) {k v : Nat} : Inv (stK σ k v) := hV
theorem Inv_lost {σ : SS} (hV : Inv σ) {k : Nat} (hk : k < sNL σ) (hst : (sLV σ k).2.2.2.2.1 = 1) {n : Nat} (h0 : 0 < n) (hn : n ≤ sND σ) : Inv (σ.1, (sNL σ, va_up (sLV σ) k ((sLV σ k).1, (sLV σ k).2.1, (sLV σ k).2.2.1, (sLV σ k).2.2.2.1, 3, n)), σ.2.2) := by
  obtain ⟨hb, hr, hl, hd, hi, ho⟩ := hV
  refine ⟨hb, hr, fun j hj => ?_, hd, fun i hi0 j => ?_, ho⟩
  · by_cases e : j = k
    · subst e
      obtain ⟨a1, a2, a3, a4, a5, a6, a7⟩ := hl j hj
      simp only [sLV, sNL, sNR, sND, va_up_self]
      exact ⟨a1, a2, a3, ⟨by decide, by decide⟩, hn, (fun h => by cases h), fun _ => h0⟩
    · have := hl j hj
      simp only [sLV, sNL, sNR, sND, va_up_ne _ _ e]
      exact this
  · have e0 := hi i hi0 j
    by_cases e : j = k
    · subst e
      show sIT σ i = some j ↔ j < sNL σ ∧ (va_up (sLV σ) j _ j).1 = i ∧ (va_up (sLV σ) j _ j).2.2.2.2.1 ≠ 2
      rw [va_up_self, e0, hst]
      exact ⟨fun h => ⟨h.1, h.2.1, show (3 : Nat) ≠ 2 by decide⟩, fun h => ⟨h.1, h.2.1, by decide⟩⟩
    · show sIT σ i = some j ↔ j < sNL σ ∧ (va_up (sLV σ) k _ j).1 = i ∧ (va_up (sLV σ) k _ j).2.2.2.2.1 ≠ 2
      rw [va_up_ne _ _ e]; exact e0
theorem none_up {g : hG} {a b : Nat} {x : va_E} (h : va_up g a (some x) b = none) : g b = none := by
  by_cases e : b = a
  · subst e; rw [va_up_self] at h; cases h
  · rw [va_up_ne g _ e] at h; exact h
theorem gr_up {F : Nat → Prop} {g u : hG} (h : ∀ a, u a = none → g a = none) : ∀ a, gr F u a → gr F g a := fun a q => q.elim Or.inl (fun z => Or.inr (h a z))
theorem late_le {σ : SS} (hV : Inv σ) {k : Nat} (hk : k < sNL σ) {d : Int64} (h : 0 < lateJ σ k d) : (lateJ σ k d).toInt.toNat ≤ 10000000 := by
  obtain ⟨-, ⟨q, hq, hc⟩, -⟩ := hV.2.1 _ (hV.2.2.1 k hk).2.2.1
  have key : lateJ σ k d = 0 ∨ lateJ σ k d ≤ lN q := by
    unfold lateJ rvCents mnJ
    rw [hc, nI_l (by omega)]
    split
    · exact Or.inl rfl
    · right
      split
      · exact Int64.le_refl _
      · rename_i h2; exact Int64.not_lt.mp h2
  rcases key with e | e
  · rw [e] at h; exact absurd h (by decide)
  · rw [Int64.le_iff_toInt_le, pk_lT (by omega)] at e
    omega
theorem cell_new (aR : Nat → Nat) (L : Nat → LV) (k : Nat) (am : Int64) (so : Int32) (d : Int64) (h : 0 < am) : cDe (nI (L k).2.1) (aR (L k).2.2.1) so am d am 0 = cDv (dcOf aR L (k, am.toInt.toNat, am.toInt.toNat, 0, so, d)) := by
  show cDe (nI (L k).2.1) (aR (L k).2.2.1) so am d am 0 = cDe (nI (L k).2.1) (aR (L k).2.2.1) so (lN am.toInt.toNat) d (lN am.toInt.toNat) (lN 0)
  rw [lN_toNat h]; rfl
/-- a debt more, by DebtRows.add -/
theorem RC_add {F : Nat → Prop} {t : Nat → ClassId} {g : hG} {ad aR aL aD : Nat → Nat} {fR fL fI fN fB : Nat → Option Nat} {σ : SS} (h : RC F t g ad aR aL aD fR fL fI fN fB σ) (hV : Inv σ) {o k : Nat} {am d : Int64} {so : Int32} (ho : g o = none) (ham : 0 < am) (hn : sND σ < 200) :
    RCx (gr F g) t ad (adD σ k am.toInt.toNat so d) (bAdd t g (ad 4) (ad 7) (ad 8) (sND σ) fN fB (insP (fun j => dcOf aR (sLV σ) (sDV σ (sOD σ j))) d (sND σ)) o (cDe (nI (sLV σ k).2.1) (aR (sLV σ k).2.2.1) so am d am 0)) ∧ Keep F g (bAdd t g (ad 4) (ad 7) (ad 8) (sND σ) fN fB (insP (fun j => dcOf aR (sLV σ) (sDV σ (sOD σ j))) d (sND σ)) o (cDe (nI (sLV σ k).2.1) (aR (sLV σ k).2.2.1) so am d am 0)) := by
  have hF := h.2.2.2.2.2.2.2.2.2.2.2.2.2.2.2.1
  rw [insP_pos, cell_new aR (sLV σ) k am so d ham]
  refine ⟨⟨_, _, _, _, _, _, _, _, RC.debtNew h o (posD (dayF σ) d (sND σ)) (k, am.toInt.toNat, am.toInt.toNat, 0, so, d) ho hV (posD_le _ _ _) hn⟩, ?_⟩
  exact Keep.up (Keep.up (Keep.up (Keep.up Keep.rf (Or.inr ho)) (Or.inl (hF 8 (by decide)))) (Or.inl (hF 7 (by decide)))) (Or.inl (hF 4 (by decide)))
/-- one step behind another -/
theorem step2 {F : Nat → Prop} {t : Nat → ClassId} {ad : Nat → Nat} {σ : SS} {g G u : hG} (h0 : ∀ a, G a = none → g a = none) (hk : Keep F g G) (h : RCx (gr F G) t ad σ u ∧ Keep F G u) : RCx (gr F g) t ad σ u ∧ Keep F g u :=
  ⟨h.1.mono (gr_up h0), hk.trans (fun b hb hn => h.2 b (fun q => hb (Or.inl q)) hn)⟩
theorem RC_add0 {F : Nat → Prop} {t : Nat → ClassId} {g : hG} {ad aR aL aD : Nat → Nat} {fR fL fI fN fB : Nat → Option Nat} {σ : SS} (h : RC F t g ad aR aL aD fR fL fI fN fB σ) (hV : Inv σ) {o k : Nat} {am d : Int64} {so : Int32} (ho : g o = none) (ham : 0 < am) (hn : sND σ < 200) :
    RC (gr F g) t (bAdd t g (ad 4) (ad 7) (ad 8) (sND σ) fN fB (insP (fun j => dcOf aR (sLV σ) (sDV σ (sOD σ j))) d (sND σ)) o (cDe (nI (sLV σ k).2.1) (aR (sLV σ k).2.2.1) so am d am 0)) ad aR aL (va_up aD (sND σ) o) fR fL fI (va_up fN (sND σ) (some o)) (insF fB (sND σ) (posD (dayF σ) d (sND σ)) o) (adD σ k am.toInt.toNat so d) := by
  rw [insP_pos, cell_new aR (sLV σ) k am so d ham]
  exact RC.debtNew h o (posD (dayF σ) d (sND σ)) (k, am.toInt.toNat, am.toInt.toNat, 0, so, d) ho hV (posD_le _ _ _) hn
theorem pos64 {y M : Int32} (h : wi y 1 M = true) : 0 < y.toInt64 := by
  have h1 := (wi_iff.mp h).1
  rw [Int32.le_iff_toInt_le] at h1
  rw [Int64.lt_iff_toInt_lt, Int32.toInt_toInt64]
  have e1 : (1 : Int32).toInt = 1 := by decide
  have e0 : (0 : Int64).toInt = 0 := by decide
  omega
theorem toNat64 (y : Int32) : y.toInt64.toInt.toNat = y.toInt.toNat := by rw [Int32.toInt_toInt64]
theorem lost_cell {aR aD : Nat → Nat} {v : LV} {n o : Nat} (h : v.2.2.2.2.1 = 1) (hl : v.2.2.2.2.2 ≤ n) : (.inr (4, [.int (lcOf aR (va_up aD n o) v).1, .int (lcOf aR (va_up aD n o) v).2.1, .ref (lcOf aR (va_up aD n o) v).2.2.1, .long (lcOf aR (va_up aD n o) v).2.2.2.1, .ref o, .int (lcOf aR (va_up aD n o) v).2.2.2.2.2]) : va_E) = cLc (lcOf aR (va_up aD n o) (v.1, v.2.1, v.2.2.1, v.2.2.2.1, 3, n + 1)) := by
  simp [lcOf, va_up, h, va_rf]
theorem lostN_no {σ : SS} {x : Int32} (h : wi x 0 59 = false) : lostN σ x = none := by simp [lostN, h]
theorem lostN_it {σ : SS} {i : Nat} (hi : i < 60) (h : sIT σ i = none) : lostN σ (nI i) = none := by
  rw [lostN, if_pos (wi_pl_of (M := 59) (n := 59) rfl (by decide) (by omega)), nI_k0 (by omega), h]
theorem lostN_st {σ : SS} {i k : Nat} (hi : i < 60) (h : sIT σ i = some k) : lostN σ (nI i) = if (sLV σ k).2.2.2.2.1 = 3 then some k else none := by
  rw [lostN, if_pos (wi_pl_of (M := 59) (n := 59) rfl (by decide) (by omega)), nI_k0 (by omega), h]
theorem st_of {σ : SS} (hV : Inv σ) {k : Nat} (hk : k < sNL σ) (h2 : (sLV σ k).2.2.2.2.1 ≠ 2) : (sLV σ k).2.2.2.2.1 = 3 ↔ ¬ (sLV σ k).2.2.2.2.2 = 0 := by
  obtain ⟨-, -, -, hb, -, h1, h3⟩ := hV.2.2.1 k hk
  constructor
  · intro h; have := h3 h; omega
  · intro h
    by_cases e : (sLV σ k).2.2.2.2.1 = 1
    · exact absurd (h1 e) h
    · omega
