/-! The reference's payment: the next debt, along the order. -/
def nxt (σ : SS) (x : Int32) (f : Nat → Int32) : Nat → Nat
  | 0 => 0
  | n + 1 => if (nI (sLV σ (sDV σ n).1).2.1 = x ∧ f (n + 1) = 0) ∧ (nxt σ x f n = 0 ∨ (sDV σ n).2.2.2.2.2 < (sDV σ (nxt σ x f n - 1)).2.2.2.2.2) then n + 1 else nxt σ x f n
theorem nxt_le (σ : SS) (x : Int32) (f : Nat → Int32) : ∀ n, nxt σ x f n ≤ n
  | 0 => Nat.le_refl 0
  | n + 1 => by
    rw [nxt]; split
    · exact Nat.le_refl _
    · exact Nat.le_succ_of_le (nxt_le σ x f n)
theorem nxt_y {σ : SS} {x : Int32} {f : Nat → Int32} {n : Nat} (h : (nI (sLV σ (sDV σ n).1).2.1 = x ∧ f (n + 1) = 0) ∧ (nxt σ x f n = 0 ∨ (sDV σ n).2.2.2.2.2 < (sDV σ (nxt σ x f n - 1)).2.2.2.2.2)) : nxt σ x f (n + 1) = n + 1 := by rw [nxt, if_pos h]
theorem nxt_n {σ : SS} {x : Int32} {f : Nat → Int32} {n : Nat} (h : ¬ ((nI (sLV σ (sDV σ n).1).2.1 = x ∧ f (n + 1) = 0) ∧ (nxt σ x f n = 0 ∨ (sDV σ n).2.2.2.2.2 < (sDV σ (nxt σ x f n - 1)).2.2.2.2.2))) : nxt σ x f (n + 1) = nxt σ x f n := by rw [nxt, if_neg h]
theorem nxt_spec (σ : SS) (x : Int32) (f : Nat → Int32) : ∀ n, (nxt σ x f n = 0 ∧ ∀ d, d < n → ¬ (nI (sLV σ (sDV σ d).1).2.1 = x ∧ f (d + 1) = 0)) ∨ ∃ b, b < n ∧ nxt σ x f n = b + 1 ∧ (nI (sLV σ (sDV σ b).1).2.1 = x ∧ f (b + 1) = 0) ∧ ∀ d, d < n → (nI (sLV σ (sDV σ d).1).2.1 = x ∧ f (d + 1) = 0) → (sDV σ b).2.2.2.2.2 < (sDV σ d).2.2.2.2.2 ∨ ((sDV σ b).2.2.2.2.2 = (sDV σ d).2.2.2.2.2 ∧ b ≤ d)
  | 0 => Or.inl ⟨rfl, fun d h => absurd h (Nat.not_lt_zero d)⟩
  | n + 1 => by
    by_cases hp : nI (sLV σ (sDV σ n).1).2.1 = x ∧ f (n + 1) = 0
    · rcases nxt_spec σ x f n with ⟨h1, h2⟩ | ⟨b, h1, h2, h3, h4⟩
      · refine Or.inr ⟨n, Nat.lt_succ_self n, nxt_y ⟨hp, Or.inl h1⟩, hp, fun d hd hq => ?_⟩
        by_cases e : d = n
        · subst e; exact Or.inr ⟨rfl, Nat.le_refl _⟩
        · exact absurd hq (h2 d (by omega))
      · by_cases hc : (sDV σ n).2.2.2.2.2 < (sDV σ b).2.2.2.2.2
        · refine Or.inr ⟨n, Nat.lt_succ_self n, nxt_y ⟨hp, Or.inr (by rw [h2]; exact hc)⟩, hp, fun d hd hq => ?_⟩
          by_cases e : d = n
          · subst e; exact Or.inr ⟨rfl, Nat.le_refl _⟩
          · rcases h4 d (by omega) hq with q | ⟨q, _⟩
            · exact Or.inl (Int64.lt_trans hc q)
            · exact Or.inl (q ▸ hc)
        · refine Or.inr ⟨b, by omega, ?_, h3, fun d hd hq => ?_⟩
          · rw [nxt_n (fun q => ?_), h2]
            rcases q.2 with q1 | q1
            · rw [h2] at q1; omega
            · rw [h2] at q1; exact hc q1
          · by_cases e : d = n
            · subst e
              have hc' := Int64.not_lt.mp hc
              rw [Int64.le_iff_toInt_le] at hc'
              by_cases q : (sDV σ b).2.2.2.2.2.toInt = (sDV σ d).2.2.2.2.2.toInt
              · exact Or.inr ⟨Int64.toInt_inj.mp q, by omega⟩
              · exact Or.inl (Int64.lt_iff_toInt_lt.mpr (by omega))
            · exact h4 d (by omega) hq
    · have e : nxt σ x f (n + 1) = nxt σ x f n := nxt_n (fun q => hp q.1)
      rcases nxt_spec σ x f n with ⟨h1, h2⟩ | ⟨b, h1, h2, h3, h4⟩
      · refine Or.inl ⟨by rw [e, h1], fun d hd => ?_⟩
        by_cases q : d = n
        · rw [q]; exact hp
        · exact h2 d (by omega)
      · refine Or.inr ⟨b, by omega, by rw [e, h2], h3, fun d hd hq => ?_⟩
        by_cases q : d = n
        · rw [q] at hq; exact absurd hq hp
        · exact h4 d (by omega) hq
theorem nxt_ord {τ : SS} (hV : Inv τ) {q i : Nat} {f : Nat → Int32} (hq : q < 30) (hs : ∀ d, d < sND τ → (sLV τ (sDV τ d).1).2.1 = q → (f (d + 1) = 0 ↔ ∀ j, j < i → sOD τ j ≠ d)) : (nxt τ (nI q) f (sND τ) = 0 ∧ ∀ k, i ≤ k → k < sND τ → (sLV τ (sDV τ (sOD τ k)).1).2.1 ≠ q) ∨ ∃ i2, i ≤ i2 ∧ i2 < sND τ ∧ nxt τ (nI q) f (sND τ) = sOD τ i2 + 1 ∧ (sLV τ (sDV τ (sOD τ i2)).1).2.1 = q ∧ ∀ k, i ≤ k → k < i2 → (sLV τ (sDV τ (sOD τ k)).1).2.1 ≠ q := by
  have hper : ∀ d, d < sND τ → (nI (sLV τ (sDV τ d).1).2.1 = nI q ↔ (sLV τ (sDV τ d).1).2.1 = q) := fun d hd => nI_small (by have := (hV.2.2.1 _ (hV.2.2.2.1 d hd).1).2.1; omega) (by omega)
  obtain ⟨o1, o2, o3⟩ := hV.2.2.2.2.2
  have hinj : ∀ a b, a < b → b < sND τ → sOD τ a ≠ sOD τ b := fun a b hab hb e => by
    rcases o3 a b hab hb with h | ⟨_, h⟩
    · rw [e] at h; exact Int64.lt_irrefl h
    · omega
  have hP : ∀ k, i ≤ k → k < sND τ → (sLV τ (sDV τ (sOD τ k)).1).2.1 = q → nI (sLV τ (sDV τ (sOD τ k)).1).2.1 = nI q ∧ f (sOD τ k + 1) = 0 := fun k hk hkn hp =>
    ⟨by rw [hp], (hs _ (o1 k hkn) hp).mpr (fun j hj => hinj j k (by omega) hkn)⟩
  rcases nxt_spec τ (nI q) f (sND τ) with ⟨h1, h2⟩ | ⟨b, h1, h2, h3, h4⟩
  · exact Or.inl ⟨h1, fun k hk hkn hp => h2 _ (o1 k hkn) (hP k hk hkn hp)⟩
  · obtain ⟨i2, hi2, rfl⟩ := o2 b h1
    have hp := (hper _ h1).mp h3.1
    refine Or.inr ⟨i2, ?_, hi2, h2, hp, fun k hk hk2 hpk => ?_⟩
    · refine Nat.le_of_not_lt (fun h => ?_)
      exact (hs _ h1 hp).mp h3.2 i2 h rfl
    · have hkn : k < sND τ := by omega
      rcases o3 k i2 hk2 hi2 with h | ⟨h, h'⟩
      · rcases h4 _ (o1 k hkn) (hP k hk hkn hpk) with g | ⟨g, _⟩
        · exact Int64.lt_irrefl (Int64.lt_trans h g)
        · rw [g] at h; exact Int64.lt_irrefl h
      · rcases h4 _ (o1 k hkn) (hP k hk hkn hpk) with g | ⟨_, g⟩
        · rw [h] at g; exact Int64.lt_irrefl g
        · omega
theorem payF_skip {σ : SS} {q c i : Nat} {s : Nat × Nat × (Nat → DV)} (h : payF σ q c i = s) : ∀ j, (∀ k, i ≤ k → k < i + j → (sLV σ (s.2.2 (sOD σ k)).1).2.1 ≠ q) → payF σ q c (i + j) = s
  | 0, _ => h
  | j + 1, hg => payF_n (payF_skip h j (fun k h1 h2 => hg k h1 (by omega))) (fun hc => hg (i + j) (by omega) (by omega) hc.1)
theorem up_id {α : Type} (f : Nat → α) (k : Nat) : va_up f k (f k) = f := by
  funext i
  by_cases e : i = k
  · subst e; rw [va_up_self]
  · rw [va_up_ne _ _ e]
theorem nI_sub {a b : Nat} (h : b ≤ a) : nI a - nI b = nI (a - b) := by
  rw [show nI a = nI (a - b) + nI b by rw [nI_add, Nat.sub_add_cancel h]]
  simp
theorem pyT_0 {v : DV} {pu : Nat} (h : min pu v.2.2.1 = 0) : pyT v pu = v := by
  unfold pyT
  rw [h]
  rfl
theorem payF_step {σ : SS} {q c i pu sv : Nat} {dv : Nat → DV} (h : payF σ q c i = (pu, sv, dv)) (hp : (sLV σ (dv (sOD σ i)).1).2.1 = q) : payF σ q c (i + 1) = (pu - min pu (dv (sOD σ i)).2.2.1, (if min pu (dv (sOD σ i)).2.2.1 = 0 then sv else sv + 1), va_up dv (sOD σ i) (pyT (dv (sOD σ i)) pu)) := by
  by_cases hm : min pu (dv (sOD σ i)).2.2.1 = 0
  · rw [payF_n h (fun hc => ?_), if_pos hm, pyT_0 hm, hm, up_id]
    · rfl
    · have h1 : 0 < pu := hc.2.1
      have h2 : 0 < (dv (sOD σ i)).2.2.1 := hc.2.2
      omega
  · rw [payF_y h ⟨hp, by show 0 < pu; omega, by show 0 < (dv (sOD σ i)).2.2.1; omega⟩, if_neg hm]
    rfl
theorem sv_step {L : Nat → LV} {od : Nat → Nat} {q i i2 n : Nat} {dv dv2 : Nat → DV} {f : Nat → Int32} (hs : ∀ d, d < n → (L (dv d).1).2.1 = q → (f (d + 1) = 0 ↔ ∀ j, j < i → od j ≠ d)) (hi : i ≤ i2) (hg : ∀ k, i ≤ k → k < i2 → (L (dv (od k)).1).2.1 ≠ q) (h2 : ∀ d, d ≠ od i2 → dv2 d = dv d) : ∀ d, d < n → (L (dv2 d).1).2.1 = q → (va_up f (od i2 + 1) 1 (d + 1) = 0 ↔ ∀ j, j < i2 + 1 → od j ≠ d) := fun d hd hp => by
  by_cases e : d = od i2
  · subst e
    rw [va_up_self]
    exact ⟨fun z => absurd z (by decide), fun z => absurd rfl (z i2 (Nat.lt_succ_self _))⟩
  · rw [h2 d e] at hp
    rw [va_up_ne _ _ (fun z => e (by omega)), hs d hd hp]
    refine ⟨fun z j hj => ?_, fun z j hj => z j (by omega)⟩
    by_cases h1 : j < i
    · exact z j h1
    · by_cases h3 : j = i2
      · subst h3; exact fun q => e q.symm
      · intro hz; exact hg j (by omega) (by omega) (by rw [hz]; exact hp)
theorem l2iP {n : Nat} (h : n ≤ 10000000) : (lN n).toInt32 = nI n := by
  rw [← Int32.toInt_inj, nI_toInt (by omega), Int64.toInt_toInt32, lN_toInt (by omega)]
  exact Int.bmod_eq_of_le (by omega) (by omega)
theorem cl_step {f : Nat → Int32} {i : Nat} (h : ∀ d, d < i → f (d + 1) = 0) : ∀ d, d < i + 1 → va_up f (i + 1) 0 (d + 1) = 0 := fun d hd => by
  by_cases e : d = i
  · subst e; exact va_up_self _ _ _
  · rw [va_up_ne _ _ (by omega)]; exact h d (by omega)
