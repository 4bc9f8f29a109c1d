/-! THE STATE, as both sides have it. A loan: item, person, rule, due, state (1 lent, 2 back, 3 lost), loss (0: none, else the debt's number). A debt: loan, amount, left, paid, sort, day. All places from 0 on. -/
abbrev LV : Type := Nat × Nat × Nat × Int64 × Nat × Nat
abbrev DV : Type := Nat × Nat × Nat × Nat × Int32 × Int64
abbrev SS : Type := (Nat × (Nat → RV)) × (Nat × (Nat → LV)) × (Nat × (Nat → DV) × (Nat → Nat)) × (Nat × (Nat → Int64)) × (Nat → Nat) × Int32 × (Nat → Option Nat)
abbrev sNR (σ : SS) : Nat := σ.1.1
abbrev sRV (σ : SS) : Nat → RV := σ.1.2
abbrev sNL (σ : SS) : Nat := σ.2.1.1
abbrev sLV (σ : SS) : Nat → LV := σ.2.1.2
abbrev sND (σ : SS) : Nat := σ.2.2.1.1
abbrev sDV (σ : SS) : Nat → DV := σ.2.2.1.2.1
abbrev sOD (σ : SS) : Nat → Nat := σ.2.2.1.2.2
abbrev sNC (σ : SS) : Nat := σ.2.2.2.1.1
abbrev sCD (σ : SS) : Nat → Int64 := σ.2.2.2.1.2
abbrev sKR (σ : SS) : Nat → Nat := σ.2.2.2.2.1
abbrev sTH (σ : SS) : Int32 := σ.2.2.2.2.2.1
abbrev sIT (σ : SS) : Nat → Option Nat := σ.2.2.2.2.2.2
def lcOf (aR aD : Nat → Nat) (v : LV) : LC := (nI v.1, nI v.2.1, aR v.2.2.1, v.2.2.2.1, (if v.2.2.2.2.2 = 0 then none else some (aD (v.2.2.2.2.2 - 1))), if v.2.2.2.2.1 = 2 then 1 else 0)
def dcOf (aR : Nat → Nat) (L : Nat → LV) (v : DV) : DC := (nI (L v.1).2.1, aR (L v.1).2.2.1, v.2.2.2.2.1, lN v.2.1, v.2.2.2.2.2, lN v.2.2.1, lN v.2.2.2.1)
def inj (f : Nat → Nat) (n : Nat) : Prop := ∀ i j, i < n → j < n → f i = f j → i = j
/-- what holds of the numbers -/
def Inv (σ : SS) : Prop :=
  (sNR σ ≤ 10 ∧ sNL σ ≤ 120 ∧ sND σ ≤ 200 ∧ sNC σ ≤ 100) ∧
  (∀ k, k < sNR σ → 0 ≤ (sRV σ k).1 ∧ (∃ q, q ≤ 10000000 ∧ (sRV σ k).2.1 = nI q) ∧ 0 ≤ (sRV σ k).2.2.1 ∧ 0 ≤ (sRV σ k).2.2.2.1 ∧ 0 ≤ (sRV σ k).2.2.2.2 ∧ ((sRV σ k).2.2.2.2 = 0 → (sRV σ k).2.2.2.1 = 0)) ∧
  (∀ k, k < sNL σ → (sLV σ k).1 < 60 ∧ (sLV σ k).2.1 < 30 ∧ (sLV σ k).2.2.1 < sNR σ ∧ (1 ≤ (sLV σ k).2.2.2.2.1 ∧ (sLV σ k).2.2.2.2.1 ≤ 3) ∧ (sLV σ k).2.2.2.2.2 ≤ sND σ ∧ ((sLV σ k).2.2.2.2.1 = 1 → (sLV σ k).2.2.2.2.2 = 0) ∧ ((sLV σ k).2.2.2.2.1 = 3 → 0 < (sLV σ k).2.2.2.2.2)) ∧
  (∀ k, k < sND σ → (sDV σ k).1 < sNL σ ∧ (sDV σ k).2.1 ≤ 10000000 ∧ (sDV σ k).2.2.1 + (sDV σ k).2.2.2.1 ≤ (sDV σ k).2.1) ∧
  (∀ i, i < 60 → ∀ k, sIT σ i = some k ↔ (k < sNL σ ∧ (sLV σ k).1 = i ∧ (sLV σ k).2.2.2.2.1 ≠ 2)) ∧
  ((∀ i, i < sND σ → sOD σ i < sND σ) ∧ (∀ d, d < sND σ → ∃ i, i < sND σ ∧ sOD σ i = d) ∧ ∀ i j, i < j → j < sND σ → (sDV σ (sOD σ i)).2.2.2.2.2 < (sDV σ (sOD σ j)).2.2.2.2.2 ∨ ((sDV σ (sOD σ i)).2.2.2.2.2 = (sDV σ (sOD σ j)).2.2.2.2.2 ∧ sOD σ i < sOD σ j))
/-- the class holds the state -/
def RC (F : Nat → Prop) (t : Nat → ClassId) (g : hG) (ad aR aL aD : Nat → Nat) (fR fL fI fN fB : Nat → Option Nat) (σ : SS) : Prop :=
  (g (ad 0) = some (cFi (ad 1) (nI (sNR σ)) (ad 2) (nI (sNL σ)) (ad 3) (ad 4) (ad 5) (ad 6) (sTH σ))) ∧
  (g (ad 1) = some (arQ t 3 10 fR) ∧ ∀ k, k < sNR σ → fR k = some (aR k)) ∧
  (g (ad 2) = some (arQ t 4 120 fL) ∧ ∀ k, k < sNL σ → fL k = some (aL k)) ∧
  (g (ad 3) = some (arQ t 4 60 fI) ∧ ∀ i, i < 60 → fI i = (sIT σ i).map aL) ∧
  (g (ad 4) = some (cBr (ad 7) (ad 8) (nI (sND σ)))) ∧
  (g (ad 5) = some (cCl (ad 9) (nI (sNC σ)))) ∧
  (g (ad 6) = some (arJ t 30 (fun i => lN (sKR σ i)))) ∧
  (g (ad 7) = some (arQ t 5 200 fN) ∧ ∀ k, k < sND σ → fN k = some (aD k)) ∧
  (g (ad 8) = some (arQ t 5 200 fB) ∧ ∀ k, k < sND σ → fB k = some (aD (sOD σ k))) ∧
  (g (ad 9) = some (arJ t 100 (sCD σ))) ∧
  (∀ k, k < sNR σ → g (aR k) = some (cRu (sRV σ k))) ∧
  (∀ k, k < sNL σ → g (aL k) = some (cLc (lcOf aR aD (sLV σ k)))) ∧
  (∀ k, k < sND σ → g (aD k) = some (cDv (dcOf aR (sLV σ) (sDV σ k)))) ∧
  ad 7 ≠ ad 8 ∧ (inj aR (sNR σ) ∧ inj aL (sNL σ) ∧ inj aD (sND σ)) ∧
  ((∀ i, i < 10 → F (ad i)) ∧ (∀ k, k < sNR σ → F (aR k)) ∧ (∀ k, k < sNL σ → F (aL k)) ∧ ∀ k, k < sND σ → F (aD k))
def RCx (F : Nat → Prop) (t : Nat → ClassId) (ad : Nat → Nat) (σ : SS) (g : hG) : Prop := ∃ aR aL aD fR fL fI fN fB, RC F t g ad aR aL aD fR fL fI fN fB σ
/-- what the class's cells may be, once cells were made -/
def gr (F : Nat → Prop) (g : hG) : Nat → Prop := fun a => F a ∨ g a = none
theorem RC.mono {F F' : Nat → Prop} {t : Nat → ClassId} {g : hG} {ad aR aL aD : Nat → Nat} {fR fL fI fN fB : Nat → Option Nat} {σ : SS} (h : RC F t g ad aR aL aD fR fL fI fN fB σ) (hF : ∀ a, F a → F' a) : RC F' t g ad aR aL aD fR fL fI fN fB σ := by
  obtain ⟨h0, h1, h2, h3, h4, h5, h6, h7, h8, h9, hR, hL, hD, h78, hi, f0, f1, f2, f3⟩ := h
  exact ⟨h0, h1, h2, h3, h4, h5, h6, h7, h8, h9, hR, hL, hD, h78, hi, fun i h => hF _ (f0 i h), fun i h => hF _ (f1 i h), fun i h => hF _ (f2 i h), fun i h => hF _ (f3 i h)⟩
theorem RCx.mono {F F' : Nat → Prop} {t : Nat → ClassId} {g : hG} {ad : Nat → Nat} {σ : SS} (h : RCx F t ad σ g) (hF : ∀ a, F a → F' a) : RCx F' t ad σ g := by
  obtain ⟨aR, aL, aD, fR, fL, fI, fN, fB, h⟩ := h
  exact ⟨aR, aL, aD, fR, fL, fI, fN, fB, h.mono hF⟩
/-- cells outside F may change -/
theorem RC.keep {F G : Nat → Prop} {t : Nat → ClassId} {g u : hG} {ad aR aL aD : Nat → Nat} {fR fL fI fN fB : Nat → Option Nat} {σ : SS} (h : RC F t g ad aR aL aD fR fL fI fN fB σ) (hk : Keep G g u) (hFG : ∀ a, F a → ¬ G a) : RC F t u ad aR aL aD fR fL fI fN fB σ := by
  obtain ⟨h0, ⟨h1, h1f⟩, ⟨h2, h2f⟩, ⟨h3, h3f⟩, h4, h5, h6, ⟨h7, h7f⟩, ⟨h8, h8f⟩, h9, hR, hL, hD, h78, hi, f0, f1, f2, f3⟩ := h
  have K : ∀ {a : Nat} {x : va_E}, F a → g a = some x → u a = some x := fun {a x} hF hg => by
    rw [hk a (hFG a hF) (by rw [hg]; exact fun q => by cases q)]; exact hg
  exact ⟨K (f0 0 (by decide)) h0, ⟨K (f0 1 (by decide)) h1, h1f⟩, ⟨K (f0 2 (by decide)) h2, h2f⟩, ⟨K (f0 3 (by decide)) h3, h3f⟩, K (f0 4 (by decide)) h4, K (f0 5 (by decide)) h5, K (f0 6 (by decide)) h6, ⟨K (f0 7 (by decide)) h7, h7f⟩, ⟨K (f0 8 (by decide)) h8, h8f⟩, K (f0 9 (by decide)) h9, fun k hk => K (f1 k hk) (hR k hk), fun k hk => K (f2 k hk) (hL k hk), fun k hk => K (f3 k hk) (hD k hk), h78, hi, f0, f1, f2, f3⟩
theorem up_map {α β : Type} (h : α → β) (f : Nat → α) (k : Nat) (v : α) : (fun i => h (va_up f k v i)) = va_up (fun i => h (f i)) k (h v) := by
  funext i
  by_cases e : i = k
  · subst e; simp [va_up]
  · simp [va_up, e]
