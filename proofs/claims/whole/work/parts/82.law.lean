theorem nw_W_8 {p : Program} {l : Launch} {e : Env} {R : Room} {s : State} {m : MethodId} {args : Array Value} {below : List Frame} {meth : Method} {c : Code} {H : Heap} {locs : List Loc} {cells slots : Nat} {Q : State → Prop} {cc : ByteArray} {pc : Nat} {ls : Array Slot} {rest : List Value} {D : va_G} {A : Nat → Prop} {t : Nat → ClassId} {g : hG} {nL : Nat} {ret0 : Option FieldType} {nm : String} (X : Cx p s m args meth c R_W cc nL ret0 TB D vwCl (tyL t) EX A nm) (hb : c.code = cc) (hP : hw D vwCl A g H) (hS : va_S A s.heap H locs) (hf : cells + 1 ≤ R.cells ∧ slots + 9 ≤ R.slots) (hdg : decode cc pc = .ok (.new 8, 3)) (kk : ∀ (q : Nat) (H1 : Heap), g q = none → hw D vwCl A (va_up g q (some (.inr (0, [.null, .int 0, .null, .int 0, .null, .null, .null, .null, .int 0])))) H1 → va_S A s.heap H1 locs → W p l e R s m args below meth c H1 locs (cells + 1) (slots + 9) Q (F0 m (pc + 3) ls (.ref q :: rest))) : W p l e R s m args below meth c H locs cells slots Q (F0 m pc ls rest) :=
  h_new (C := R_F) (T := F_F) (N := 9) (ci := 0) (own := R_W) X.1 hb X.2.2.2.2.1 i_F t_F t_F_ok X.2.2.2.2.2.1 (X.2.2.2.2.1 _ (tbm 32 (by decide +kernel))) (X.2.2.2.2.1 _ (tbm 33 (by decide +kernel))) (X.2.2.2.2.1 _ (tbm 20 (by decide +kernel))) X.2.2.2.2.2.2.2.1 hP hS X.2.2.2.2.2.2.2.2.2.1 rfl (by decide +kernel) hf.1 hf.2 hdg kk
theorem nw_W_16 {p : Program} {l : Launch} {e : Env} {R : Room} {s : State} {m : MethodId} {args : Array Value} {below : List Frame} {meth : Method} {c : Code} {H : Heap} {locs : List Loc} {cells slots : Nat} {Q : State → Prop} {cc : ByteArray} {pc : Nat} {ls : Array Slot} {rest : List Value} {D : va_G} {A : Nat → Prop} {t : Nat → ClassId} {g : hG} {nL : Nat} {ret0 : Option FieldType} {nm : String} (X : Cx p s m args meth c R_W cc nL ret0 TB D vwCl (tyL t) EX A nm) (hb : c.code = cc) (hP : hw D vwCl A g H) (hS : va_S A s.heap H locs) (hf : cells + 1 ≤ R.cells ∧ slots + 26 ≤ R.slots) (hdg : decode cc pc = .ok (.new 16, 3)) (kk : ∀ (q : Nat) (H1 : Heap), g q = none → hw D vwCl A (va_up g q (some (.inr (6, [.int 0, .int 0, .int 0, .int 0, .int 0, .null, .null, .null, .null, .null, .null, .null, .null, .null, .null, .null, .null, .null, .null, .null, .null, .null, .null, .null, .null, .int 0])))) H1 → va_S A s.heap H1 locs → W p l e R s m args below meth c H1 locs (cells + 1) (slots + 26) Q (F0 m (pc + 3) ls (.ref q :: rest))) : W p l e R s m args below meth c H locs cells slots Q (F0 m pc ls rest) :=
  h_new (C := R_M) (T := F_M) (N := 26) (ci := 6) (own := R_W) X.1 hb X.2.2.2.2.1 i_M t_M t_M_ok X.2.2.2.2.2.1 (X.2.2.2.2.1 _ (tbm 446 (by decide +kernel))) (X.2.2.2.2.1 _ (tbm 447 (by decide +kernel))) (X.2.2.2.2.1 _ (tbm 23 (by decide +kernel))) X.2.2.2.2.2.2.2.1 hP hS X.2.2.2.2.2.2.2.2.2.1 rfl (by decide +kernel) hf.1 hf.2 hdg kk
/-! The law: what holds at the head of its loop. -/
theorem RMx.ob {t : Nat → ClassId} {ma : Nat → Nat} {tv : Int32} {σ : SS} {g : hG} (h : RMx t ma tv σ g) : ∃ fs, g (ma 0) = some (.inr (6, fs)) := by
  obtain ⟨fm, fj, h, -⟩ := h
  exact ⟨_, h.1⟩
theorem RMx.nn {t : Nat → ClassId} {ma : Nat → Nat} {tv : Int32} {σ : SS} {g : hG} (h : RMx t ma tv σ g) : ∀ i, i < 21 → g (ma i) ≠ none := by
  obtain ⟨fm, fj, h, -⟩ := h
  intro i hi
  by_cases e0 : i = 0
  · subst e0; rw [h.1]; exact fun q => by cases q
  · rw [h.2.1 i (by omega) (by omega)]; exact fun q => by cases q
theorem RMx.keep {G : Nat → Prop} {t : Nat → ClassId} {ma : Nat → Nat} {tv : Int32} {σ : SS} {g u : hG} (h : RMx t ma tv σ g) (hk : Keep G g u) (hn : ∀ i, i < 21 → ¬ G (ma i)) : RMx t ma tv σ u := by
  obtain ⟨fm, fj, h, hr⟩ := h
  exact ⟨fm, fj, h.keep hk hn, hr⟩
theorem RCx.keep {F G : Nat → Prop} {t : Nat → ClassId} {ad : Nat → Nat} {σ : SS} {g u : hG} (h : RCx F t ad σ g) (hk : Keep G g u) (hn : ∀ a, F a → ¬ G a) : RCx F t ad σ u := by
  obtain ⟨aR, aL, aD, fR, fL, fI, fN, fB, h⟩ := h
  exact ⟨aR, aL, aD, fR, fL, fI, fN, fB, h.keep hk hn⟩
theorem RCx.ob {F : Nat → Prop} {t : Nat → ClassId} {ad : Nat → Nat} {σ : SS} {g : hG} (h : RCx F t ad σ g) : ∃ fs, g (ad 0) = some (.inr (0, fs)) := by
  obtain ⟨aR, aL, aD, fR, fL, fI, fN, fB, h⟩ := h
  exact ⟨_, h.1⟩
def LI (t : Nat → ClassId) (ad ma : Nat → Nat) (o n : Nat) (g : hG) : Prop := ∃ (F : Nat → Prop) (σ : SS) (tv : Int32) (ou : Nat → Int64), Ok n σ ∧ RCx F t ad σ g ∧ RMx t ma tv σ g ∧ g o = some (arJ t 1 ou) ∧ ¬ F o ∧ ∀ i, i < 21 → ¬ F (ma i)
theorem LI.up {t : Nat → ClassId} {ad ma : Nat → Nat} {o n : Nat} {g : hG} (h : LI t ad ma o n g) : LI t ad ma o (n + 1) g := by
  obtain ⟨F, σ, tv, ou, h1, h2⟩ := h
  exact ⟨F, σ, tv, ou, h1.up, h2⟩
/-- behind a call of the class -/
theorem LI_c {F : Nat → Prop} {t : Nat → ClassId} {ma : Nat → Nat} {tv : Int32} {σ : SS} {g u : hG} {o : Nat} {ou : Nat → Int64} (hM : RMx t ma tv σ g) (ho : g o = some (arJ t 1 ou)) (hFo : ¬ F o) (hFM : ∀ i, i < 21 → ¬ F (ma i)) (hk : Keep F g u) : RMx t ma tv σ u ∧ u o = some (arJ t 1 ou) ∧ ¬ gr F g o ∧ ∀ i, i < 21 → ¬ gr F g (ma i) := by
  have hn : g o ≠ none := by rw [ho]; exact fun q => by cases q
  exact ⟨hM.keep hk hFM, (hk o hFo hn).trans ho, fun q => q.elim hFo hn, fun i hi q => q.elim (hFM i hi) (hM.nn i hi)⟩
/-- behind a call of the reference -/
theorem LI_m {F : Nat → Prop} {t : Nat → ClassId} {ad ma : Nat → Nat} {tv : Int32} {σ : SS} {g u : hG} {o n : Nat} {ou : Nat → Int64} (hO : Ok n σ) (hRx : RCx F t ad σ g) (hM : RMx t ma tv σ u) (hk : Keep (mF ma) g u) (ho : g o = some (arJ t 1 ou)) (hFo : ¬ F o) (hFM : ∀ i, i < 21 → ¬ F (ma i)) (hoM : ∀ j, j < 21 → o ≠ ma j) : LI t ad ma o n u := by
  have hn : g o ≠ none := by rw [ho]; exact fun q => by cases q
  refine ⟨F, σ, tv, ou, hO, hRx.keep hk ?_, hM, (hk o ?_ hn).trans ho, hFo, hFM⟩
  · rintro a ha ⟨i, hi, rfl⟩
    exact hFM i hi ha
  · rintro ⟨i, hi, e0⟩
    exact hoM i hi e0
theorem spInt_0 {σ : SS} {x y z : Int32} (h : okInt σ x y z = true ∧ z = 0) : (spInt σ x y z).2 = σ := by
  rw [spInt, if_neg (by simp [h.2])]
/-- what stays through the law's run -/
def LK (p : Program) (l : Launch) (s : State) (m : MethodId) (args : Array Value) (meth : Method) (c : Code) (D : va_G) (t : Nat → ClassId) (A : Nat → Prop) (b L : Nat) (xs : Nat → Int32) (ma : Nat → Nat) (o : Nat) : Prop := Cx p s m args meth c R_W b_W_law 7 ret TB D vwCl (tyL t) EX A meth.name ∧ l.stackTraces = false ∧ thG A s ∧ va_X b L xs s s.heap ∧ b < s.heap.size ∧ ¬ A b ∧ ∀ j, j < 21 → o ≠ ma j
/-- the places of a call's words in the script -/
def LN (i : Int32) (L : Nat) : Prop := vp_in (i + 1) L ∧ vp_in (i + 2) L ∧ vp_in (i + 3) L ∧ vp_in (i + 4) L ∧ vp_in (i + 5) L
theorem LN_of {n L : Nat} (h : n + 6 ≤ L) (hL : L ≤ 3072) : LN (nI n) L :=
  ⟨by rw [show nI n + 1 = nI (n + 1) from nI_add n 1]; exact nI_in (by omega) (by omega), by rw [show nI n + 2 = nI (n + 2) from nI_add n 2]; exact nI_in (by omega) (by omega), by rw [show nI n + 3 = nI (n + 3) from nI_add n 3]; exact nI_in (by omega) (by omega), by rw [show nI n + 4 = nI (n + 4) from nI_add n 4]; exact nI_in (by omega) (by omega), by rw [show nI n + 5 = nI (n + 5) from nI_add n 5]; exact nI_in (by omega) (by omega)⟩
/-- the law's loop ends where no whole call is left -/
theorem L_end {n L : Nat} (hL : L ≤ 3072) (hn : n ≤ 4000) : (Int32.ofNat L - 6 < nI n) ↔ L < n + 6 := by
  have e1 : (Int32.ofNat L - 6).toInt = (L : Int) - 6 := by
    rw [Int32.toInt_sub, show (Int32.ofNat L).toInt = (L : Int) from nI_toInt (by omega), show (6 : Int32).toInt = 6 from rfl]
    exact Int.bmod_eq_of_le (by omega) (by omega)
  rw [Int32.lt_iff_toInt_lt, e1, nI_toInt (by omega)]
  omega
