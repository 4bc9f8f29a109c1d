theorem lt_s1 {k n : Nat} (h : k < n + 1) (e : ¬ k = n) : k < n := by omega
theorem map_up {f : Nat → Nat} {o : Option Nat} {n q : Nat} (h : ∀ k, o = some k → k ≠ n) : o.map f = o.map (va_up f n q) := by
  cases o with
  | none => rfl
  | some k => simp [va_up, h k rfl]
theorem up_all {α : Type} {f : Nat → α} {n : Nat} {v : α} {aR : Nat → Nat} {q : Nat} {Pp : Nat → α → Prop} (h : ∀ k, k < n → Pp (aR k) (f k)) (hq : Pp q v) : ∀ k, k < n + 1 → Pp (va_up aR n q k) (va_up f n v k) := fun k hk => by
  by_cases e : k = n
  · subst e; rw [va_up_self, va_up_self]; exact hq
  · rw [va_up_ne aR _ e, va_up_ne f _ e]; exact h k (lt_s1 hk e)
theorem up_all1 {n : Nat} {aR : Nat → Nat} {q : Nat} {Pp : Nat → Prop} (h : ∀ k, k < n → Pp (aR k)) (hq : Pp q) : ∀ k, k < n + 1 → Pp (va_up aR n q k) := fun k hk => by
  by_cases e : k = n
  · subst e; rw [va_up_self]; exact hq
  · rw [va_up_ne aR _ e]; exact h k (lt_s1 hk e)
theorem it_up {fI it : Nat → Option Nat} {aL : Nat → Nat} {n q i : Nat} (h : ∀ j, j < 60 → fI j = (it j).map aL) (hn : ∀ j, j < 60 → ∀ k, it j = some k → k ≠ n) : ∀ j, j < 60 → va_up fI i (some q) j = (va_up it i (some n) j).map (va_up aL n q) := fun j hj => by
  by_cases e : j = i
  · subst e; rw [va_up_self, va_up_self]; simp [va_up_self]
  · rw [va_up_ne fI _ e, va_up_ne it _ e, h j hj]; exact map_up (hn j hj)
theorem it_no {fI it : Nat → Option Nat} {aL : Nat → Nat} {i : Nat} (h : ∀ j, j < 60 → fI j = (it j).map aL) : ∀ j, j < 60 → va_up fI i none j = (va_up it i none j).map aL := fun j hj => by
  by_cases e : j = i
  · subst e; rw [va_up_self, va_up_self]; rfl
  · rw [va_up_ne fI _ e, va_up_ne it _ e, h j hj]
theorem dc_up {aR : Nat → Nat} {L : Nat → LV} {k : Nat} {v : LV} {w : DV} (hv : v.2.1 = (L k).2.1 ∧ v.2.2.1 = (L k).2.2.1) : dcOf aR (va_up L k v) w = dcOf aR L w := by
  refine dc_L ?_
  by_cases e : w.1 = k
  · rw [e, va_up_self]; exact hv
  · rw [va_up_ne L v e]; exact ⟨rfl, rfl⟩
theorem dc_new {aR : Nat → Nat} {L : Nat → LV} {n : Nat} {v : LV} {w : DV} (h : w.1 < n) : dcOf aR (va_up L n v) w = dcOf aR L w := by
  refine dc_L ?_
  have hne : ¬ w.1 = n := by omega
  rw [va_up_ne L v hne]; exact ⟨rfl, rfl⟩
/-- the order with the new debt n at place p -/
def insO (od : Nat → Nat) (n p : Nat) : Nat → Nat := fun j => if j < p then od j else if j = p then n else od (j - 1)
theorem ins_ok {fB : Nat → Option Nat} {od aD : Nat → Nat} {n q pp : Nat} (h : ∀ k, k < n → fB k = some (aD (od k))) (ho : ∀ i, i < n → od i < n) (hpp : pp ≤ n) : ∀ k, k < n + 1 → insF fB n pp q k = some (va_up aD n q (insO od n pp k)) := fun k hk => by
  by_cases e : k = pp
  · subst e
    have h1 : ¬ k < k := by omega
    simp [insF, insO, va_up]
  · by_cases h1 : k < pp
    · have h2 : k ≤ pp := by omega
      have h3 : ¬ od k = n := by have := ho k (by omega); omega
      simp [insF, insO, va_up, shf, e, h1, h2, h3, h k (by omega)]
    · have h2 : ¬ k ≤ pp := by omega
      have h4 : k ≤ n := by omega
      have h3 : ¬ od (k - 1) = n := by have := ho (k - 1) (by omega); omega
      simp [insF, insO, va_up, shf, e, h1, h2, h4, h3, h (k - 1) (by omega)]
theorem RC.th {F : Nat → Prop} {t : Nat → ClassId} {g : hG} {ad aR aL aD : Nat → Nat} {fR fL fI fN fB : Nat → Option Nat} {σ : SS} (h : RC F t g ad aR aL aD fR fL fI fN fB σ) (x : Int32)  : RC F t (va_up g (ad 0) (some (cFi (ad 1) (nI (sNR σ)) (ad 2) (nI (sNL σ)) (ad 3) (ad 4) (ad 5) (ad 6) x))) ad aR aL aD fR fL fI fN fB ((σ.1, σ.2.1, σ.2.2.1, σ.2.2.2.1, σ.2.2.2.2.1, x, σ.2.2.2.2.2.2)) := by
  obtain ⟨h0, ⟨h1, h1f⟩, ⟨h2, h2f⟩, ⟨h3, h3f⟩, h4, h5, h6, ⟨h7, h7f⟩, ⟨h8, h8f⟩, h9, hR, hL, hD, h78, ⟨iR, iL, iD⟩, f0, f1, f2, f3⟩ := h
  have k0 : (va_up g (ad 0) (some (cFi (ad 1) (nI (sNR σ)) (ad 2) (nI (sNL σ)) (ad 3) (ad 4) (ad 5) (ad 6) x))) (ad 0) = _ := va_up_self g (ad 0) (some (cFi (ad 1) (nI (sNR σ)) (ad 2) (nI (sNL σ)) (ad 3) (ad 4) (ad 5) (ad 6) x : va_E))
  have k1 : (va_up g (ad 0) (some (cFi (ad 1) (nI (sNR σ)) (ad 2) (nI (sNL σ)) (ad 3) (ad 4) (ad 5) (ad 6) x))) (ad 1) = _ := up_at h1 (hw_kd h1 h0 rfl)
  have k2 : (va_up g (ad 0) (some (cFi (ad 1) (nI (sNR σ)) (ad 2) (nI (sNL σ)) (ad 3) (ad 4) (ad 5) (ad 6) x))) (ad 2) = _ := up_at h2 (hw_kd h2 h0 rfl)
  have k3 : (va_up g (ad 0) (some (cFi (ad 1) (nI (sNR σ)) (ad 2) (nI (sNL σ)) (ad 3) (ad 4) (ad 5) (ad 6) x))) (ad 3) = _ := up_at h3 (hw_kd h3 h0 rfl)
  have k4 : (va_up g (ad 0) (some (cFi (ad 1) (nI (sNR σ)) (ad 2) (nI (sNL σ)) (ad 3) (ad 4) (ad 5) (ad 6) x))) (ad 4) = _ := up_at h4 (hw_kd h4 h0 rfl)
  have k5 : (va_up g (ad 0) (some (cFi (ad 1) (nI (sNR σ)) (ad 2) (nI (sNL σ)) (ad 3) (ad 4) (ad 5) (ad 6) x))) (ad 5) = _ := up_at h5 (hw_kd h5 h0 rfl)
  have k6 : (va_up g (ad 0) (some (cFi (ad 1) (nI (sNR σ)) (ad 2) (nI (sNL σ)) (ad 3) (ad 4) (ad 5) (ad 6) x))) (ad 6) = _ := up_at h6 (hw_kd h6 h0 rfl)
  have k7 : (va_up g (ad 0) (some (cFi (ad 1) (nI (sNR σ)) (ad 2) (nI (sNL σ)) (ad 3) (ad 4) (ad 5) (ad 6) x))) (ad 7) = _ := up_at h7 (hw_kd h7 h0 rfl)
  have k8 : (va_up g (ad 0) (some (cFi (ad 1) (nI (sNR σ)) (ad 2) (nI (sNL σ)) (ad 3) (ad 4) (ad 5) (ad 6) x))) (ad 8) = _ := up_at h8 (hw_kd h8 h0 rfl)
  have k9 : (va_up g (ad 0) (some (cFi (ad 1) (nI (sNR σ)) (ad 2) (nI (sNL σ)) (ad 3) (ad 4) (ad 5) (ad 6) x))) (ad 9) = _ := up_at h9 (hw_kd h9 h0 rfl)
  have kR : ∀ z, z < sNR σ → (va_up g (ad 0) (some (cFi (ad 1) (nI (sNR σ)) (ad 2) (nI (sNL σ)) (ad 3) (ad 4) (ad 5) (ad 6) x))) (aR z) = some (cRu (sRV σ z)) := fun z hz => up_at (hR z hz) (hw_kd (hR z hz) h0 rfl)
  have kL : ∀ z, z < sNL σ → (va_up g (ad 0) (some (cFi (ad 1) (nI (sNR σ)) (ad 2) (nI (sNL σ)) (ad 3) (ad 4) (ad 5) (ad 6) x))) (aL z) = some (cLc (lcOf aR aD (sLV σ z))) := fun z hz => up_at (hL z hz) (hw_kd (hL z hz) h0 rfl)
  have kD : ∀ z, z < sND σ → (va_up g (ad 0) (some (cFi (ad 1) (nI (sNR σ)) (ad 2) (nI (sNL σ)) (ad 3) (ad 4) (ad 5) (ad 6) x))) (aD z) = some (cDv (dcOf aR (sLV σ) (sDV σ z))) := fun z hz => up_at (hD z hz) (hw_kd (hD z hz) h0 rfl)
  refine ⟨k0, ⟨k1, h1f⟩, ⟨k2, h2f⟩, ⟨k3, h3f⟩, k4, k5, k6, ⟨k7, h7f⟩, ⟨k8, h8f⟩, k9, kR, kL, kD, h78, ⟨iR, iL, iD⟩, f0, f1, f2, f3⟩
theorem RC.closed {F : Nat → Prop} {t : Nat → ClassId} {g : hG} {ad aR aL aD : Nat → Nat} {fR fL fI fN fB : Nat → Option Nat} {σ : SS} (h : RC F t g ad aR aL aD fR fL fI fN fB σ) (x : Int64)  : RC F t (va_up (va_up g (ad 9) (some (arJ t 100 (va_up (sCD σ) (sNC σ) x)))) (ad 5) (some (cCl (ad 9) (nI (sNC σ + 1))))) ad aR aL aD fR fL fI fN fB ((σ.1, σ.2.1, σ.2.2.1, (sNC σ + 1, va_up (sCD σ) (sNC σ) x), σ.2.2.2.2)) := by
  obtain ⟨h0, ⟨h1, h1f⟩, ⟨h2, h2f⟩, ⟨h3, h3f⟩, h4, h5, h6, ⟨h7, h7f⟩, ⟨h8, h8f⟩, h9, hR, hL, hD, h78, ⟨iR, iL, iD⟩, f0, f1, f2, f3⟩ := h
  have k0 : (va_up (va_up g (ad 9) (some (arJ t 100 (va_up (sCD σ) (sNC σ) x)))) (ad 5) (some (cCl (ad 9) (nI (sNC σ + 1))))) (ad 0) = _ := up_at (up_at h0 (hw_kd h0 h9 rfl)) (hw_kd h0 h5 rfl)
  have k1 : (va_up (va_up g (ad 9) (some (arJ t 100 (va_up (sCD σ) (sNC σ) x)))) (ad 5) (some (cCl (ad 9) (nI (sNC σ + 1))))) (ad 1) = _ := up_at (up_at h1 (hw_kd h1 h9 rfl)) (hw_kd h1 h5 rfl)
  have k2 : (va_up (va_up g (ad 9) (some (arJ t 100 (va_up (sCD σ) (sNC σ) x)))) (ad 5) (some (cCl (ad 9) (nI (sNC σ + 1))))) (ad 2) = _ := up_at (up_at h2 (hw_kd h2 h9 rfl)) (hw_kd h2 h5 rfl)
  have k3 : (va_up (va_up g (ad 9) (some (arJ t 100 (va_up (sCD σ) (sNC σ) x)))) (ad 5) (some (cCl (ad 9) (nI (sNC σ + 1))))) (ad 3) = _ := up_at (up_at h3 (hw_kd h3 h9 rfl)) (hw_kd h3 h5 rfl)
  have k4 : (va_up (va_up g (ad 9) (some (arJ t 100 (va_up (sCD σ) (sNC σ) x)))) (ad 5) (some (cCl (ad 9) (nI (sNC σ + 1))))) (ad 4) = _ := up_at (up_at h4 (hw_kd h4 h9 rfl)) (hw_kd h4 h5 rfl)
  have k5 : (va_up (va_up g (ad 9) (some (arJ t 100 (va_up (sCD σ) (sNC σ) x)))) (ad 5) (some (cCl (ad 9) (nI (sNC σ + 1))))) (ad 5) = _ := va_up_self (va_up g (ad 9) (some (arJ t 100 (va_up (sCD σ) (sNC σ) x)))) (ad 5) (some (cCl (ad 9) (nI (sNC σ + 1)) : va_E))
  have k6 : (va_up (va_up g (ad 9) (some (arJ t 100 (va_up (sCD σ) (sNC σ) x)))) (ad 5) (some (cCl (ad 9) (nI (sNC σ + 1))))) (ad 6) = _ := up_at (up_at h6 (hw_kd h6 h9 rfl)) (hw_kd h6 h5 rfl)
  have k7 : (va_up (va_up g (ad 9) (some (arJ t 100 (va_up (sCD σ) (sNC σ) x)))) (ad 5) (some (cCl (ad 9) (nI (sNC σ + 1))))) (ad 7) = _ := up_at (up_at h7 (hw_kd h7 h9 rfl)) (hw_kd h7 h5 rfl)
  have k8 : (va_up (va_up g (ad 9) (some (arJ t 100 (va_up (sCD σ) (sNC σ) x)))) (ad 5) (some (cCl (ad 9) (nI (sNC σ + 1))))) (ad 8) = _ := up_at (up_at h8 (hw_kd h8 h9 rfl)) (hw_kd h8 h5 rfl)
  have k9 : (va_up (va_up g (ad 9) (some (arJ t 100 (va_up (sCD σ) (sNC σ) x)))) (ad 5) (some (cCl (ad 9) (nI (sNC σ + 1))))) (ad 9) = _ := up_at (va_up_self g (ad 9) (some (arJ t 100 (va_up (sCD σ) (sNC σ) x) : va_E))) (hw_kd h9 h5 rfl)
  have kR : ∀ z, z < sNR σ → (va_up (va_up g (ad 9) (some (arJ t 100 (va_up (sCD σ) (sNC σ) x)))) (ad 5) (some (cCl (ad 9) (nI (sNC σ + 1))))) (aR z) = some (cRu (sRV σ z)) := fun z hz => up_at (up_at (hR z hz) (hw_kd (hR z hz) h9 rfl)) (hw_kd (hR z hz) h5 rfl)
  have kL : ∀ z, z < sNL σ → (va_up (va_up g (ad 9) (some (arJ t 100 (va_up (sCD σ) (sNC σ) x)))) (ad 5) (some (cCl (ad 9) (nI (sNC σ + 1))))) (aL z) = some (cLc (lcOf aR aD (sLV σ z))) := fun z hz => up_at (up_at (hL z hz) (hw_kd (hL z hz) h9 rfl)) (hw_kd (hL z hz) h5 rfl)
  have kD : ∀ z, z < sND σ → (va_up (va_up g (ad 9) (some (arJ t 100 (va_up (sCD σ) (sNC σ) x)))) (ad 5) (some (cCl (ad 9) (nI (sNC σ + 1))))) (aD z) = some (cDv (dcOf aR (sLV σ) (sDV σ z))) := fun z hz => up_at (up_at (hD z hz) (hw_kd (hD z hz) h9 rfl)) (hw_kd (hD z hz) h5 rfl)
  refine ⟨k0, ⟨k1, h1f⟩, ⟨k2, h2f⟩, ⟨k3, h3f⟩, k4, k5, k6, ⟨k7, h7f⟩, ⟨k8, h8f⟩, k9, kR, kL, kD, h78, ⟨iR, iL, iD⟩, f0, f1, f2, f3⟩
theorem RC.credit {F : Nat → Prop} {t : Nat → ClassId} {g : hG} {ad aR aL aD : Nat → Nat} {fR fL fI fN fB : Nat → Option Nat} {σ : SS} (h : RC F t g ad aR aL aD fR fL fI fN fB σ) (k v : Nat)  : RC F t (va_up g (ad 6) (some (arJ t 30 (va_up (fun i => lN (sKR σ i)) k (lN v))))) ad aR aL aD fR fL fI fN fB ((σ.1, σ.2.1, σ.2.2.1, σ.2.2.2.1, va_up (sKR σ) k v, σ.2.2.2.2.2)) := by
  obtain ⟨h0, ⟨h1, h1f⟩, ⟨h2, h2f⟩, ⟨h3, h3f⟩, h4, h5, h6, ⟨h7, h7f⟩, ⟨h8, h8f⟩, h9, hR, hL, hD, h78, ⟨iR, iL, iD⟩, f0, f1, f2, f3⟩ := h
  have k0 : (va_up g (ad 6) (some (arJ t 30 (va_up (fun i => lN (sKR σ i)) k (lN v))))) (ad 0) = _ := up_at h0 (hw_kd h0 h6 rfl)
  have k1 : (va_up g (ad 6) (some (arJ t 30 (va_up (fun i => lN (sKR σ i)) k (lN v))))) (ad 1) = _ := up_at h1 (hw_kd h1 h6 rfl)
  have k2 : (va_up g (ad 6) (some (arJ t 30 (va_up (fun i => lN (sKR σ i)) k (lN v))))) (ad 2) = _ := up_at h2 (hw_kd h2 h6 rfl)
  have k3 : (va_up g (ad 6) (some (arJ t 30 (va_up (fun i => lN (sKR σ i)) k (lN v))))) (ad 3) = _ := up_at h3 (hw_kd h3 h6 rfl)
  have k4 : (va_up g (ad 6) (some (arJ t 30 (va_up (fun i => lN (sKR σ i)) k (lN v))))) (ad 4) = _ := up_at h4 (hw_kd h4 h6 rfl)
  have k5 : (va_up g (ad 6) (some (arJ t 30 (va_up (fun i => lN (sKR σ i)) k (lN v))))) (ad 5) = _ := up_at h5 (hw_kd h5 h6 rfl)
  have k6 : (va_up g (ad 6) (some (arJ t 30 (va_up (fun i => lN (sKR σ i)) k (lN v))))) (ad 6) = _ := va_up_self g (ad 6) (some (arJ t 30 (va_up (fun i => lN (sKR σ i)) k (lN v)) : va_E))
  have k7 : (va_up g (ad 6) (some (arJ t 30 (va_up (fun i => lN (sKR σ i)) k (lN v))))) (ad 7) = _ := up_at h7 (hw_kd h7 h6 rfl)
  have k8 : (va_up g (ad 6) (some (arJ t 30 (va_up (fun i => lN (sKR σ i)) k (lN v))))) (ad 8) = _ := up_at h8 (hw_kd h8 h6 rfl)
  have k9 : (va_up g (ad 6) (some (arJ t 30 (va_up (fun i => lN (sKR σ i)) k (lN v))))) (ad 9) = _ := up_at h9 (hw_kd h9 h6 rfl)
  have kR : ∀ z, z < sNR σ → (va_up g (ad 6) (some (arJ t 30 (va_up (fun i => lN (sKR σ i)) k (lN v))))) (aR z) = some (cRu (sRV σ z)) := fun z hz => up_at (hR z hz) (hw_kd (hR z hz) h6 rfl)
  have kL : ∀ z, z < sNL σ → (va_up g (ad 6) (some (arJ t 30 (va_up (fun i => lN (sKR σ i)) k (lN v))))) (aL z) = some (cLc (lcOf aR aD (sLV σ z))) := fun z hz => up_at (hL z hz) (hw_kd (hL z hz) h6 rfl)
  have kD : ∀ z, z < sND σ → (va_up g (ad 6) (some (arJ t 30 (va_up (fun i => lN (sKR σ i)) k (lN v))))) (aD z) = some (cDv (dcOf aR (sLV σ) (sDV σ z))) := fun z hz => up_at (hD z hz) (hw_kd (hD z hz) h6 rfl)
  refine ⟨k0, ⟨k1, h1f⟩, ⟨k2, h2f⟩, ⟨k3, h3f⟩, k4, k5, by rw [k6]; exact congrArg (fun z => some (arJ t 30 z)) (up_map lN (sKR σ) k v).symm, ⟨k7, h7f⟩, ⟨k8, h8f⟩, k9, kR, kL, kD, h78, ⟨iR, iL, iD⟩, f0, f1, f2, f3⟩
theorem RC.rule {F : Nat → Prop} {t : Nat → ClassId} {g : hG} {ad aR aL aD : Nat → Nat} {fR fL fI fN fB : Nat → Option Nat} {σ : SS} (h : RC F t g ad aR aL aD fR fL fI fN fB σ) (k : Nat) (v : RV) (hk : k < sNR σ) : RC F t (va_up g (aR k) (some (cRu v))) ad aR aL aD fR fL fI fN fB (((sNR σ, va_up (sRV σ) k v), σ.2)) := by
  obtain ⟨h0, ⟨h1, h1f⟩, ⟨h2, h2f⟩, ⟨h3, h3f⟩, h4, h5, h6, ⟨h7, h7f⟩, ⟨h8, h8f⟩, h9, hR, hL, hD, h78, ⟨iR, iL, iD⟩, f0, f1, f2, f3⟩ := h
  have k0 : (va_up g (aR k) (some (cRu v))) (ad 0) = _ := up_at h0 (hw_kd h0 (hR k hk) rfl)
  have k1 : (va_up g (aR k) (some (cRu v))) (ad 1) = _ := up_at h1 (hw_kd h1 (hR k hk) rfl)
  have k2 : (va_up g (aR k) (some (cRu v))) (ad 2) = _ := up_at h2 (hw_kd h2 (hR k hk) rfl)
  have k3 : (va_up g (aR k) (some (cRu v))) (ad 3) = _ := up_at h3 (hw_kd h3 (hR k hk) rfl)
  have k4 : (va_up g (aR k) (some (cRu v))) (ad 4) = _ := up_at h4 (hw_kd h4 (hR k hk) rfl)
  have k5 : (va_up g (aR k) (some (cRu v))) (ad 5) = _ := up_at h5 (hw_kd h5 (hR k hk) rfl)
  have k6 : (va_up g (aR k) (some (cRu v))) (ad 6) = _ := up_at h6 (hw_kd h6 (hR k hk) rfl)
  have k7 : (va_up g (aR k) (some (cRu v))) (ad 7) = _ := up_at h7 (hw_kd h7 (hR k hk) rfl)
  have k8 : (va_up g (aR k) (some (cRu v))) (ad 8) = _ := up_at h8 (hw_kd h8 (hR k hk) rfl)
  have k9 : (va_up g (aR k) (some (cRu v))) (ad 9) = _ := up_at h9 (hw_kd h9 (hR k hk) rfl)
  have kR : ∀ j, j < sNR σ → (va_up g (aR k) (some (cRu v))) (aR j) = some (cRu (va_up (sRV σ) k v j)) := fun j hj => by
    by_cases e : j = k
    · subst e; rw [va_up_self, va_up_self]
    · rw [va_up_ne (sRV σ) v e]; exact up_at (hR j hj) (fun q => e (iR j k hj hk q))
  have kL : ∀ z, z < sNL σ → (va_up g (aR k) (some (cRu v))) (aL z) = some (cLc (lcOf aR aD (sLV σ z))) := fun z hz => up_at (hL z hz) (hw_kd (hL z hz) (hR k hk) rfl)
  have kD : ∀ z, z < sND σ → (va_up g (aR k) (some (cRu v))) (aD z) = some (cDv (dcOf aR (sLV σ) (sDV σ z))) := fun z hz => up_at (hD z hz) (hw_kd (hD z hz) (hR k hk) rfl)
  refine ⟨k0, ⟨k1, h1f⟩, ⟨k2, h2f⟩, ⟨k3, h3f⟩, k4, k5, k6, ⟨k7, h7f⟩, ⟨k8, h8f⟩, k9, kR, kL, kD, h78, ⟨iR, iL, iD⟩, f0, f1, f2, f3⟩
theorem RC.ruleNew {F : Nat → Prop} {t : Nat → ClassId} {g : hG} {ad aR aL aD : Nat → Nat} {fR fL fI fN fB : Nat → Option Nat} {σ : SS} (h : RC F t g ad aR aL aD fR fL fI fN fB σ) (q : Nat) (v : RV) (hq : g q = none) (hI : Inv σ) : RC (gr F g) t (va_up (va_up (va_up g q (some (cRu v))) (ad 1) (some (arQ t 3 10 (va_up fR (sNR σ) (some q))))) (ad 0) (some (cFi (ad 1) (nI (sNR σ + 1)) (ad 2) (nI (sNL σ)) (ad 3) (ad 4) (ad 5) (ad 6) (sTH σ)))) ad (va_up aR (sNR σ) q) aL aD (va_up fR (sNR σ) (some q)) fL fI fN fB (((sNR σ + 1, va_up (sRV σ) (sNR σ) v), σ.2)) := by
  obtain ⟨h0, ⟨h1, h1f⟩, ⟨h2, h2f⟩, ⟨h3, h3f⟩, h4, h5, h6, ⟨h7, h7f⟩, ⟨h8, h8f⟩, h9, hR, hL, hD, h78, ⟨iR, iL, iD⟩, f0, f1, f2, f3⟩ := h
  have kq := up_at (o := some (cFi (ad 1) (nI (sNR σ + 1)) (ad 2) (nI (sNL σ)) (ad 3) (ad 4) (ad 5) (ad 6) (sTH σ))) (up_at (o := some (arQ t 3 10 (va_up fR (sNR σ) (some q)))) (va_up_self g q (some (cRu v))) (hw_new h1 hq).symm) (hw_new h0 hq).symm
  have k0 : (va_up (va_up (va_up g q (some (cRu v))) (ad 1) (some (arQ t 3 10 (va_up fR (sNR σ) (some q))))) (ad 0) (some (cFi (ad 1) (nI (sNR σ + 1)) (ad 2) (nI (sNL σ)) (ad 3) (ad 4) (ad 5) (ad 6) (sTH σ)))) (ad 0) = _ := va_up_self (va_up (va_up g q (some (cRu v))) (ad 1) (some (arQ t 3 10 (va_up fR (sNR σ) (some q))))) (ad 0) (some (cFi (ad 1) (nI (sNR σ + 1)) (ad 2) (nI (sNL σ)) (ad 3) (ad 4) (ad 5) (ad 6) (sTH σ) : va_E))
  have k1 : (va_up (va_up (va_up g q (some (cRu v))) (ad 1) (some (arQ t 3 10 (va_up fR (sNR σ) (some q))))) (ad 0) (some (cFi (ad 1) (nI (sNR σ + 1)) (ad 2) (nI (sNL σ)) (ad 3) (ad 4) (ad 5) (ad 6) (sTH σ)))) (ad 1) = _ := up_at (va_up_self (va_up g q (some (cRu v))) (ad 1) (some (arQ t 3 10 (va_up fR (sNR σ) (some q)) : va_E))) (hw_kd h1 h0 rfl)
  have k2 : (va_up (va_up (va_up g q (some (cRu v))) (ad 1) (some (arQ t 3 10 (va_up fR (sNR σ) (some q))))) (ad 0) (some (cFi (ad 1) (nI (sNR σ + 1)) (ad 2) (nI (sNL σ)) (ad 3) (ad 4) (ad 5) (ad 6) (sTH σ)))) (ad 2) = _ := up_at (up_at (up_at h2 (hw_new h2 hq)) (hw_kd h2 h1 rfl)) (hw_kd h2 h0 rfl)
  have k3 : (va_up (va_up (va_up g q (some (cRu v))) (ad 1) (some (arQ t 3 10 (va_up fR (sNR σ) (some q))))) (ad 0) (some (cFi (ad 1) (nI (sNR σ + 1)) (ad 2) (nI (sNL σ)) (ad 3) (ad 4) (ad 5) (ad 6) (sTH σ)))) (ad 3) = _ := up_at (up_at (up_at h3 (hw_new h3 hq)) (hw_kd h3 h1 rfl)) (hw_kd h3 h0 rfl)
  have k4 : (va_up (va_up (va_up g q (some (cRu v))) (ad 1) (some (arQ t 3 10 (va_up fR (sNR σ) (some q))))) (ad 0) (some (cFi (ad 1) (nI (sNR σ + 1)) (ad 2) (nI (sNL σ)) (ad 3) (ad 4) (ad 5) (ad 6) (sTH σ)))) (ad 4) = _ := up_at (up_at (up_at h4 (hw_new h4 hq)) (hw_kd h4 h1 rfl)) (hw_kd h4 h0 rfl)
  have k5 : (va_up (va_up (va_up g q (some (cRu v))) (ad 1) (some (arQ t 3 10 (va_up fR (sNR σ) (some q))))) (ad 0) (some (cFi (ad 1) (nI (sNR σ + 1)) (ad 2) (nI (sNL σ)) (ad 3) (ad 4) (ad 5) (ad 6) (sTH σ)))) (ad 5) = _ := up_at (up_at (up_at h5 (hw_new h5 hq)) (hw_kd h5 h1 rfl)) (hw_kd h5 h0 rfl)
  have k6 : (va_up (va_up (va_up g q (some (cRu v))) (ad 1) (some (arQ t 3 10 (va_up fR (sNR σ) (some q))))) (ad 0) (some (cFi (ad 1) (nI (sNR σ + 1)) (ad 2) (nI (sNL σ)) (ad 3) (ad 4) (ad 5) (ad 6) (sTH σ)))) (ad 6) = _ := up_at (up_at (up_at h6 (hw_new h6 hq)) (hw_kd h6 h1 rfl)) (hw_kd h6 h0 rfl)
  have k7 : (va_up (va_up (va_up g q (some (cRu v))) (ad 1) (some (arQ t 3 10 (va_up fR (sNR σ) (some q))))) (ad 0) (some (cFi (ad 1) (nI (sNR σ + 1)) (ad 2) (nI (sNL σ)) (ad 3) (ad 4) (ad 5) (ad 6) (sTH σ)))) (ad 7) = _ := up_at (up_at (up_at h7 (hw_new h7 hq)) (hw_kd h7 h1 rfl)) (hw_kd h7 h0 rfl)
  have k8 : (va_up (va_up (va_up g q (some (cRu v))) (ad 1) (some (arQ t 3 10 (va_up fR (sNR σ) (some q))))) (ad 0) (some (cFi (ad 1) (nI (sNR σ + 1)) (ad 2) (nI (sNL σ)) (ad 3) (ad 4) (ad 5) (ad 6) (sTH σ)))) (ad 8) = _ := up_at (up_at (up_at h8 (hw_new h8 hq)) (hw_kd h8 h1 rfl)) (hw_kd h8 h0 rfl)
  have k9 : (va_up (va_up (va_up g q (some (cRu v))) (ad 1) (some (arQ t 3 10 (va_up fR (sNR σ) (some q))))) (ad 0) (some (cFi (ad 1) (nI (sNR σ + 1)) (ad 2) (nI (sNL σ)) (ad 3) (ad 4) (ad 5) (ad 6) (sTH σ)))) (ad 9) = _ := up_at (up_at (up_at h9 (hw_new h9 hq)) (hw_kd h9 h1 rfl)) (hw_kd h9 h0 rfl)
  have kR : ∀ z, z < sNR σ → (va_up (va_up (va_up g q (some (cRu v))) (ad 1) (some (arQ t 3 10 (va_up fR (sNR σ) (some q))))) (ad 0) (some (cFi (ad 1) (nI (sNR σ + 1)) (ad 2) (nI (sNL σ)) (ad 3) (ad 4) (ad 5) (ad 6) (sTH σ)))) (aR z) = some (cRu (sRV σ z)) := fun z hz => up_at (up_at (up_at (hR z hz) (hw_new (hR z hz) hq)) (hw_kd (hR z hz) h1 rfl)) (hw_kd (hR z hz) h0 rfl)
  have kL : ∀ z, z < sNL σ → (va_up (va_up (va_up g q (some (cRu v))) (ad 1) (some (arQ t 3 10 (va_up fR (sNR σ) (some q))))) (ad 0) (some (cFi (ad 1) (nI (sNR σ + 1)) (ad 2) (nI (sNL σ)) (ad 3) (ad 4) (ad 5) (ad 6) (sTH σ)))) (aL z) = some (cLc (lcOf aR aD (sLV σ z))) := fun z hz => up_at (up_at (up_at (hL z hz) (hw_new (hL z hz) hq)) (hw_kd (hL z hz) h1 rfl)) (hw_kd (hL z hz) h0 rfl)
  have kD : ∀ z, z < sND σ → (va_up (va_up (va_up g q (some (cRu v))) (ad 1) (some (arQ t 3 10 (va_up fR (sNR σ) (some q))))) (ad 0) (some (cFi (ad 1) (nI (sNR σ + 1)) (ad 2) (nI (sNL σ)) (ad 3) (ad 4) (ad 5) (ad 6) (sTH σ)))) (aD z) = some (cDv (dcOf aR (sLV σ) (sDV σ z))) := fun z hz => up_at (up_at (up_at (hD z hz) (hw_new (hD z hz) hq)) (hw_kd (hD z hz) h1 rfl)) (hw_kd (hD z hz) h0 rfl)
  refine ⟨k0, ⟨k1, up_all (Pp := fun a x => x = some a) h1f rfl⟩, ⟨k2, h2f⟩, ⟨k3, h3f⟩, k4, k5, k6, ⟨k7, h7f⟩, ⟨k8, h8f⟩, k9, up_all (Pp := fun a x => (va_up (va_up (va_up g q (some (cRu v))) (ad 1) (some (arQ t 3 10 (va_up fR (sNR σ) (some q))))) (ad 0) (some (cFi (ad 1) (nI (sNR σ + 1)) (ad 2) (nI (sNL σ)) (ad 3) (ad 4) (ad 5) (ad 6) (sTH σ)))) a = some (cRu x)) kR kq, fun k hk => by rw [lc_aR (hI.2.2.1 k hk).2.2.1]; exact kL k hk, fun k hk => by rw [dc_aR (hI.2.2.1 _ (hI.2.2.2.1 k hk).1).2.2.1]; exact kD k hk, h78, ⟨inj_up iR (fun k hk => hw_new (hR k hk) hq), iL, iD⟩, fun i h => Or.inl (f0 i h), up_all1 (Pp := gr F g) (fun k hk => Or.inl (f1 k hk)) (Or.inr hq), fun k hk => Or.inl (f2 k hk), fun k hk => Or.inl (f3 k hk)⟩
theorem RC.loanNew {F : Nat → Prop} {t : Nat → ClassId} {g : hG} {ad aR aL aD : Nat → Nat} {fR fL fI fN fB : Nat → Option Nat} {σ : SS} (h : RC F t g ad aR aL aD fR fL fI fN fB σ) (q i pn rl : Nat) (du : Int64) (hq : g q = none) (hI : Inv σ) (hi : i < 60) : RC (gr F g) t (va_up (va_up (va_up (va_up g q (some (cLo (nI i) (nI pn) (aR rl) du none 0))) (ad 3) (some (arQ t 4 60 (va_up fI i (some q))))) (ad 2) (some (arQ t 4 120 (va_up fL (sNL σ) (some q))))) (ad 0) (some (cFi (ad 1) (nI (sNR σ)) (ad 2) (nI (sNL σ + 1)) (ad 3) (ad 4) (ad 5) (ad 6) (sTH σ)))) ad aR (va_up aL (sNL σ) q) aD fR (va_up fL (sNL σ) (some q)) (va_up fI i (some q)) fN fB ((σ.1, (sNL σ + 1, va_up (sLV σ) (sNL σ) (i, pn, rl, du, 1, 0)), σ.2.2.1, σ.2.2.2.1, σ.2.2.2.2.1, sTH σ, va_up (sIT σ) i (some (sNL σ)))) := by
  obtain ⟨h0, ⟨h1, h1f⟩, ⟨h2, h2f⟩, ⟨h3, h3f⟩, h4, h5, h6, ⟨h7, h7f⟩, ⟨h8, h8f⟩, h9, hR, hL, hD, h78, ⟨iR, iL, iD⟩, f0, f1, f2, f3⟩ := h
  have kq := up_at (o := some (cFi (ad 1) (nI (sNR σ)) (ad 2) (nI (sNL σ + 1)) (ad 3) (ad 4) (ad 5) (ad 6) (sTH σ))) (up_at (o := some (arQ t 4 120 (va_up fL (sNL σ) (some q)))) (up_at (o := some (arQ t 4 60 (va_up fI i (some q)))) (va_up_self g q (some (cLo (nI i) (nI pn) (aR rl) du none 0))) (hw_new h3 hq).symm) (hw_new h2 hq).symm) (hw_new h0 hq).symm
  have k0 : (va_up (va_up (va_up (va_up g q (some (cLo (nI i) (nI pn) (aR rl) du none 0))) (ad 3) (some (arQ t 4 60 (va_up fI i (some q))))) (ad 2) (some (arQ t 4 120 (va_up fL (sNL σ) (some q))))) (ad 0) (some (cFi (ad 1) (nI (sNR σ)) (ad 2) (nI (sNL σ + 1)) (ad 3) (ad 4) (ad 5) (ad 6) (sTH σ)))) (ad 0) = _ := va_up_self (va_up (va_up (va_up g q (some (cLo (nI i) (nI pn) (aR rl) du none 0))) (ad 3) (some (arQ t 4 60 (va_up fI i (some q))))) (ad 2) (some (arQ t 4 120 (va_up fL (sNL σ) (some q))))) (ad 0) (some (cFi (ad 1) (nI (sNR σ)) (ad 2) (nI (sNL σ + 1)) (ad 3) (ad 4) (ad 5) (ad 6) (sTH σ) : va_E))
  have k1 : (va_up (va_up (va_up (va_up g q (some (cLo (nI i) (nI pn) (aR rl) du none 0))) (ad 3) (some (arQ t 4 60 (va_up fI i (some q))))) (ad 2) (some (arQ t 4 120 (va_up fL (sNL σ) (some q))))) (ad 0) (some (cFi (ad 1) (nI (sNR σ)) (ad 2) (nI (sNL σ + 1)) (ad 3) (ad 4) (ad 5) (ad 6) (sTH σ)))) (ad 1) = _ := up_at (up_at (up_at (up_at h1 (hw_new h1 hq)) (hw_kd h1 h3 rfl)) (hw_kd h1 h2 rfl)) (hw_kd h1 h0 rfl)
  have k2 : (va_up (va_up (va_up (va_up g q (some (cLo (nI i) (nI pn) (aR rl) du none 0))) (ad 3) (some (arQ t 4 60 (va_up fI i (some q))))) (ad 2) (some (arQ t 4 120 (va_up fL (sNL σ) (some q))))) (ad 0) (some (cFi (ad 1) (nI (sNR σ)) (ad 2) (nI (sNL σ + 1)) (ad 3) (ad 4) (ad 5) (ad 6) (sTH σ)))) (ad 2) = _ := up_at (va_up_self (va_up (va_up g q (some (cLo (nI i) (nI pn) (aR rl) du none 0))) (ad 3) (some (arQ t 4 60 (va_up fI i (some q))))) (ad 2) (some (arQ t 4 120 (va_up fL (sNL σ) (some q)) : va_E))) (hw_kd h2 h0 rfl)
  have k3 : (va_up (va_up (va_up (va_up g q (some (cLo (nI i) (nI pn) (aR rl) du none 0))) (ad 3) (some (arQ t 4 60 (va_up fI i (some q))))) (ad 2) (some (arQ t 4 120 (va_up fL (sNL σ) (some q))))) (ad 0) (some (cFi (ad 1) (nI (sNR σ)) (ad 2) (nI (sNL σ + 1)) (ad 3) (ad 4) (ad 5) (ad 6) (sTH σ)))) (ad 3) = _ := up_at (up_at (va_up_self (va_up g q (some (cLo (nI i) (nI pn) (aR rl) du none 0))) (ad 3) (some (arQ t 4 60 (va_up fI i (some q)) : va_E))) (hw_kd h3 h2 rfl)) (hw_kd h3 h0 rfl)
  have k4 : (va_up (va_up (va_up (va_up g q (some (cLo (nI i) (nI pn) (aR rl) du none 0))) (ad 3) (some (arQ t 4 60 (va_up fI i (some q))))) (ad 2) (some (arQ t 4 120 (va_up fL (sNL σ) (some q))))) (ad 0) (some (cFi (ad 1) (nI (sNR σ)) (ad 2) (nI (sNL σ + 1)) (ad 3) (ad 4) (ad 5) (ad 6) (sTH σ)))) (ad 4) = _ := up_at (up_at (up_at (up_at h4 (hw_new h4 hq)) (hw_kd h4 h3 rfl)) (hw_kd h4 h2 rfl)) (hw_kd h4 h0 rfl)
  have k5 : (va_up (va_up (va_up (va_up g q (some (cLo (nI i) (nI pn) (aR rl) du none 0))) (ad 3) (some (arQ t 4 60 (va_up fI i (some q))))) (ad 2) (some (arQ t 4 120 (va_up fL (sNL σ) (some q))))) (ad 0) (some (cFi (ad 1) (nI (sNR σ)) (ad 2) (nI (sNL σ + 1)) (ad 3) (ad 4) (ad 5) (ad 6) (sTH σ)))) (ad 5) = _ := up_at (up_at (up_at (up_at h5 (hw_new h5 hq)) (hw_kd h5 h3 rfl)) (hw_kd h5 h2 rfl)) (hw_kd h5 h0 rfl)
  have k6 : (va_up (va_up (va_up (va_up g q (some (cLo (nI i) (nI pn) (aR rl) du none 0))) (ad 3) (some (arQ t 4 60 (va_up fI i (some q))))) (ad 2) (some (arQ t 4 120 (va_up fL (sNL σ) (some q))))) (ad 0) (some (cFi (ad 1) (nI (sNR σ)) (ad 2) (nI (sNL σ + 1)) (ad 3) (ad 4) (ad 5) (ad 6) (sTH σ)))) (ad 6) = _ := up_at (up_at (up_at (up_at h6 (hw_new h6 hq)) (hw_kd h6 h3 rfl)) (hw_kd h6 h2 rfl)) (hw_kd h6 h0 rfl)
  have k7 : (va_up (va_up (va_up (va_up g q (some (cLo (nI i) (nI pn) (aR rl) du none 0))) (ad 3) (some (arQ t 4 60 (va_up fI i (some q))))) (ad 2) (some (arQ t 4 120 (va_up fL (sNL σ) (some q))))) (ad 0) (some (cFi (ad 1) (nI (sNR σ)) (ad 2) (nI (sNL σ + 1)) (ad 3) (ad 4) (ad 5) (ad 6) (sTH σ)))) (ad 7) = _ := up_at (up_at (up_at (up_at h7 (hw_new h7 hq)) (hw_kd h7 h3 rfl)) (hw_kd h7 h2 rfl)) (hw_kd h7 h0 rfl)
  have k8 : (va_up (va_up (va_up (va_up g q (some (cLo (nI i) (nI pn) (aR rl) du none 0))) (ad 3) (some (arQ t 4 60 (va_up fI i (some q))))) (ad 2) (some (arQ t 4 120 (va_up fL (sNL σ) (some q))))) (ad 0) (some (cFi (ad 1) (nI (sNR σ)) (ad 2) (nI (sNL σ + 1)) (ad 3) (ad 4) (ad 5) (ad 6) (sTH σ)))) (ad 8) = _ := up_at (up_at (up_at (up_at h8 (hw_new h8 hq)) (hw_kd h8 h3 rfl)) (hw_kd h8 h2 rfl)) (hw_kd h8 h0 rfl)
  have k9 : (va_up (va_up (va_up (va_up g q (some (cLo (nI i) (nI pn) (aR rl) du none 0))) (ad 3) (some (arQ t 4 60 (va_up fI i (some q))))) (ad 2) (some (arQ t 4 120 (va_up fL (sNL σ) (some q))))) (ad 0) (some (cFi (ad 1) (nI (sNR σ)) (ad 2) (nI (sNL σ + 1)) (ad 3) (ad 4) (ad 5) (ad 6) (sTH σ)))) (ad 9) = _ := up_at (up_at (up_at (up_at h9 (hw_new h9 hq)) (hw_kd h9 h3 rfl)) (hw_kd h9 h2 rfl)) (hw_kd h9 h0 rfl)
  have kR : ∀ z, z < sNR σ → (va_up (va_up (va_up (va_up g q (some (cLo (nI i) (nI pn) (aR rl) du none 0))) (ad 3) (some (arQ t 4 60 (va_up fI i (some q))))) (ad 2) (some (arQ t 4 120 (va_up fL (sNL σ) (some q))))) (ad 0) (some (cFi (ad 1) (nI (sNR σ)) (ad 2) (nI (sNL σ + 1)) (ad 3) (ad 4) (ad 5) (ad 6) (sTH σ)))) (aR z) = some (cRu (sRV σ z)) := fun z hz => up_at (up_at (up_at (up_at (hR z hz) (hw_new (hR z hz) hq)) (hw_kd (hR z hz) h3 rfl)) (hw_kd (hR z hz) h2 rfl)) (hw_kd (hR z hz) h0 rfl)
  have kL : ∀ z, z < sNL σ → (va_up (va_up (va_up (va_up g q (some (cLo (nI i) (nI pn) (aR rl) du none 0))) (ad 3) (some (arQ t 4 60 (va_up fI i (some q))))) (ad 2) (some (arQ t 4 120 (va_up fL (sNL σ) (some q))))) (ad 0) (some (cFi (ad 1) (nI (sNR σ)) (ad 2) (nI (sNL σ + 1)) (ad 3) (ad 4) (ad 5) (ad 6) (sTH σ)))) (aL z) = some (cLc (lcOf aR aD (sLV σ z))) := fun z hz => up_at (up_at (up_at (up_at (hL z hz) (hw_new (hL z hz) hq)) (hw_kd (hL z hz) h3 rfl)) (hw_kd (hL z hz) h2 rfl)) (hw_kd (hL z hz) h0 rfl)
  have kD : ∀ z, z < sND σ → (va_up (va_up (va_up (va_up g q (some (cLo (nI i) (nI pn) (aR rl) du none 0))) (ad 3) (some (arQ t 4 60 (va_up fI i (some q))))) (ad 2) (some (arQ t 4 120 (va_up fL (sNL σ) (some q))))) (ad 0) (some (cFi (ad 1) (nI (sNR σ)) (ad 2) (nI (sNL σ + 1)) (ad 3) (ad 4) (ad 5) (ad 6) (sTH σ)))) (aD z) = some (cDv (dcOf aR (sLV σ) (sDV σ z))) := fun z hz => up_at (up_at (up_at (up_at (hD z hz) (hw_new (hD z hz) hq)) (hw_kd (hD z hz) h3 rfl)) (hw_kd (hD z hz) h2 rfl)) (hw_kd (hD z hz) h0 rfl)
  refine ⟨k0, ⟨k1, h1f⟩, ⟨k2, up_all (Pp := fun a x => x = some a) h2f rfl⟩, ⟨k3, it_up h3f (fun j hj k hk => by have := ((hI.2.2.2.2.1 j hj k).mp hk).1; omega)⟩, k4, k5, k6, ⟨k7, h7f⟩, ⟨k8, h8f⟩, k9, kR, up_all (Pp := fun a x => (va_up (va_up (va_up (va_up g q (some (cLo (nI i) (nI pn) (aR rl) du none 0))) (ad 3) (some (arQ t 4 60 (va_up fI i (some q))))) (ad 2) (some (arQ t 4 120 (va_up fL (sNL σ) (some q))))) (ad 0) (some (cFi (ad 1) (nI (sNR σ)) (ad 2) (nI (sNL σ + 1)) (ad 3) (ad 4) (ad 5) (ad 6) (sTH σ)))) a = some (cLc (lcOf aR aD x))) kL kq, fun k hk => (kD k hk).trans (by rw [dc_new (hI.2.2.2.1 k hk).1]), h78, ⟨iR, inj_up iL (fun k hk => hw_new (hL k hk) hq), iD⟩, fun i h => Or.inl (f0 i h), fun k hk => Or.inl (f1 k hk), up_all1 (Pp := gr F g) (fun k hk => Or.inl (f2 k hk)) (Or.inr hq), fun k hk => Or.inl (f3 k hk)⟩
theorem RC.loan {F : Nat → Prop} {t : Nat → ClassId} {g : hG} {ad aR aL aD : Nat → Nat} {fR fL fI fN fB : Nat → Option Nat} {σ : SS} (h : RC F t g ad aR aL aD fR fL fI fN fB σ) (k : Nat) (v : LV) (hk : k < sNL σ) (hv : v.2.1 = (sLV σ k).2.1 ∧ v.2.2.1 = (sLV σ k).2.2.1) : RC F t (va_up g (aL k) (some (cLc (lcOf aR aD v)))) ad aR aL aD fR fL fI fN fB ((σ.1, (sNL σ, va_up (sLV σ) k v), σ.2.2)) := by
  obtain ⟨h0, ⟨h1, h1f⟩, ⟨h2, h2f⟩, ⟨h3, h3f⟩, h4, h5, h6, ⟨h7, h7f⟩, ⟨h8, h8f⟩, h9, hR, hL, hD, h78, ⟨iR, iL, iD⟩, f0, f1, f2, f3⟩ := h
  have k0 : (va_up g (aL k) (some (cLc (lcOf aR aD v)))) (ad 0) = _ := up_at h0 (hw_kd h0 (hL k hk) rfl)
  have k1 : (va_up g (aL k) (some (cLc (lcOf aR aD v)))) (ad 1) = _ := up_at h1 (hw_kd h1 (hL k hk) rfl)
  have k2 : (va_up g (aL k) (some (cLc (lcOf aR aD v)))) (ad 2) = _ := up_at h2 (hw_kd h2 (hL k hk) rfl)
  have k3 : (va_up g (aL k) (some (cLc (lcOf aR aD v)))) (ad 3) = _ := up_at h3 (hw_kd h3 (hL k hk) rfl)
  have k4 : (va_up g (aL k) (some (cLc (lcOf aR aD v)))) (ad 4) = _ := up_at h4 (hw_kd h4 (hL k hk) rfl)
  have k5 : (va_up g (aL k) (some (cLc (lcOf aR aD v)))) (ad 5) = _ := up_at h5 (hw_kd h5 (hL k hk) rfl)
  have k6 : (va_up g (aL k) (some (cLc (lcOf aR aD v)))) (ad 6) = _ := up_at h6 (hw_kd h6 (hL k hk) rfl)
  have k7 : (va_up g (aL k) (some (cLc (lcOf aR aD v)))) (ad 7) = _ := up_at h7 (hw_kd h7 (hL k hk) rfl)
  have k8 : (va_up g (aL k) (some (cLc (lcOf aR aD v)))) (ad 8) = _ := up_at h8 (hw_kd h8 (hL k hk) rfl)
  have k9 : (va_up g (aL k) (some (cLc (lcOf aR aD v)))) (ad 9) = _ := up_at h9 (hw_kd h9 (hL k hk) rfl)
  have kR : ∀ z, z < sNR σ → (va_up g (aL k) (some (cLc (lcOf aR aD v)))) (aR z) = some (cRu (sRV σ z)) := fun z hz => up_at (hR z hz) (hw_kd (hR z hz) (hL k hk) rfl)
  have kL : ∀ j, j < sNL σ → (va_up g (aL k) (some (cLc (lcOf aR aD v)))) (aL j) = some (cLc (lcOf aR aD (va_up (sLV σ) k v j))) := fun j hj => by
    by_cases e : j = k
    · subst e; rw [va_up_self, va_up_self]
    · rw [va_up_ne (sLV σ) v e]; exact up_at (hL j hj) (fun q => e (iL j k hj hk q))
  have kD : ∀ z, z < sND σ → (va_up g (aL k) (some (cLc (lcOf aR aD v)))) (aD z) = some (cDv (dcOf aR (sLV σ) (sDV σ z))) := fun z hz => up_at (hD z hz) (hw_kd (hD z hz) (hL k hk) rfl)
  refine ⟨k0, ⟨k1, h1f⟩, ⟨k2, h2f⟩, ⟨k3, h3f⟩, k4, k5, k6, ⟨k7, h7f⟩, ⟨k8, h8f⟩, k9, kR, kL, fun z hz => (kD z hz).trans (by rw [dc_up hv]), h78, ⟨iR, iL, iD⟩, f0, f1, f2, f3⟩
theorem RC.item {F : Nat → Prop} {t : Nat → ClassId} {g : hG} {ad aR aL aD : Nat → Nat} {fR fL fI fN fB : Nat → Option Nat} {σ : SS} (h : RC F t g ad aR aL aD fR fL fI fN fB σ) (i : Nat)  : RC F t (va_up g (ad 3) (some (arQ t 4 60 (va_up fI i none)))) ad aR aL aD fR fL (va_up fI i none) fN fB ((σ.1, σ.2.1, σ.2.2.1, σ.2.2.2.1, σ.2.2.2.2.1, sTH σ, va_up (sIT σ) i none)) := by
  obtain ⟨h0, ⟨h1, h1f⟩, ⟨h2, h2f⟩, ⟨h3, h3f⟩, h4, h5, h6, ⟨h7, h7f⟩, ⟨h8, h8f⟩, h9, hR, hL, hD, h78, ⟨iR, iL, iD⟩, f0, f1, f2, f3⟩ := h
  have k0 : (va_up g (ad 3) (some (arQ t 4 60 (va_up fI i none)))) (ad 0) = _ := up_at h0 (hw_kd h0 h3 rfl)
  have k1 : (va_up g (ad 3) (some (arQ t 4 60 (va_up fI i none)))) (ad 1) = _ := up_at h1 (hw_kd h1 h3 rfl)
  have k2 : (va_up g (ad 3) (some (arQ t 4 60 (va_up fI i none)))) (ad 2) = _ := up_at h2 (hw_kd h2 h3 rfl)
  have k3 : (va_up g (ad 3) (some (arQ t 4 60 (va_up fI i none)))) (ad 3) = _ := va_up_self g (ad 3) (some (arQ t 4 60 (va_up fI i none) : va_E))
  have k4 : (va_up g (ad 3) (some (arQ t 4 60 (va_up fI i none)))) (ad 4) = _ := up_at h4 (hw_kd h4 h3 rfl)
  have k5 : (va_up g (ad 3) (some (arQ t 4 60 (va_up fI i none)))) (ad 5) = _ := up_at h5 (hw_kd h5 h3 rfl)
  have k6 : (va_up g (ad 3) (some (arQ t 4 60 (va_up fI i none)))) (ad 6) = _ := up_at h6 (hw_kd h6 h3 rfl)
  have k7 : (va_up g (ad 3) (some (arQ t 4 60 (va_up fI i none)))) (ad 7) = _ := up_at h7 (hw_kd h7 h3 rfl)
  have k8 : (va_up g (ad 3) (some (arQ t 4 60 (va_up fI i none)))) (ad 8) = _ := up_at h8 (hw_kd h8 h3 rfl)
  have k9 : (va_up g (ad 3) (some (arQ t 4 60 (va_up fI i none)))) (ad 9) = _ := up_at h9 (hw_kd h9 h3 rfl)
  have kR : ∀ z, z < sNR σ → (va_up g (ad 3) (some (arQ t 4 60 (va_up fI i none)))) (aR z) = some (cRu (sRV σ z)) := fun z hz => up_at (hR z hz) (hw_kd (hR z hz) h3 rfl)
  have kL : ∀ z, z < sNL σ → (va_up g (ad 3) (some (arQ t 4 60 (va_up fI i none)))) (aL z) = some (cLc (lcOf aR aD (sLV σ z))) := fun z hz => up_at (hL z hz) (hw_kd (hL z hz) h3 rfl)
  have kD : ∀ z, z < sND σ → (va_up g (ad 3) (some (arQ t 4 60 (va_up fI i none)))) (aD z) = some (cDv (dcOf aR (sLV σ) (sDV σ z))) := fun z hz => up_at (hD z hz) (hw_kd (hD z hz) h3 rfl)
  refine ⟨k0, ⟨k1, h1f⟩, ⟨k2, h2f⟩, ⟨k3, it_no h3f⟩, k4, k5, k6, ⟨k7, h7f⟩, ⟨k8, h8f⟩, k9, kR, kL, kD, h78, ⟨iR, iL, iD⟩, f0, f1, f2, f3⟩
theorem RC.debt {F : Nat → Prop} {t : Nat → ClassId} {g : hG} {ad aR aL aD : Nat → Nat} {fR fL fI fN fB : Nat → Option Nat} {σ : SS} (h : RC F t g ad aR aL aD fR fL fI fN fB σ) (k : Nat) (v : DV) (hk : k < sND σ) : RC F t (va_up g (aD k) (some (cDv (dcOf aR (sLV σ) v)))) ad aR aL aD fR fL fI fN fB ((σ.1, σ.2.1, (sND σ, va_up (sDV σ) k v, sOD σ), σ.2.2.2)) := by
  obtain ⟨h0, ⟨h1, h1f⟩, ⟨h2, h2f⟩, ⟨h3, h3f⟩, h4, h5, h6, ⟨h7, h7f⟩, ⟨h8, h8f⟩, h9, hR, hL, hD, h78, ⟨iR, iL, iD⟩, f0, f1, f2, f3⟩ := h
  have k0 : (va_up g (aD k) (some (cDv (dcOf aR (sLV σ) v)))) (ad 0) = _ := up_at h0 (hw_kd h0 (hD k hk) rfl)
  have k1 : (va_up g (aD k) (some (cDv (dcOf aR (sLV σ) v)))) (ad 1) = _ := up_at h1 (hw_kd h1 (hD k hk) rfl)
  have k2 : (va_up g (aD k) (some (cDv (dcOf aR (sLV σ) v)))) (ad 2) = _ := up_at h2 (hw_kd h2 (hD k hk) rfl)
  have k3 : (va_up g (aD k) (some (cDv (dcOf aR (sLV σ) v)))) (ad 3) = _ := up_at h3 (hw_kd h3 (hD k hk) rfl)
  have k4 : (va_up g (aD k) (some (cDv (dcOf aR (sLV σ) v)))) (ad 4) = _ := up_at h4 (hw_kd h4 (hD k hk) rfl)
  have k5 : (va_up g (aD k) (some (cDv (dcOf aR (sLV σ) v)))) (ad 5) = _ := up_at h5 (hw_kd h5 (hD k hk) rfl)
  have k6 : (va_up g (aD k) (some (cDv (dcOf aR (sLV σ) v)))) (ad 6) = _ := up_at h6 (hw_kd h6 (hD k hk) rfl)
  have k7 : (va_up g (aD k) (some (cDv (dcOf aR (sLV σ) v)))) (ad 7) = _ := up_at h7 (hw_kd h7 (hD k hk) rfl)
  have k8 : (va_up g (aD k) (some (cDv (dcOf aR (sLV σ) v)))) (ad 8) = _ := up_at h8 (hw_kd h8 (hD k hk) rfl)
  have k9 : (va_up g (aD k) (some (cDv (dcOf aR (sLV σ) v)))) (ad 9) = _ := up_at h9 (hw_kd h9 (hD k hk) rfl)
  have kR : ∀ z, z < sNR σ → (va_up g (aD k) (some (cDv (dcOf aR (sLV σ) v)))) (aR z) = some (cRu (sRV σ z)) := fun z hz => up_at (hR z hz) (hw_kd (hR z hz) (hD k hk) rfl)
  have kL : ∀ z, z < sNL σ → (va_up g (aD k) (some (cDv (dcOf aR (sLV σ) v)))) (aL z) = some (cLc (lcOf aR aD (sLV σ z))) := fun z hz => up_at (hL z hz) (hw_kd (hL z hz) (hD k hk) rfl)
  have kD : ∀ j, j < sND σ → (va_up g (aD k) (some (cDv (dcOf aR (sLV σ) v)))) (aD j) = some (cDv (dcOf aR (sLV σ) (va_up (sDV σ) k v j))) := fun j hj => by
    by_cases e : j = k
    · subst e; rw [va_up_self, va_up_self]
    · rw [va_up_ne (sDV σ) v e]; exact up_at (hD j hj) (fun q => e (iD j k hj hk q))
  refine ⟨k0, ⟨k1, h1f⟩, ⟨k2, h2f⟩, ⟨k3, h3f⟩, k4, k5, k6, ⟨k7, h7f⟩, ⟨k8, h8f⟩, k9, kR, kL, kD, h78, ⟨iR, iL, iD⟩, f0, f1, f2, f3⟩
theorem RC.debtNew {F : Nat → Prop} {t : Nat → ClassId} {g : hG} {ad aR aL aD : Nat → Nat} {fR fL fI fN fB : Nat → Option Nat} {σ : SS} (h : RC F t g ad aR aL aD fR fL fI fN fB σ) (q pp : Nat) (v : DV) (hq : g q = none) (hI : Inv σ) (hpp : pp ≤ sND σ) (hn : sND σ < 200) : RC (gr F g) t (va_up (va_up (va_up (va_up g q (some (cDv (dcOf aR (sLV σ) v)))) (ad 8) (some (arQ t 5 200 (insF fB (sND σ) pp q)))) (ad 7) (some (arQ t 5 200 (va_up fN (sND σ) (some q))))) (ad 4) (some (cBr (ad 7) (ad 8) (nI (sND σ + 1))))) ad aR aL (va_up aD (sND σ) q) fR fL fI (va_up fN (sND σ) (some q)) (insF fB (sND σ) pp q) ((σ.1, σ.2.1, (sND σ + 1, va_up (sDV σ) (sND σ) v, insO (sOD σ) (sND σ) pp), σ.2.2.2)) := by
  obtain ⟨h0, ⟨h1, h1f⟩, ⟨h2, h2f⟩, ⟨h3, h3f⟩, h4, h5, h6, ⟨h7, h7f⟩, ⟨h8, h8f⟩, h9, hR, hL, hD, h78, ⟨iR, iL, iD⟩, f0, f1, f2, f3⟩ := h
  have kq := up_at (o := some (cBr (ad 7) (ad 8) (nI (sND σ + 1)))) (up_at (o := some (arQ t 5 200 (va_up fN (sND σ) (some q)))) (up_at (o := some (arQ t 5 200 (insF fB (sND σ) pp q))) (va_up_self g q (some (cDv (dcOf aR (sLV σ) v)))) (hw_new h8 hq).symm) (hw_new h7 hq).symm) (hw_new h4 hq).symm
  have k0 : (va_up (va_up (va_up (va_up g q (some (cDv (dcOf aR (sLV σ) v)))) (ad 8) (some (arQ t 5 200 (insF fB (sND σ) pp q)))) (ad 7) (some (arQ t 5 200 (va_up fN (sND σ) (some q))))) (ad 4) (some (cBr (ad 7) (ad 8) (nI (sND σ + 1))))) (ad 0) = _ := up_at (up_at (up_at (up_at h0 (hw_new h0 hq)) (hw_kd h0 h8 rfl)) (hw_kd h0 h7 rfl)) (hw_kd h0 h4 rfl)
  have k1 : (va_up (va_up (va_up (va_up g q (some (cDv (dcOf aR (sLV σ) v)))) (ad 8) (some (arQ t 5 200 (insF fB (sND σ) pp q)))) (ad 7) (some (arQ t 5 200 (va_up fN (sND σ) (some q))))) (ad 4) (some (cBr (ad 7) (ad 8) (nI (sND σ + 1))))) (ad 1) = _ := up_at (up_at (up_at (up_at h1 (hw_new h1 hq)) (hw_kd h1 h8 rfl)) (hw_kd h1 h7 rfl)) (hw_kd h1 h4 rfl)
  have k2 : (va_up (va_up (va_up (va_up g q (some (cDv (dcOf aR (sLV σ) v)))) (ad 8) (some (arQ t 5 200 (insF fB (sND σ) pp q)))) (ad 7) (some (arQ t 5 200 (va_up fN (sND σ) (some q))))) (ad 4) (some (cBr (ad 7) (ad 8) (nI (sND σ + 1))))) (ad 2) = _ := up_at (up_at (up_at (up_at h2 (hw_new h2 hq)) (hw_kd h2 h8 rfl)) (hw_kd h2 h7 rfl)) (hw_kd h2 h4 rfl)
  have k3 : (va_up (va_up (va_up (va_up g q (some (cDv (dcOf aR (sLV σ) v)))) (ad 8) (some (arQ t 5 200 (insF fB (sND σ) pp q)))) (ad 7) (some (arQ t 5 200 (va_up fN (sND σ) (some q))))) (ad 4) (some (cBr (ad 7) (ad 8) (nI (sND σ + 1))))) (ad 3) = _ := up_at (up_at (up_at (up_at h3 (hw_new h3 hq)) (hw_kd h3 h8 rfl)) (hw_kd h3 h7 rfl)) (hw_kd h3 h4 rfl)
  have k4 : (va_up (va_up (va_up (va_up g q (some (cDv (dcOf aR (sLV σ) v)))) (ad 8) (some (arQ t 5 200 (insF fB (sND σ) pp q)))) (ad 7) (some (arQ t 5 200 (va_up fN (sND σ) (some q))))) (ad 4) (some (cBr (ad 7) (ad 8) (nI (sND σ + 1))))) (ad 4) = _ := va_up_self (va_up (va_up (va_up g q (some (cDv (dcOf aR (sLV σ) v)))) (ad 8) (some (arQ t 5 200 (insF fB (sND σ) pp q)))) (ad 7) (some (arQ t 5 200 (va_up fN (sND σ) (some q))))) (ad 4) (some (cBr (ad 7) (ad 8) (nI (sND σ + 1)) : va_E))
  have k5 : (va_up (va_up (va_up (va_up g q (some (cDv (dcOf aR (sLV σ) v)))) (ad 8) (some (arQ t 5 200 (insF fB (sND σ) pp q)))) (ad 7) (some (arQ t 5 200 (va_up fN (sND σ) (some q))))) (ad 4) (some (cBr (ad 7) (ad 8) (nI (sND σ + 1))))) (ad 5) = _ := up_at (up_at (up_at (up_at h5 (hw_new h5 hq)) (hw_kd h5 h8 rfl)) (hw_kd h5 h7 rfl)) (hw_kd h5 h4 rfl)
  have k6 : (va_up (va_up (va_up (va_up g q (some (cDv (dcOf aR (sLV σ) v)))) (ad 8) (some (arQ t 5 200 (insF fB (sND σ) pp q)))) (ad 7) (some (arQ t 5 200 (va_up fN (sND σ) (some q))))) (ad 4) (some (cBr (ad 7) (ad 8) (nI (sND σ + 1))))) (ad 6) = _ := up_at (up_at (up_at (up_at h6 (hw_new h6 hq)) (hw_kd h6 h8 rfl)) (hw_kd h6 h7 rfl)) (hw_kd h6 h4 rfl)
  have k7 : (va_up (va_up (va_up (va_up g q (some (cDv (dcOf aR (sLV σ) v)))) (ad 8) (some (arQ t 5 200 (insF fB (sND σ) pp q)))) (ad 7) (some (arQ t 5 200 (va_up fN (sND σ) (some q))))) (ad 4) (some (cBr (ad 7) (ad 8) (nI (sND σ + 1))))) (ad 7) = _ := up_at (va_up_self (va_up (va_up g q (some (cDv (dcOf aR (sLV σ) v)))) (ad 8) (some (arQ t 5 200 (insF fB (sND σ) pp q)))) (ad 7) (some (arQ t 5 200 (va_up fN (sND σ) (some q)) : va_E))) (hw_kd h7 h4 rfl)
  have k8 : (va_up (va_up (va_up (va_up g q (some (cDv (dcOf aR (sLV σ) v)))) (ad 8) (some (arQ t 5 200 (insF fB (sND σ) pp q)))) (ad 7) (some (arQ t 5 200 (va_up fN (sND σ) (some q))))) (ad 4) (some (cBr (ad 7) (ad 8) (nI (sND σ + 1))))) (ad 8) = _ := up_at (up_at (va_up_self (va_up g q (some (cDv (dcOf aR (sLV σ) v)))) (ad 8) (some (arQ t 5 200 (insF fB (sND σ) pp q) : va_E))) (h78.symm)) (hw_kd h8 h4 rfl)
  have k9 : (va_up (va_up (va_up (va_up g q (some (cDv (dcOf aR (sLV σ) v)))) (ad 8) (some (arQ t 5 200 (insF fB (sND σ) pp q)))) (ad 7) (some (arQ t 5 200 (va_up fN (sND σ) (some q))))) (ad 4) (some (cBr (ad 7) (ad 8) (nI (sND σ + 1))))) (ad 9) = _ := up_at (up_at (up_at (up_at h9 (hw_new h9 hq)) (hw_kd h9 h8 rfl)) (hw_kd h9 h7 rfl)) (hw_kd h9 h4 rfl)
  have kR : ∀ z, z < sNR σ → (va_up (va_up (va_up (va_up g q (some (cDv (dcOf aR (sLV σ) v)))) (ad 8) (some (arQ t 5 200 (insF fB (sND σ) pp q)))) (ad 7) (some (arQ t 5 200 (va_up fN (sND σ) (some q))))) (ad 4) (some (cBr (ad 7) (ad 8) (nI (sND σ + 1))))) (aR z) = some (cRu (sRV σ z)) := fun z hz => up_at (up_at (up_at (up_at (hR z hz) (hw_new (hR z hz) hq)) (hw_kd (hR z hz) h8 rfl)) (hw_kd (hR z hz) h7 rfl)) (hw_kd (hR z hz) h4 rfl)
  have kL : ∀ z, z < sNL σ → (va_up (va_up (va_up (va_up g q (some (cDv (dcOf aR (sLV σ) v)))) (ad 8) (some (arQ t 5 200 (insF fB (sND σ) pp q)))) (ad 7) (some (arQ t 5 200 (va_up fN (sND σ) (some q))))) (ad 4) (some (cBr (ad 7) (ad 8) (nI (sND σ + 1))))) (aL z) = some (cLc (lcOf aR aD (sLV σ z))) := fun z hz => up_at (up_at (up_at (up_at (hL z hz) (hw_new (hL z hz) hq)) (hw_kd (hL z hz) h8 rfl)) (hw_kd (hL z hz) h7 rfl)) (hw_kd (hL z hz) h4 rfl)
  have kD : ∀ z, z < sND σ → (va_up (va_up (va_up (va_up g q (some (cDv (dcOf aR (sLV σ) v)))) (ad 8) (some (arQ t 5 200 (insF fB (sND σ) pp q)))) (ad 7) (some (arQ t 5 200 (va_up fN (sND σ) (some q))))) (ad 4) (some (cBr (ad 7) (ad 8) (nI (sND σ + 1))))) (aD z) = some (cDv (dcOf aR (sLV σ) (sDV σ z))) := fun z hz => up_at (up_at (up_at (up_at (hD z hz) (hw_new (hD z hz) hq)) (hw_kd (hD z hz) h8 rfl)) (hw_kd (hD z hz) h7 rfl)) (hw_kd (hD z hz) h4 rfl)
  refine ⟨k0, ⟨k1, h1f⟩, ⟨k2, h2f⟩, ⟨k3, h3f⟩, k4, k5, k6, ⟨k7, up_all (Pp := fun a x => x = some a) h7f rfl⟩, ⟨k8, ins_ok h8f hI.2.2.2.2.2.1 hpp⟩, k9, kR, fun k hk => by rw [lc_aD (hI.2.2.1 k hk).2.2.2.2.1]; exact kL k hk, up_all (Pp := fun a x => (va_up (va_up (va_up (va_up g q (some (cDv (dcOf aR (sLV σ) v)))) (ad 8) (some (arQ t 5 200 (insF fB (sND σ) pp q)))) (ad 7) (some (arQ t 5 200 (va_up fN (sND σ) (some q))))) (ad 4) (some (cBr (ad 7) (ad 8) (nI (sND σ + 1))))) a = some (cDv (dcOf aR (sLV σ) x))) kD kq, h78, ⟨iR, iL, inj_up iD (fun k hk => hw_new (hD k hk) hq)⟩, fun i h => Or.inl (f0 i h), fun k hk => Or.inl (f1 k hk), fun k hk => Or.inl (f2 k hk), up_all1 (Pp := gr F g) (fun k hk => Or.inl (f3 k hk)) (Or.inr hq)⟩
