theorem pos_ne0 {z M : Int32} (h : wi z 1 M = true) : ¬ z.toInt64 = 0 := toI64_ne0 (fun q => by
  have h1 := (wi_iff.mp h).1
  rw [Int32.le_iff_toInt_le] at h1 q
  have e0 : (0 : Int32).toInt = 0 := by decide
  have e1 : (1 : Int32).toInt = 1 := by decide
  omega)
theorem balJ_S (aR : Nat → Nat) (σ : SS) {x : Int32} (h : wi x 0 29 = true) : balJ (fun k => dcOf aR (sLV σ) (sDV σ k)) (sND σ) (fun i => lN (sKR σ i)) x = balS σ x := by
  rw [balJ, if_pos h, sLe_sum]; rfl
