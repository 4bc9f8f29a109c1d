set_option maxHeartbeats 4000000 in
set_option maxRecDepth 100000 in
theorem c_M_interest (l : Launch) (D : va_G) (t : Nat → ClassId) (A : Nat → Prop) (g : hG) (ma : Nat → Nat) (tv : Int32) (σ : SS) (x y z : Int32) (hMx : RMx t ma tv σ g) (hV : Inv σ) : Met l y_M_interest (Cond.code y_M_interest b_M_interest 5 (some .int) :: TB) ({ frames := 1, cells := 0, slots := 0, locals := 25 } : Room) (va_Pc [.ref (ma 0), .int x, .int y, .int z] (hI D vwCl (tyL t) EX A g)) (va_Qi (fun r u => (¬ (okInt σ x y z = true ∧ z = 0) → r = (spInt σ x y z).1) ∧ RMx t ma (bi (okInt σ x y z && decide (z = 0))) (spInt σ x y z).2 u ∧ Keep (mF ma) g u) (fun u v => hw D vwCl A u v.heap) A) 0 0 A := by
  refine Met.ofH (cc := b_M_interest) (maxL := 5) (ret := (some .int)) (lv := [(0, .ref (ma 0)), (1, .int x), (2, .int y), (3, .int z)]) (by decide) (Nat.le_of_ble_eq_true rfl) rfl ?_
  intro p e s m below meth c ls X hP hS hl
  obtain ⟨hx, hb, hml, hr, hts, hown, hlocks, hK, hEs, hA, hnm⟩ := id X
  obtain ⟨fm, fj, hM, hR1, hR2, hR3, hR6, hR20, hR11⟩ := id hMx
  have m0 := hM.1
  have hinj := hM.2.2
  have m4 : g (ma 4) = some (arI t 10 (fm 4)) := hM.2.1 4 (by decide) (by decide)
  have m5 : g (ma 5) = some (arI t 10 (fm 5)) := hM.2.1 5 (by decide) (by decide)
  have hn1 := hV.1.1
  have hn2 := hV.1.2.1
  have hn3 := hV.1.2.2.1
  have hn4 := hV.1.2.2.2
  have hRr : MRel fm fj σ := ⟨hR1, hR2, hR3, hR6, hR20, hR11⟩
  refine lv_iload_n hx hb d_M_interest_0 rfl (lv_at hl 1 rfl) ?_
  refine lv_i2l hx hb d_M_interest_1 rfl ?_
  refine lv_lconst (v := 0) hx hb d_M_interest_2 (by decide) ?_
  refine lv_aload_n hx hb d_M_interest_3 rfl (lv_at hl 0 rfl) ?_
  refine g_M_91 X hb hP m0 rfl d_M_interest_4 ?_
  refine lv_iconst (v := 1) hx hb d_M_interest_7 (by decide) ?_
  refine lv_isub hx hb d_M_interest_8 ?_
  refine lv_i2l hx hb d_M_interest_9 rfl ?_
  refine k_M_81 X ⟨Nat.le_of_ble_eq_true rfl, Nat.le_of_ble_eq_true rfl⟩ ⟨Nat.le_of_ble_eq_true rfl, Nat.le_of_ble_eq_true rfl⟩ hl.1 hP hS (by exact Nat.le_of_ble_eq_true rfl) d_M_interest_10 (fun r_1 H locs er_1 hP hS => ?_)
  refine lv_if_eq (tgt := 44) hx hb d_M_interest_13 (by decide) (fun c_2 => ?_) (fun c_2 => ?_)
  · have t_1 := bi_0.mp (er_1 ▸ c_2)
    refine lv_iconst (v := 0) hx hb d_M_interest_44 (by decide) ?_
    refine lv_istore (lv' := [(4, .int 0), (0, .ref (ma 0)), (1, .int x), (2, .int y), (3, .int z)]) hx hb d_M_interest_45 hl (by decide) rfl (fun ls hl => ?_)
    refine lv_aload_n hx hb d_M_interest_47 rfl (lv_at hl 1 rfl) ?_
    refine lv_iload hx hb d_M_interest_48 (lv_at hl 0 rfl) ?_
    refine lv_if_eq (tgt := 61) hx hb d_M_interest_50 (by decide) (fun c_3 => ?_) (fun c_3 => ?_)
    · refine lv_iconst (v := 0) hx hb d_M_interest_61 (by decide) ?_
      refine p_M_76 X hb hP hS m0 (Nat.le_of_ble_eq_true rfl) d_M_interest_62 (fun H locs hP hS => ?_)
      have he_4 := up_at (o := some (.inr (6, [.int 0, .int (nI (sNR σ)), .int (nI (sNL σ)), .int (nI (sND σ)), .int (nI (sNC σ)), .ref (ma 1), .ref (ma 2), .ref (ma 3), .ref (ma 4), .ref (ma 5), .ref (ma 6), .ref (ma 7), .ref (ma 8), .ref (ma 9), .ref (ma 10), .ref (ma 11), .ref (ma 12), .ref (ma 13), .ref (ma 14), .ref (ma 15), .ref (ma 16), .ref (ma 17), .ref (ma 18), .ref (ma 19), .ref (ma 20), .int (sTH σ)]))) m4 (mne hinj 4 0 (by decide) (by decide) (by decide))
      have he_5 := up_at (o := some (.inr (6, [.int 0, .int (nI (sNR σ)), .int (nI (sNL σ)), .int (nI (sND σ)), .int (nI (sNC σ)), .ref (ma 1), .ref (ma 2), .ref (ma 3), .ref (ma 4), .ref (ma 5), .ref (ma 6), .ref (ma 7), .ref (ma 8), .ref (ma 9), .ref (ma 10), .ref (ma 11), .ref (ma 12), .ref (ma 13), .ref (ma 14), .ref (ma 15), .ref (ma 16), .ref (ma 17), .ref (ma 18), .ref (ma 19), .ref (ma 20), .int (sTH σ)]))) m5 (mne hinj 5 0 (by decide) (by decide) (by decide))
      have he_6 := va_up_self g (ma 0) (some (.inr (6, [.int 0, .int (nI (sNR σ)), .int (nI (sNL σ)), .int (nI (sND σ)), .int (nI (sNC σ)), .ref (ma 1), .ref (ma 2), .ref (ma 3), .ref (ma 4), .ref (ma 5), .ref (ma 6), .ref (ma 7), .ref (ma 8), .ref (ma 9), .ref (ma 10), .ref (ma 11), .ref (ma 12), .ref (ma 13), .ref (ma 14), .ref (ma 15), .ref (ma 16), .ref (ma 17), .ref (ma 18), .ref (ma 19), .ref (ma 20), .int (sTH σ)]) : va_E))
      have hP : hw D vwCl A (va_up g (ma 0) (some (.inr (6, [.int 0, .int (nI (sNR σ)), .int (nI (sNL σ)), .int (nI (sND σ)), .int (nI (sNC σ)), .ref (ma 1), .ref (ma 2), .ref (ma 3), .ref (ma 4), .ref (ma 5), .ref (ma 6), .ref (ma 7), .ref (ma 8), .ref (ma 9), .ref (ma 10), .ref (ma 11), .ref (ma 12), .ref (ma 13), .ref (ma 14), .ref (ma 15), .ref (ma 16), .ref (ma 17), .ref (ma 18), .ref (ma 19), .ref (ma 20), .int (sTH σ)])))) H := hP
      refine lv_iload hx hb d_M_interest_65 (lv_at hl 0 rfl) ?_
      refine lv_if_eq (tgt := 74) hx hb d_M_interest_67 (by decide) (fun c_7 => ?_) (fun c_7 => ?_)
      · refine lv_iload hx hb d_M_interest_74 (lv_at hl 0 rfl) ?_
        refine lv_if_eq (tgt := 83) hx hb d_M_interest_76 (by decide) (fun c_8 => ?_) (fun c_8 => ?_)
        · refine lv_iconst (v := (-1)) hx hb d_M_interest_83 (by decide) ?_
          have tw0 : wi x 0 (nI (sNR σ) - 1) = false := by rw [← wl_i]; exact t_1
          have eo : okInt σ x y z = false := by simp [okInt, tw0]
          have e9 : spInt σ x y z = (-1, σ) := by simp [spInt, eo]
          have eb : bi (okInt σ x y z && decide (z = 0)) = 0 := by rw [eo]; rfl
          exact h_iret hx hb hr hlocks (Nat.le_of_ble_eq_true rfl) (Nat.le_of_ble_eq_true rfl) hP hS (⟨fun _ => by rw [e9], by rw [e9, eb]; exact ⟨_, _, MC.put (hM) 0 (nI (sNR σ)) (nI (sNL σ)) (nI (sND σ)) (nI (sNC σ)) (sTH σ), hRr⟩, Keep.up (Keep.rf) (Or.inl (mF_i ma 0 (by decide)))⟩) d_M_interest_84
        · exact absurd c_8 (by decide)
      · exact absurd c_7 (by decide)
    · exact absurd c_3 (by decide)
  · have t_1 := bi_n0.mp (er_1 ▸ c_2)
    have hwx : wi x 0 (nI (sNR σ) - 1) = true := by rw [← wl_i]; exact t_1
    obtain ⟨j, hj, rfl⟩ := wi_ord (by omega) hwx
    refine lv_iload_n hx hb d_M_interest_16 rfl (lv_at hl 2 rfl) ?_
    refine lv_i2l hx hb d_M_interest_17 rfl ?_
    refine lv_lconst (v := 0) hx hb d_M_interest_18 (by decide) ?_
    refine lv_ldc2 (v := 1000) hx hb hown (hts _ (tbm 551 (by decide +kernel))) d_M_interest_19 ?_
    refine k_M_81 X ⟨Nat.le_of_ble_eq_true rfl, Nat.le_of_ble_eq_true rfl⟩ ⟨Nat.le_of_ble_eq_true rfl, Nat.le_of_ble_eq_true rfl⟩ hl.1 hP hS (by exact Nat.le_of_ble_eq_true rfl) d_M_interest_22 (fun r_9 H locs er_9 hP hS => ?_)
    refine lv_if_eq (tgt := 44) hx hb d_M_interest_25 (by decide) (fun c_10 => ?_) (fun c_10 => ?_)
    · have t_9 := bi_0.mp (er_9 ▸ c_10)
      refine lv_iconst (v := 0) hx hb d_M_interest_44 (by decide) ?_
      refine lv_istore (lv' := [(4, .int 0), (0, .ref (ma 0)), (1, .int (nI j)), (2, .int y), (3, .int z)]) hx hb d_M_interest_45 hl (by decide) rfl (fun ls hl => ?_)
      refine lv_aload_n hx hb d_M_interest_47 rfl (lv_at hl 1 rfl) ?_
      refine lv_iload hx hb d_M_interest_48 (lv_at hl 0 rfl) ?_
      refine lv_if_eq (tgt := 61) hx hb d_M_interest_50 (by decide) (fun c_11 => ?_) (fun c_11 => ?_)
      · refine lv_iconst (v := 0) hx hb d_M_interest_61 (by decide) ?_
        refine p_M_76 X hb hP hS m0 (Nat.le_of_ble_eq_true rfl) d_M_interest_62 (fun H locs hP hS => ?_)
        have he_12 := up_at (o := some (.inr (6, [.int 0, .int (nI (sNR σ)), .int (nI (sNL σ)), .int (nI (sND σ)), .int (nI (sNC σ)), .ref (ma 1), .ref (ma 2), .ref (ma 3), .ref (ma 4), .ref (ma 5), .ref (ma 6), .ref (ma 7), .ref (ma 8), .ref (ma 9), .ref (ma 10), .ref (ma 11), .ref (ma 12), .ref (ma 13), .ref (ma 14), .ref (ma 15), .ref (ma 16), .ref (ma 17), .ref (ma 18), .ref (ma 19), .ref (ma 20), .int (sTH σ)]))) m4 (mne hinj 4 0 (by decide) (by decide) (by decide))
        have he_13 := up_at (o := some (.inr (6, [.int 0, .int (nI (sNR σ)), .int (nI (sNL σ)), .int (nI (sND σ)), .int (nI (sNC σ)), .ref (ma 1), .ref (ma 2), .ref (ma 3), .ref (ma 4), .ref (ma 5), .ref (ma 6), .ref (ma 7), .ref (ma 8), .ref (ma 9), .ref (ma 10), .ref (ma 11), .ref (ma 12), .ref (ma 13), .ref (ma 14), .ref (ma 15), .ref (ma 16), .ref (ma 17), .ref (ma 18), .ref (ma 19), .ref (ma 20), .int (sTH σ)]))) m5 (mne hinj 5 0 (by decide) (by decide) (by decide))
        have he_14 := va_up_self g (ma 0) (some (.inr (6, [.int 0, .int (nI (sNR σ)), .int (nI (sNL σ)), .int (nI (sND σ)), .int (nI (sNC σ)), .ref (ma 1), .ref (ma 2), .ref (ma 3), .ref (ma 4), .ref (ma 5), .ref (ma 6), .ref (ma 7), .ref (ma 8), .ref (ma 9), .ref (ma 10), .ref (ma 11), .ref (ma 12), .ref (ma 13), .ref (ma 14), .ref (ma 15), .ref (ma 16), .ref (ma 17), .ref (ma 18), .ref (ma 19), .ref (ma 20), .int (sTH σ)]) : va_E))
        have hP : hw D vwCl A (va_up g (ma 0) (some (.inr (6, [.int 0, .int (nI (sNR σ)), .int (nI (sNL σ)), .int (nI (sND σ)), .int (nI (sNC σ)), .ref (ma 1), .ref (ma 2), .ref (ma 3), .ref (ma 4), .ref (ma 5), .ref (ma 6), .ref (ma 7), .ref (ma 8), .ref (ma 9), .ref (ma 10), .ref (ma 11), .ref (ma 12), .ref (ma 13), .ref (ma 14), .ref (ma 15), .ref (ma 16), .ref (ma 17), .ref (ma 18), .ref (ma 19), .ref (ma 20), .int (sTH σ)])))) H := hP
        refine lv_iload hx hb d_M_interest_65 (lv_at hl 0 rfl) ?_
        refine lv_if_eq (tgt := 74) hx hb d_M_interest_67 (by decide) (fun c_15 => ?_) (fun c_15 => ?_)
        · refine lv_iload hx hb d_M_interest_74 (lv_at hl 0 rfl) ?_
          refine lv_if_eq (tgt := 83) hx hb d_M_interest_76 (by decide) (fun c_16 => ?_) (fun c_16 => ?_)
          · refine lv_iconst (v := (-1)) hx hb d_M_interest_83 (by decide) ?_
            have tw1 : wi y 0 1000 = false := by rw [← wl_i]; exact t_9
            have eo : okInt σ (nI j) y z = false := by simp [okInt, hwx, tw1]
            have e9 : spInt σ (nI j) y z = (-1, σ) := by simp [spInt, eo]
            have eb : bi (okInt σ (nI j) y z && decide (z = 0)) = 0 := by rw [eo]; rfl
            exact h_iret hx hb hr hlocks (Nat.le_of_ble_eq_true rfl) (Nat.le_of_ble_eq_true rfl) hP hS (⟨fun _ => by rw [e9], by rw [e9, eb]; exact ⟨_, _, MC.put (hM) 0 (nI (sNR σ)) (nI (sNL σ)) (nI (sND σ)) (nI (sNC σ)) (sTH σ), hRr⟩, Keep.up (Keep.rf) (Or.inl (mF_i ma 0 (by decide)))⟩) d_M_interest_84
          · exact absurd c_16 (by decide)
        · exact absurd c_15 (by decide)
      · exact absurd c_11 (by decide)
    · have t_9 := bi_n0.mp (er_9 ▸ c_10)
      refine lv_iload_n hx hb d_M_interest_28 rfl (lv_at hl 3 rfl) ?_
      refine lv_i2l hx hb d_M_interest_29 rfl ?_
      refine lv_lconst (v := 0) hx hb d_M_interest_30 (by decide) ?_
      refine lv_ldc2 (v := 1000000) hx hb hown (hts _ (tbm 552 (by decide +kernel))) d_M_interest_31 ?_
      refine k_M_81 X ⟨Nat.le_of_ble_eq_true rfl, Nat.le_of_ble_eq_true rfl⟩ ⟨Nat.le_of_ble_eq_true rfl, Nat.le_of_ble_eq_true rfl⟩ hl.1 hP hS (by exact Nat.le_of_ble_eq_true rfl) d_M_interest_34 (fun r_17 H locs er_17 hP hS => ?_)
      refine lv_if_eq (tgt := 44) hx hb d_M_interest_37 (by decide) (fun c_18 => ?_) (fun c_18 => ?_)
      · have t_17 := bi_0.mp (er_17 ▸ c_18)
        refine lv_iconst (v := 0) hx hb d_M_interest_44 (by decide) ?_
        refine lv_istore (lv' := [(4, .int 0), (0, .ref (ma 0)), (1, .int (nI j)), (2, .int y), (3, .int z)]) hx hb d_M_interest_45 hl (by decide) rfl (fun ls hl => ?_)
        refine lv_aload_n hx hb d_M_interest_47 rfl (lv_at hl 1 rfl) ?_
        refine lv_iload hx hb d_M_interest_48 (lv_at hl 0 rfl) ?_
        refine lv_if_eq (tgt := 61) hx hb d_M_interest_50 (by decide) (fun c_19 => ?_) (fun c_19 => ?_)
        · refine lv_iconst (v := 0) hx hb d_M_interest_61 (by decide) ?_
          refine p_M_76 X hb hP hS m0 (Nat.le_of_ble_eq_true rfl) d_M_interest_62 (fun H locs hP hS => ?_)
          have he_20 := up_at (o := some (.inr (6, [.int 0, .int (nI (sNR σ)), .int (nI (sNL σ)), .int (nI (sND σ)), .int (nI (sNC σ)), .ref (ma 1), .ref (ma 2), .ref (ma 3), .ref (ma 4), .ref (ma 5), .ref (ma 6), .ref (ma 7), .ref (ma 8), .ref (ma 9), .ref (ma 10), .ref (ma 11), .ref (ma 12), .ref (ma 13), .ref (ma 14), .ref (ma 15), .ref (ma 16), .ref (ma 17), .ref (ma 18), .ref (ma 19), .ref (ma 20), .int (sTH σ)]))) m4 (mne hinj 4 0 (by decide) (by decide) (by decide))
          have he_21 := up_at (o := some (.inr (6, [.int 0, .int (nI (sNR σ)), .int (nI (sNL σ)), .int (nI (sND σ)), .int (nI (sNC σ)), .ref (ma 1), .ref (ma 2), .ref (ma 3), .ref (ma 4), .ref (ma 5), .ref (ma 6), .ref (ma 7), .ref (ma 8), .ref (ma 9), .ref (ma 10), .ref (ma 11), .ref (ma 12), .ref (ma 13), .ref (ma 14), .ref (ma 15), .ref (ma 16), .ref (ma 17), .ref (ma 18), .ref (ma 19), .ref (ma 20), .int (sTH σ)]))) m5 (mne hinj 5 0 (by decide) (by decide) (by decide))
          have he_22 := va_up_self g (ma 0) (some (.inr (6, [.int 0, .int (nI (sNR σ)), .int (nI (sNL σ)), .int (nI (sND σ)), .int (nI (sNC σ)), .ref (ma 1), .ref (ma 2), .ref (ma 3), .ref (ma 4), .ref (ma 5), .ref (ma 6), .ref (ma 7), .ref (ma 8), .ref (ma 9), .ref (ma 10), .ref (ma 11), .ref (ma 12), .ref (ma 13), .ref (ma 14), .ref (ma 15), .ref (ma 16), .ref (ma 17), .ref (ma 18), .ref (ma 19), .ref (ma 20), .int (sTH σ)]) : va_E))
          have hP : hw D vwCl A (va_up g (ma 0) (some (.inr (6, [.int 0, .int (nI (sNR σ)), .int (nI (sNL σ)), .int (nI (sND σ)), .int (nI (sNC σ)), .ref (ma 1), .ref (ma 2), .ref (ma 3), .ref (ma 4), .ref (ma 5), .ref (ma 6), .ref (ma 7), .ref (ma 8), .ref (ma 9), .ref (ma 10), .ref (ma 11), .ref (ma 12), .ref (ma 13), .ref (ma 14), .ref (ma 15), .ref (ma 16), .ref (ma 17), .ref (ma 18), .ref (ma 19), .ref (ma 20), .int (sTH σ)])))) H := hP
          refine lv_iload hx hb d_M_interest_65 (lv_at hl 0 rfl) ?_
          refine lv_if_eq (tgt := 74) hx hb d_M_interest_67 (by decide) (fun c_23 => ?_) (fun c_23 => ?_)
          · refine lv_iload hx hb d_M_interest_74 (lv_at hl 0 rfl) ?_
            refine lv_if_eq (tgt := 83) hx hb d_M_interest_76 (by decide) (fun c_24 => ?_) (fun c_24 => ?_)
            · refine lv_iconst (v := (-1)) hx hb d_M_interest_83 (by decide) ?_
              have tw1 : wi y 0 1000 = true := by rw [← wl_i]; exact t_9
              have tw2 : wi z 0 1000000 = false := by rw [← wl_i]; exact t_17
              have eo : okInt σ (nI j) y z = false := by simp [okInt, hwx, tw1, tw2]
              have e9 : spInt σ (nI j) y z = (-1, σ) := by simp [spInt, eo]
              have eb : bi (okInt σ (nI j) y z && decide (z = 0)) = 0 := by rw [eo]; rfl
              exact h_iret hx hb hr hlocks (Nat.le_of_ble_eq_true rfl) (Nat.le_of_ble_eq_true rfl) hP hS (⟨fun _ => by rw [e9], by rw [e9, eb]; exact ⟨_, _, MC.put (hM) 0 (nI (sNR σ)) (nI (sNL σ)) (nI (sND σ)) (nI (sNC σ)) (sTH σ), hRr⟩, Keep.up (Keep.rf) (Or.inl (mF_i ma 0 (by decide)))⟩) d_M_interest_84
            · exact absurd c_24 (by decide)
          · exact absurd c_23 (by decide)
        · exact absurd c_19 (by decide)
      · have t_17 := bi_n0.mp (er_17 ▸ c_18)
        refine lv_iconst (v := 1) hx hb d_M_interest_40 (by decide) ?_
        refine lv_goto (tgt := 45) hx hb d_M_interest_41 (by decide) ?_
        refine lv_istore (lv' := [(4, .int 1), (0, .ref (ma 0)), (1, .int (nI j)), (2, .int y), (3, .int z)]) hx hb d_M_interest_45 hl (by decide) rfl (fun ls hl => ?_)
        refine lv_aload_n hx hb d_M_interest_47 rfl (lv_at hl 1 rfl) ?_
        refine lv_iload hx hb d_M_interest_48 (lv_at hl 0 rfl) ?_
        refine lv_if_eq (tgt := 61) hx hb d_M_interest_50 (by decide) (fun c_25 => ?_) (fun c_25 => ?_)
        · exact absurd c_25 (by decide)
        · refine lv_iload_n hx hb d_M_interest_53 rfl (lv_at hl 4 rfl) ?_
          refine lv_if_ne (tgt := 61) hx hb d_M_interest_54 (by decide) (fun c_26 => ?_) (fun c_26 => ?_)
          · refine lv_iconst (v := 0) hx hb d_M_interest_61 (by decide) ?_
            refine p_M_76 X hb hP hS m0 (Nat.le_of_ble_eq_true rfl) d_M_interest_62 (fun H locs hP hS => ?_)
            have he_27 := up_at (o := some (.inr (6, [.int 0, .int (nI (sNR σ)), .int (nI (sNL σ)), .int (nI (sND σ)), .int (nI (sNC σ)), .ref (ma 1), .ref (ma 2), .ref (ma 3), .ref (ma 4), .ref (ma 5), .ref (ma 6), .ref (ma 7), .ref (ma 8), .ref (ma 9), .ref (ma 10), .ref (ma 11), .ref (ma 12), .ref (ma 13), .ref (ma 14), .ref (ma 15), .ref (ma 16), .ref (ma 17), .ref (ma 18), .ref (ma 19), .ref (ma 20), .int (sTH σ)]))) m4 (mne hinj 4 0 (by decide) (by decide) (by decide))
            have he_28 := up_at (o := some (.inr (6, [.int 0, .int (nI (sNR σ)), .int (nI (sNL σ)), .int (nI (sND σ)), .int (nI (sNC σ)), .ref (ma 1), .ref (ma 2), .ref (ma 3), .ref (ma 4), .ref (ma 5), .ref (ma 6), .ref (ma 7), .ref (ma 8), .ref (ma 9), .ref (ma 10), .ref (ma 11), .ref (ma 12), .ref (ma 13), .ref (ma 14), .ref (ma 15), .ref (ma 16), .ref (ma 17), .ref (ma 18), .ref (ma 19), .ref (ma 20), .int (sTH σ)]))) m5 (mne hinj 5 0 (by decide) (by decide) (by decide))
            have he_29 := va_up_self g (ma 0) (some (.inr (6, [.int 0, .int (nI (sNR σ)), .int (nI (sNL σ)), .int (nI (sND σ)), .int (nI (sNC σ)), .ref (ma 1), .ref (ma 2), .ref (ma 3), .ref (ma 4), .ref (ma 5), .ref (ma 6), .ref (ma 7), .ref (ma 8), .ref (ma 9), .ref (ma 10), .ref (ma 11), .ref (ma 12), .ref (ma 13), .ref (ma 14), .ref (ma 15), .ref (ma 16), .ref (ma 17), .ref (ma 18), .ref (ma 19), .ref (ma 20), .int (sTH σ)]) : va_E))
            have hP : hw D vwCl A (va_up g (ma 0) (some (.inr (6, [.int 0, .int (nI (sNR σ)), .int (nI (sNL σ)), .int (nI (sND σ)), .int (nI (sNC σ)), .ref (ma 1), .ref (ma 2), .ref (ma 3), .ref (ma 4), .ref (ma 5), .ref (ma 6), .ref (ma 7), .ref (ma 8), .ref (ma 9), .ref (ma 10), .ref (ma 11), .ref (ma 12), .ref (ma 13), .ref (ma 14), .ref (ma 15), .ref (ma 16), .ref (ma 17), .ref (ma 18), .ref (ma 19), .ref (ma 20), .int (sTH σ)])))) H := hP
            refine lv_iload hx hb d_M_interest_65 (lv_at hl 0 rfl) ?_
            refine lv_if_eq (tgt := 74) hx hb d_M_interest_67 (by decide) (fun c_30 => ?_) (fun c_30 => ?_)
            · exact absurd c_30 (by decide)
            · refine lv_iload_n hx hb d_M_interest_70 rfl (lv_at hl 4 rfl) ?_
              refine lv_if_ne (tgt := 85) hx hb d_M_interest_71 (by decide) (fun c_31 => ?_) (fun c_31 => ?_)
              · refine lv_aload_n hx hb d_M_interest_85 rfl (lv_at hl 1 rfl) ?_
                refine g_M_19 X hb hP he_29 rfl d_M_interest_86 ?_
                refine lv_iload_n hx hb d_M_interest_89 rfl (lv_at hl 2 rfl) ?_
                refine lv_iload_n hx hb d_M_interest_90 rfl (lv_at hl 3 rfl) ?_
                refine n_iast X hb hP hS he_27 ⟨by omega, by decide⟩ d_M_interest_91 (fun H locs hP hS => ?_)
                have he_32 := up_at (o := some (arI t 10 (va_up (fm 4) j y))) he_28 (mne hinj 5 4 (by decide) (by decide) (by decide))
                have he_33 := up_at (o := some (arI t 10 (va_up (fm 4) j y))) he_29 (mne hinj 0 4 (by decide) (by decide) (by decide))
                have he_34 := va_up_self (va_up g (ma 0) (some (.inr (6, [.int 0, .int (nI (sNR σ)), .int (nI (sNL σ)), .int (nI (sND σ)), .int (nI (sNC σ)), .ref (ma 1), .ref (ma 2), .ref (ma 3), .ref (ma 4), .ref (ma 5), .ref (ma 6), .ref (ma 7), .ref (ma 8), .ref (ma 9), .ref (ma 10), .ref (ma 11), .ref (ma 12), .ref (ma 13), .ref (ma 14), .ref (ma 15), .ref (ma 16), .ref (ma 17), .ref (ma 18), .ref (ma 19), .ref (ma 20), .int (sTH σ)])))) (ma 4) (some (arI t 10 (va_up (fm 4) j y) : va_E))
                have hP : hw D vwCl A (va_up (va_up g (ma 0) (some (.inr (6, [.int 0, .int (nI (sNR σ)), .int (nI (sNL σ)), .int (nI (sND σ)), .int (nI (sNC σ)), .ref (ma 1), .ref (ma 2), .ref (ma 3), .ref (ma 4), .ref (ma 5), .ref (ma 6), .ref (ma 7), .ref (ma 8), .ref (ma 9), .ref (ma 10), .ref (ma 11), .ref (ma 12), .ref (ma 13), .ref (ma 14), .ref (ma 15), .ref (ma 16), .ref (ma 17), .ref (ma 18), .ref (ma 19), .ref (ma 20), .int (sTH σ)])))) (ma 4) (some (arI t 10 (va_up (fm 4) j y)))) H := hP
                refine lv_aload_n hx hb d_M_interest_92 rfl (lv_at hl 1 rfl) ?_
                refine g_M_22 X hb hP he_33 rfl d_M_interest_93 ?_
                refine lv_iload_n hx hb d_M_interest_96 rfl (lv_at hl 2 rfl) ?_
                refine lv_iload_n hx hb d_M_interest_97 rfl (lv_at hl 4 rfl) ?_
                refine n_iast X hb hP hS he_32 ⟨by omega, by decide⟩ d_M_interest_98 (fun H locs hP hS => ?_)
                have he_35 := up_at (o := some (arI t 10 (va_up (fm 5) j z))) he_33 (mne hinj 0 5 (by decide) (by decide) (by decide))
                have he_36 := up_at (o := some (arI t 10 (va_up (fm 5) j z))) he_34 (mne hinj 4 5 (by decide) (by decide) (by decide))
                have he_37 := va_up_self (va_up (va_up g (ma 0) (some (.inr (6, [.int 0, .int (nI (sNR σ)), .int (nI (sNL σ)), .int (nI (sND σ)), .int (nI (sNC σ)), .ref (ma 1), .ref (ma 2), .ref (ma 3), .ref (ma 4), .ref (ma 5), .ref (ma 6), .ref (ma 7), .ref (ma 8), .ref (ma 9), .ref (ma 10), .ref (ma 11), .ref (ma 12), .ref (ma 13), .ref (ma 14), .ref (ma 15), .ref (ma 16), .ref (ma 17), .ref (ma 18), .ref (ma 19), .ref (ma 20), .int (sTH σ)])))) (ma 4) (some (arI t 10 (va_up (fm 4) j y)))) (ma 5) (some (arI t 10 (va_up (fm 5) j z) : va_E))
                have hP : hw D vwCl A (va_up (va_up (va_up g (ma 0) (some (.inr (6, [.int 0, .int (nI (sNR σ)), .int (nI (sNL σ)), .int (nI (sND σ)), .int (nI (sNC σ)), .ref (ma 1), .ref (ma 2), .ref (ma 3), .ref (ma 4), .ref (ma 5), .ref (ma 6), .ref (ma 7), .ref (ma 8), .ref (ma 9), .ref (ma 10), .ref (ma 11), .ref (ma 12), .ref (ma 13), .ref (ma 14), .ref (ma 15), .ref (ma 16), .ref (ma 17), .ref (ma 18), .ref (ma 19), .ref (ma 20), .int (sTH σ)])))) (ma 4) (some (arI t 10 (va_up (fm 4) j y)))) (ma 5) (some (arI t 10 (va_up (fm 5) j z)))) H := hP
                refine lv_ldc (v := 100000) hx hb hown (hts _ (tbm 553 (by decide +kernel))) d_M_interest_99 ?_
                refine lv_iload_n hx hb d_M_interest_101 rfl (lv_at hl 3 rfl) ?_
                refine lv_imul hx hb d_M_interest_102 ?_
                refine lv_iload_n hx hb d_M_interest_103 rfl (lv_at hl 4 rfl) ?_
                refine lv_idiv hx hb d_M_interest_104 (by first | assumption | exact fun q => absurd q (by assumption)) ?_
                have tw1 : wi y 0 1000 = true := by rw [← wl_i]; exact t_9
                have tw2 : wi z 0 1000000 = true := by rw [← wl_i]; exact t_17
                have eo : okInt σ (nI j) y z = true := by simp [okInt, hwx, tw1, tw2]
                have hz : ¬ z = 0 := c_26
                have e9 : spInt σ (nI j) y z = (100000 * y / z, ((sNR σ, va_up (sRV σ) j ((sRV σ j).1, (sRV σ j).2.1, (sRV σ j).2.2.1, y, z)), σ.2)) := by simp [spInt, eo, hz, nI_k0 (show j < 1000000 by omega)]
                have eb : bi (okInt σ (nI j) y z && decide (z = 0)) = 0 := by rw [eo, decide_eq_false hz]; rfl
                exact h_iret hx hb hr hlocks (Nat.le_of_ble_eq_true rfl) (Nat.le_of_ble_eq_true rfl) hP hS (⟨fun _ => by rw [e9], by rw [e9, eb]; exact ⟨_, _, MC.ai (MC.ai (MC.put (hM) 0 (nI (sNR σ)) (nI (sNL σ)) (nI (sND σ)) (nI (sNC σ)) (sTH σ)) 4 ⟨by decide, by decide⟩ j y) 5 ⟨by decide, by decide⟩ j z, MRel_int hRr j y z hz⟩, Keep.up (Keep.up (Keep.up (Keep.rf) (Or.inl (mF_i ma 0 (by decide)))) (Or.inl (mF_i ma 4 (by decide)))) (Or.inl (mF_i ma 5 (by decide)))⟩) d_M_interest_105
              · exact absurd c_31 c_26
          · refine lv_iconst (v := 1) hx hb d_M_interest_57 (by decide) ?_
            refine lv_goto (tgt := 62) hx hb d_M_interest_58 (by decide) ?_
            refine p_M_76 X hb hP hS m0 (Nat.le_of_ble_eq_true rfl) d_M_interest_62 (fun H locs hP hS => ?_)
            have he_38 := up_at (o := some (.inr (6, [.int 1, .int (nI (sNR σ)), .int (nI (sNL σ)), .int (nI (sND σ)), .int (nI (sNC σ)), .ref (ma 1), .ref (ma 2), .ref (ma 3), .ref (ma 4), .ref (ma 5), .ref (ma 6), .ref (ma 7), .ref (ma 8), .ref (ma 9), .ref (ma 10), .ref (ma 11), .ref (ma 12), .ref (ma 13), .ref (ma 14), .ref (ma 15), .ref (ma 16), .ref (ma 17), .ref (ma 18), .ref (ma 19), .ref (ma 20), .int (sTH σ)]))) m4 (mne hinj 4 0 (by decide) (by decide) (by decide))
            have he_39 := up_at (o := some (.inr (6, [.int 1, .int (nI (sNR σ)), .int (nI (sNL σ)), .int (nI (sND σ)), .int (nI (sNC σ)), .ref (ma 1), .ref (ma 2), .ref (ma 3), .ref (ma 4), .ref (ma 5), .ref (ma 6), .ref (ma 7), .ref (ma 8), .ref (ma 9), .ref (ma 10), .ref (ma 11), .ref (ma 12), .ref (ma 13), .ref (ma 14), .ref (ma 15), .ref (ma 16), .ref (ma 17), .ref (ma 18), .ref (ma 19), .ref (ma 20), .int (sTH σ)]))) m5 (mne hinj 5 0 (by decide) (by decide) (by decide))
            have he_40 := va_up_self g (ma 0) (some (.inr (6, [.int 1, .int (nI (sNR σ)), .int (nI (sNL σ)), .int (nI (sND σ)), .int (nI (sNC σ)), .ref (ma 1), .ref (ma 2), .ref (ma 3), .ref (ma 4), .ref (ma 5), .ref (ma 6), .ref (ma 7), .ref (ma 8), .ref (ma 9), .ref (ma 10), .ref (ma 11), .ref (ma 12), .ref (ma 13), .ref (ma 14), .ref (ma 15), .ref (ma 16), .ref (ma 17), .ref (ma 18), .ref (ma 19), .ref (ma 20), .int (sTH σ)]) : va_E))
            have hP : hw D vwCl A (va_up g (ma 0) (some (.inr (6, [.int 1, .int (nI (sNR σ)), .int (nI (sNL σ)), .int (nI (sND σ)), .int (nI (sNC σ)), .ref (ma 1), .ref (ma 2), .ref (ma 3), .ref (ma 4), .ref (ma 5), .ref (ma 6), .ref (ma 7), .ref (ma 8), .ref (ma 9), .ref (ma 10), .ref (ma 11), .ref (ma 12), .ref (ma 13), .ref (ma 14), .ref (ma 15), .ref (ma 16), .ref (ma 17), .ref (ma 18), .ref (ma 19), .ref (ma 20), .int (sTH σ)])))) H := hP
            refine lv_iload hx hb d_M_interest_65 (lv_at hl 0 rfl) ?_
            refine lv_if_eq (tgt := 74) hx hb d_M_interest_67 (by decide) (fun c_41 => ?_) (fun c_41 => ?_)
            · exact absurd c_41 (by decide)
            · refine lv_iload_n hx hb d_M_interest_70 rfl (lv_at hl 4 rfl) ?_
              refine lv_if_ne (tgt := 85) hx hb d_M_interest_71 (by decide) (fun c_42 => ?_) (fun c_42 => ?_)
              · exact absurd c_26 c_42
              · refine lv_iload hx hb d_M_interest_74 (lv_at hl 0 rfl) ?_
                refine lv_if_eq (tgt := 83) hx hb d_M_interest_76 (by decide) (fun c_43 => ?_) (fun c_43 => ?_)
                · exact absurd c_43 (by decide)
                · refine lv_iconst (v := 0) hx hb d_M_interest_79 (by decide) ?_
                  refine lv_goto (tgt := 84) hx hb d_M_interest_80 (by decide) ?_
                  have tw1 : wi y 0 1000 = true := by rw [← wl_i]; exact t_9
                  have tw2 : wi z 0 1000000 = true := by rw [← wl_i]; exact t_17
                  have eo : okInt σ (nI j) y z = true := by simp [okInt, hwx, tw1, tw2]
                  have hz : z = 0 := c_26
                  have e9 : spInt σ (nI j) y z = (-1, σ) := by simp [spInt, hz]
                  have eb : bi (okInt σ (nI j) y z && decide (z = 0)) = 1 := by rw [eo, hz]; rfl
                  exact h_iret hx hb hr hlocks (Nat.le_of_ble_eq_true rfl) (Nat.le_of_ble_eq_true rfl) hP hS (⟨fun q => absurd ⟨eo, hz⟩ q, by rw [e9, eb]; exact ⟨_, _, MC.put (hM) 1 (nI (sNR σ)) (nI (sNL σ)) (nI (sND σ)) (nI (sNC σ)) (sTH σ), hRr⟩, Keep.up (Keep.rf) (Or.inl (mF_i ma 0 (by decide)))⟩) d_M_interest_84
theorem k_W_28 {p : Program} {l : Launch} {e : Env} {R : Room} {s : State} {m : MethodId} {args : Array Value} {below : List Frame} {meth : Method} {c : Code} {H : Heap} {locs : List Loc} {cells slots : Nat} {Q : State → Prop} {cc : ByteArray} {pc : Nat} {ls : Array Slot} {rest : List Value} {D : va_G} {A : Nat → Prop} {t : Nat → ClassId} {g : hG} {nL : Nat} {ret0 : Option FieldType} {nm : String} (X : Cx p s m args meth c R_W cc nL ret0 TB D vwCl (tyL t) EX A nm) (hR : 1 + 1 ≤ R.frames ∧ 8 + (5 + 11) + 25 ≤ R.locals) (hf : cells + 0 ≤ R.cells ∧ slots + 0 ≤ R.slots) (hls : ls.size = nL) (hP : hw D vwCl A g H) (hS : va_S A s.heap H locs) {ma : Nat → Nat} {tv : Int32} {σ : SS} {x y z : Int32} {fs9 : List Value} (he9 : g (ma 0) = some (.inr (6, fs9))) (hMx : RMx t ma tv σ g) (hV : Inv σ) (hW : (rest.map fun v => v.category).sum ≤ 8) (hdg : decode cc pc = .ok (.invokevirtual 28, 3)) (kk : ∀ (r : Int32) (u : hG) (H1 : Heap) (locs1 : List Loc), ((fun r u => (¬ (okInt σ x y z = true ∧ z = 0) → r = (spInt σ x y z).1) ∧ RMx t ma (bi (okInt σ x y z && decide (z = 0))) (spInt σ x y z).2 u ∧ Keep (mF ma) g u) r u) → hw D vwCl A u H1 → va_S A s.heap H1 locs1 → W p l e R s m args below meth c H1 locs1 (cells + 0) (slots + 0) Q (F0 m (pc + 3) ls (.int r :: rest))) : W p l e R s m args below meth c H locs cells slots Q (F0 m pc ls (.int z :: .int y :: .int x :: .ref (ma 0) :: rest)) :=
  h_ci (runV (C := R_M) (T := F_M) (N := 26) X (c_M_interest l D t A g ma tv σ x y z hMx hV) (tbm 547 (by decide +kernel)) (tbm 548 (by decide +kernel)) (tbm 549 (by decide +kernel)) (tbm 23 (by decide +kernel)) (tbm 550 (by decide +kernel)) rfl (n := 3) (by decide +kernel) hR hf hP he9 hS hls rfl rfl hW hdg) hS kk

set_option maxHeartbeats 4000000 in
set_option maxRecDepth 100000 in
theorem c_M_loan (l : Launch) (D : va_G) (t : Nat → ClassId) (A : Nat → Prop) (g : hG) (ma : Nat → Nat) (tv : Int32) (σ : SS) (x y z : Int32) (d : Int64) (hMx : RMx t ma tv σ g) (hV : Inv σ) : Met l y_M_loan (Cond.code y_M_loan b_M_loan 6 (some .int) :: TB) ({ frames := 2, cells := 0, slots := 0, locals := 46 } : Room) (va_Pc [.ref (ma 0), .int x, .int y, .int z, .long d] (hI D vwCl (tyL t) EX A g)) (va_Qi (fun r u => r = (spLoan σ x y z d).1 ∧ RMx t ma 0 (spLoan σ x y z d).2 u ∧ Keep (mF ma) g u) (fun u v => hw D vwCl A u v.heap) A) 0 0 A := by
  refine Met.ofH (cc := b_M_loan) (maxL := 6) (ret := (some .int)) (lv := [(0, .ref (ma 0)), (1, .int x), (2, .int y), (3, .int z), (4, .long d)]) (by decide) (Nat.le_of_ble_eq_true rfl) rfl ?_
  intro p e s m below meth c ls X hP hS hl
  obtain ⟨hx, hb, hml, hr, hts, hown, hlocks, hK, hEs, hA, hnm⟩ := id X
  obtain ⟨fm, fj, hM, hR1, hR2, hR3, hR6, hR20, hR11⟩ := id hMx
  have m0 := hM.1
  have hinj := hM.2.2
  have hn1 := hV.1.1
  have hn2 := hV.1.2.1
  have hn3 := hV.1.2.2.1
  have hn4 := hV.1.2.2.2
  have hRr : MRel fm fj σ := ⟨hR1, hR2, hR3, hR6, hR20, hR11⟩
  refine lv_aload_n hx hb d_M_loan_0 rfl (lv_at hl 0 rfl) ?_
  refine lv_iconst (v := 0) hx hb d_M_loan_1 (by decide) ?_
  refine p_M_76 X hb hP hS m0 (Nat.le_of_ble_eq_true rfl) d_M_loan_2 (fun H locs hP hS => ?_)
  have he_1 := va_up_self g (ma 0) (some (.inr (6, [.int 0, .int (nI (sNR σ)), .int (nI (sNL σ)), .int (nI (sND σ)), .int (nI (sNC σ)), .ref (ma 1), .ref (ma 2), .ref (ma 3), .ref (ma 4), .ref (ma 5), .ref (ma 6), .ref (ma 7), .ref (ma 8), .ref (ma 9), .ref (ma 10), .ref (ma 11), .ref (ma 12), .ref (ma 13), .ref (ma 14), .ref (ma 15), .ref (ma 16), .ref (ma 17), .ref (ma 18), .ref (ma 19), .ref (ma 20), .int (sTH σ)]) : va_E))
  have hP : hw D vwCl A (va_up g (ma 0) (some (.inr (6, [.int 0, .int (nI (sNR σ)), .int (nI (sNL σ)), .int (nI (sND σ)), .int (nI (sNC σ)), .ref (ma 1), .ref (ma 2), .ref (ma 3), .ref (ma 4), .ref (ma 5), .ref (ma 6), .ref (ma 7), .ref (ma 8), .ref (ma 9), .ref (ma 10), .ref (ma 11), .ref (ma 12), .ref (ma 13), .ref (ma 14), .ref (ma 15), .ref (ma 16), .ref (ma 17), .ref (ma 18), .ref (ma 19), .ref (ma 20), .int (sTH σ)])))) H := hP
  have hM1 : MC t (va_up g (ma 0) (some (mOb ma 0 (nI (sNR σ)) (nI (sNL σ)) (nI (sND σ)) (nI (sNC σ)) (sTH σ)))) ma 0 (nI (sNR σ)) (nI (sNL σ)) (nI (sND σ)) (nI (sNC σ)) (sTH σ) fm fj := MC.put hM 0 _ _ _ _ _
  have hK1 : Keep (mF ma) g (va_up g (ma 0) (some (mOb ma 0 (nI (sNR σ)) (nI (sNL σ)) (nI (sND σ)) (nI (sNC σ)) (sTH σ)))) := Keep.up Keep.rf (Or.inl (mF_i ma 0 (by decide)))
  have hP : hw D vwCl A (va_up g (ma 0) (some (mOb ma 0 (nI (sNR σ)) (nI (sNL σ)) (nI (sND σ)) (nI (sNC σ)) (sTH σ)))) H := hP
  generalize va_up g (ma 0) (some (mOb ma 0 (nI (sNR σ)) (nI (sNL σ)) (nI (sND σ)) (nI (sNC σ)) (sTH σ))) = G at hM1 hK1 hP
  have hX1 : RMx t ma 0 σ G := ⟨fm, fj, hM1, hRr⟩
  have w0 := hM1.1
  have w7 : G (ma 7) = some (arI t 121 (fm 7)) := hM1.2.1 7 (by decide) (by decide)
  have w8 : G (ma 8) = some (arI t 121 (fm 8)) := hM1.2.1 8 (by decide) (by decide)
  have w9 : G (ma 9) = some (arI t 121 (fm 9)) := hM1.2.1 9 (by decide) (by decide)
  have w12 : G (ma 12) = some (arJ t 121 (fj 12)) := hM1.2.1 12 (by decide) (by decide)
  have w10 : G (ma 10) = some (arI t 121 (fm 10)) := hM1.2.1 10 (by decide) (by decide)
  refine lv_iload_n hx hb d_M_loan_5 rfl (lv_at hl 1 rfl) ?_
  refine lv_i2l hx hb d_M_loan_6 rfl ?_
  refine lv_lconst (v := 0) hx hb d_M_loan_7 (by decide) ?_
  refine lv_ldc2 (v := 59) hx hb hown (hts _ (tbm 569 (by decide +kernel))) d_M_loan_8 ?_
  refine k_M_81 X ⟨Nat.le_of_ble_eq_true rfl, Nat.le_of_ble_eq_true rfl⟩ ⟨Nat.le_of_ble_eq_true rfl, Nat.le_of_ble_eq_true rfl⟩ hl.1 hP hS (by exact Nat.le_of_ble_eq_true rfl) d_M_loan_11 (fun r_2 H locs er_2 hP hS => ?_)
  refine lv_if_eq (tgt := 70) hx hb d_M_loan_14 (by decide) (fun c_3 => ?_) (fun c_3 => ?_)
  · have t_2 := bi_0.mp (er_2 ▸ c_3)
    refine lv_iconst (v := 0) hx hb d_M_loan_70 (by decide) ?_
    have tw0 : wi x 0 59 = false := by rw [← wl_i]; exact t_2
    have e9 : spLoan σ x y z d = (0, σ) := by simp [spLoan, tw0]
    exact h_iret hx hb hr hlocks (Nat.le_of_ble_eq_true rfl) (Nat.le_of_ble_eq_true rfl) hP hS (⟨by rw [e9], by rw [e9]; exact hX1, hK1⟩) d_M_loan_71
  · have t_2 := bi_n0.mp (er_2 ▸ c_3)
    have hwx : wi x 0 59 = true := by rw [← wl_i]; exact t_2
    obtain ⟨ji, hji, rfl⟩ := wi_pl (n := 59) rfl (by decide) hwx
    refine lv_iload_n hx hb d_M_loan_17 rfl (lv_at hl 2 rfl) ?_
    refine lv_i2l hx hb d_M_loan_18 rfl ?_
    refine lv_lconst (v := 0) hx hb d_M_loan_19 (by decide) ?_
    refine lv_ldc2 (v := 29) hx hb hown (hts _ (tbm 570 (by decide +kernel))) d_M_loan_20 ?_
    refine k_M_81 X ⟨Nat.le_of_ble_eq_true rfl, Nat.le_of_ble_eq_true rfl⟩ ⟨Nat.le_of_ble_eq_true rfl, Nat.le_of_ble_eq_true rfl⟩ hl.1 hP hS (by exact Nat.le_of_ble_eq_true rfl) d_M_loan_23 (fun r_4 H locs er_4 hP hS => ?_)
    refine lv_if_eq (tgt := 70) hx hb d_M_loan_26 (by decide) (fun c_5 => ?_) (fun c_5 => ?_)
    · have t_4 := bi_0.mp (er_4 ▸ c_5)
      refine lv_iconst (v := 0) hx hb d_M_loan_70 (by decide) ?_
      have tw1 : wi y 0 29 = false := by rw [← wl_i]; exact t_4
      have e9 : spLoan σ (nI ji) y z d = (0, σ) := by simp [spLoan, hwx, tw1]
      exact h_iret hx hb hr hlocks (Nat.le_of_ble_eq_true rfl) (Nat.le_of_ble_eq_true rfl) hP hS (⟨by rw [e9], by rw [e9]; exact hX1, hK1⟩) d_M_loan_71
    · have t_4 := bi_n0.mp (er_4 ▸ c_5)
      have hwy : wi y 0 29 = true := by rw [← wl_i]; exact t_4
      obtain ⟨jp, hjp, rfl⟩ := wi_pl (n := 29) rfl (by decide) hwy
      refine lv_iload_n hx hb d_M_loan_29 rfl (lv_at hl 3 rfl) ?_
      refine lv_i2l hx hb d_M_loan_30 rfl ?_
      refine lv_lconst (v := 0) hx hb d_M_loan_31 (by decide) ?_
      refine lv_aload_n hx hb d_M_loan_32 rfl (lv_at hl 0 rfl) ?_
      refine g_M_91 X hb hP w0 rfl d_M_loan_33 ?_
      refine lv_iconst (v := 1) hx hb d_M_loan_36 (by decide) ?_
      refine lv_isub hx hb d_M_loan_37 ?_
      refine lv_i2l hx hb d_M_loan_38 rfl ?_
      refine k_M_81 X ⟨Nat.le_of_ble_eq_true rfl, Nat.le_of_ble_eq_true rfl⟩ ⟨Nat.le_of_ble_eq_true rfl, Nat.le_of_ble_eq_true rfl⟩ hl.1 hP hS (by exact Nat.le_of_ble_eq_true rfl) d_M_loan_39 (fun r_6 H locs er_6 hP hS => ?_)
      refine lv_if_eq (tgt := 70) hx hb d_M_loan_42 (by decide) (fun c_7 => ?_) (fun c_7 => ?_)
      · have t_6 := bi_0.mp (er_6 ▸ c_7)
        refine lv_iconst (v := 0) hx hb d_M_loan_70 (by decide) ?_
        have tw2 : wi z 0 (nI (sNR σ) - 1) = false := by rw [← wl_i]; exact t_6
        have e9 : spLoan σ (nI ji) (nI jp) z d = (0, σ) := by simp [spLoan, hwx, hwy, tw2]
        exact h_iret hx hb hr hlocks (Nat.le_of_ble_eq_true rfl) (Nat.le_of_ble_eq_true rfl) hP hS (⟨by rw [e9], by rw [e9]; exact hX1, hK1⟩) d_M_loan_71
      · have t_6 := bi_n0.mp (er_6 ▸ c_7)
        have hwz : wi z 0 (nI (sNR σ) - 1) = true := by rw [← wl_i]; exact t_6
        obtain ⟨jr, hjr, rfl⟩ := wi_ord (by omega) hwz
        refine lv_lload hx hb d_M_loan_45 (lv_at hl 4 rfl) ?_
        refine k_M_100 X ⟨Nat.le_of_ble_eq_true rfl, Nat.le_of_ble_eq_true rfl⟩ ⟨Nat.le_of_ble_eq_true rfl, Nat.le_of_ble_eq_true rfl⟩ hl.1 hP hS (by exact Nat.le_of_ble_eq_true rfl) d_M_loan_47 (fun r_8 H locs er_8 hP hS => ?_)
        refine lv_if_eq (tgt := 70) hx hb d_M_loan_50 (by decide) (fun c_9 => ?_) (fun c_9 => ?_)
        · have t_8 := bi_0.mp (er_8 ▸ c_9)
          refine lv_iconst (v := 0) hx hb d_M_loan_70 (by decide) ?_
          have e9 : spLoan σ (nI ji) (nI jp) (nI jr) d = (0, σ) := by simp [spLoan, hwx, hwy, hwz, t_8]
          exact h_iret hx hb hr hlocks (Nat.le_of_ble_eq_true rfl) (Nat.le_of_ble_eq_true rfl) hP hS (⟨by rw [e9], by rw [e9]; exact hX1, hK1⟩) d_M_loan_71
        · have t_8 := bi_n0.mp (er_8 ▸ c_9)
          refine lv_aload_n hx hb d_M_loan_53 rfl (lv_at hl 0 rfl) ?_
          refine g_M_107 X hb hP w0 rfl d_M_loan_54 ?_
          refine lv_bipush (v := 120) hx hb d_M_loan_57 (by decide) ?_
          refine lv_icmp_eq (tgt := 70) hx hb d_M_loan_59 (by decide) (fun c_10 => ?_) (fun c_10 => ?_)
          · refine lv_iconst (v := 0) hx hb d_M_loan_70 (by decide) ?_
            have hlt : ¬ sNL σ < 120 := by have h9 := (nI_small (by omega) (b := 120) (by decide)).mp c_10; omega
            have e9 : spLoan σ (nI ji) (nI jp) (nI jr) d = (0, σ) := by simp [spLoan, hwx, hwy, hwz, t_8, hlt]
            exact h_iret hx hb hr hlocks (Nat.le_of_ble_eq_true rfl) (Nat.le_of_ble_eq_true rfl) hP hS (⟨by rw [e9], by rw [e9]; exact hX1, hK1⟩) d_M_loan_71
          · have hlt : sNL σ < 120 := by have h9 : ¬ sNL σ = 120 := fun z => c_10 (by rw [z]; rfl); omega
            refine lv_aload_n hx hb d_M_loan_62 rfl (lv_at hl 0 rfl) ?_
            refine lv_iload_n hx hb d_M_loan_63 rfl (lv_at hl 1 rfl) ?_
            refine k_M_114 X ⟨Nat.le_of_ble_eq_true rfl, Nat.le_of_ble_eq_true rfl⟩ ⟨Nat.le_of_ble_eq_true rfl, Nat.le_of_ble_eq_true rfl⟩ hl.1 hP hS w0 hX1 hV (by exact Nat.le_of_ble_eq_true rfl) d_M_loan_64 (fun r_11 H locs er_11 hP hS => ?_)
            refine lv_if_le (tgt := 72) hx hb d_M_loan_67 (by decide) (fun c_12 => ?_) (fun c_12 => ?_)
            · refine lv_aload_n hx hb d_M_loan_72 rfl (lv_at hl 0 rfl) ?_
              refine lv_dup hx hb d_M_loan_73 rfl ?_
              refine g_M_107 X hb hP w0 rfl d_M_loan_74 ?_
              refine lv_iconst (v := 1) hx hb d_M_loan_77 (by decide) ?_
              refine lv_iadd hx hb d_M_loan_78 ?_
              refine lv_topi (fun x_13 ex_13 => ?_)
              refine p_M_107 X hb hP hS w0 (Nat.le_of_ble_eq_true rfl) d_M_loan_79 (fun H locs hP hS => ?_)
              have he_14 := up_at (o := some (.inr (6, [.int 0, .int (nI (sNR σ)), .int x_13, .int (nI (sND σ)), .int (nI (sNC σ)), .ref (ma 1), .ref (ma 2), .ref (ma 3), .ref (ma 4), .ref (ma 5), .ref (ma 6), .ref (ma 7), .ref (ma 8), .ref (ma 9), .ref (ma 10), .ref (ma 11), .ref (ma 12), .ref (ma 13), .ref (ma 14), .ref (ma 15), .ref (ma 16), .ref (ma 17), .ref (ma 18), .ref (ma 19), .ref (ma 20), .int (sTH σ)]))) w7 (mne hinj 7 0 (by decide) (by decide) (by decide))
              have he_15 := up_at (o := some (.inr (6, [.int 0, .int (nI (sNR σ)), .int x_13, .int (nI (sND σ)), .int (nI (sNC σ)), .ref (ma 1), .ref (ma 2), .ref (ma 3), .ref (ma 4), .ref (ma 5), .ref (ma 6), .ref (ma 7), .ref (ma 8), .ref (ma 9), .ref (ma 10), .ref (ma 11), .ref (ma 12), .ref (ma 13), .ref (ma 14), .ref (ma 15), .ref (ma 16), .ref (ma 17), .ref (ma 18), .ref (ma 19), .ref (ma 20), .int (sTH σ)]))) w8 (mne hinj 8 0 (by decide) (by decide) (by decide))
              have he_16 := up_at (o := some (.inr (6, [.int 0, .int (nI (sNR σ)), .int x_13, .int (nI (sND σ)), .int (nI (sNC σ)), .ref (ma 1), .ref (ma 2), .ref (ma 3), .ref (ma 4), .ref (ma 5), .ref (ma 6), .ref (ma 7), .ref (ma 8), .ref (ma 9), .ref (ma 10), .ref (ma 11), .ref (ma 12), .ref (ma 13), .ref (ma 14), .ref (ma 15), .ref (ma 16), .ref (ma 17), .ref (ma 18), .ref (ma 19), .ref (ma 20), .int (sTH σ)]))) w9 (mne hinj 9 0 (by decide) (by decide) (by decide))
              have he_17 := up_at (o := some (.inr (6, [.int 0, .int (nI (sNR σ)), .int x_13, .int (nI (sND σ)), .int (nI (sNC σ)), .ref (ma 1), .ref (ma 2), .ref (ma 3), .ref (ma 4), .ref (ma 5), .ref (ma 6), .ref (ma 7), .ref (ma 8), .ref (ma 9), .ref (ma 10), .ref (ma 11), .ref (ma 12), .ref (ma 13), .ref (ma 14), .ref (ma 15), .ref (ma 16), .ref (ma 17), .ref (ma 18), .ref (ma 19), .ref (ma 20), .int (sTH σ)]))) w12 (mne hinj 12 0 (by decide) (by decide) (by decide))
              have he_18 := up_at (o := some (.inr (6, [.int 0, .int (nI (sNR σ)), .int x_13, .int (nI (sND σ)), .int (nI (sNC σ)), .ref (ma 1), .ref (ma 2), .ref (ma 3), .ref (ma 4), .ref (ma 5), .ref (ma 6), .ref (ma 7), .ref (ma 8), .ref (ma 9), .ref (ma 10), .ref (ma 11), .ref (ma 12), .ref (ma 13), .ref (ma 14), .ref (ma 15), .ref (ma 16), .ref (ma 17), .ref (ma 18), .ref (ma 19), .ref (ma 20), .int (sTH σ)]))) w10 (mne hinj 10 0 (by decide) (by decide) (by decide))
              have he_19 := va_up_self G (ma 0) (some (.inr (6, [.int 0, .int (nI (sNR σ)), .int x_13, .int (nI (sND σ)), .int (nI (sNC σ)), .ref (ma 1), .ref (ma 2), .ref (ma 3), .ref (ma 4), .ref (ma 5), .ref (ma 6), .ref (ma 7), .ref (ma 8), .ref (ma 9), .ref (ma 10), .ref (ma 11), .ref (ma 12), .ref (ma 13), .ref (ma 14), .ref (ma 15), .ref (ma 16), .ref (ma 17), .ref (ma 18), .ref (ma 19), .ref (ma 20), .int (sTH σ)]) : va_E))
              have hP : hw D vwCl A (va_up G (ma 0) (some (.inr (6, [.int 0, .int (nI (sNR σ)), .int x_13, .int (nI (sND σ)), .int (nI (sNC σ)), .ref (ma 1), .ref (ma 2), .ref (ma 3), .ref (ma 4), .ref (ma 5), .ref (ma 6), .ref (ma 7), .ref (ma 8), .ref (ma 9), .ref (ma 10), .ref (ma 11), .ref (ma 12), .ref (ma 13), .ref (ma 14), .ref (ma 15), .ref (ma 16), .ref (ma 17), .ref (ma 18), .ref (ma 19), .ref (ma 20), .int (sTH σ)])))) H := hP
              obtain rfl : x_13 = nI (sNL σ + 1) := by rw [ex_13]; exact nI_1 _
              refine lv_aload_n hx hb d_M_loan_82 rfl (lv_at hl 0 rfl) ?_
              refine g_M_29 X hb hP he_19 rfl d_M_loan_83 ?_
              refine lv_aload_n hx hb d_M_loan_86 rfl (lv_at hl 0 rfl) ?_
              refine g_M_107 X hb hP he_19 rfl d_M_loan_87 ?_
              refine lv_iload_n hx hb d_M_loan_90 rfl (lv_at hl 1 rfl) ?_
              refine n_iast X hb hP hS he_14 ⟨by omega, by decide⟩ d_M_loan_91 (fun H locs hP hS => ?_)
              have he_20 := up_at (o := some (arI t 121 (va_up (fm 7) (sNL σ + 1) (nI ji)))) he_15 (mne hinj 8 7 (by decide) (by decide) (by decide))
              have he_21 := up_at (o := some (arI t 121 (va_up (fm 7) (sNL σ + 1) (nI ji)))) he_16 (mne hinj 9 7 (by decide) (by decide) (by decide))
              have he_22 := up_at (o := some (arI t 121 (va_up (fm 7) (sNL σ + 1) (nI ji)))) he_17 (mne hinj 12 7 (by decide) (by decide) (by decide))
              have he_23 := up_at (o := some (arI t 121 (va_up (fm 7) (sNL σ + 1) (nI ji)))) he_18 (mne hinj 10 7 (by decide) (by decide) (by decide))
              have he_24 := up_at (o := some (arI t 121 (va_up (fm 7) (sNL σ + 1) (nI ji)))) he_19 (mne hinj 0 7 (by decide) (by decide) (by decide))
              have he_25 := va_up_self (va_up G (ma 0) (some (.inr (6, [.int 0, .int (nI (sNR σ)), .int (nI (sNL σ + 1)), .int (nI (sND σ)), .int (nI (sNC σ)), .ref (ma 1), .ref (ma 2), .ref (ma 3), .ref (ma 4), .ref (ma 5), .ref (ma 6), .ref (ma 7), .ref (ma 8), .ref (ma 9), .ref (ma 10), .ref (ma 11), .ref (ma 12), .ref (ma 13), .ref (ma 14), .ref (ma 15), .ref (ma 16), .ref (ma 17), .ref (ma 18), .ref (ma 19), .ref (ma 20), .int (sTH σ)])))) (ma 7) (some (arI t 121 (va_up (fm 7) (sNL σ + 1) (nI ji)) : va_E))
              have hP : hw D vwCl A (va_up (va_up G (ma 0) (some (.inr (6, [.int 0, .int (nI (sNR σ)), .int (nI (sNL σ + 1)), .int (nI (sND σ)), .int (nI (sNC σ)), .ref (ma 1), .ref (ma 2), .ref (ma 3), .ref (ma 4), .ref (ma 5), .ref (ma 6), .ref (ma 7), .ref (ma 8), .ref (ma 9), .ref (ma 10), .ref (ma 11), .ref (ma 12), .ref (ma 13), .ref (ma 14), .ref (ma 15), .ref (ma 16), .ref (ma 17), .ref (ma 18), .ref (ma 19), .ref (ma 20), .int (sTH σ)])))) (ma 7) (some (arI t 121 (va_up (fm 7) (sNL σ + 1) (nI ji))))) H := hP
              refine lv_aload_n hx hb d_M_loan_92 rfl (lv_at hl 0 rfl) ?_
              refine g_M_32 X hb hP he_24 rfl d_M_loan_93 ?_
              refine lv_aload_n hx hb d_M_loan_96 rfl (lv_at hl 0 rfl) ?_
              refine g_M_107 X hb hP he_24 rfl d_M_loan_97 ?_
              refine lv_iload_n hx hb d_M_loan_100 rfl (lv_at hl 2 rfl) ?_
              refine n_iast X hb hP hS he_20 ⟨by omega, by decide⟩ d_M_loan_101 (fun H locs hP hS => ?_)
              have he_26 := up_at (o := some (arI t 121 (va_up (fm 8) (sNL σ + 1) (nI jp)))) he_21 (mne hinj 9 8 (by decide) (by decide) (by decide))
              have he_27 := up_at (o := some (arI t 121 (va_up (fm 8) (sNL σ + 1) (nI jp)))) he_22 (mne hinj 12 8 (by decide) (by decide) (by decide))
              have he_28 := up_at (o := some (arI t 121 (va_up (fm 8) (sNL σ + 1) (nI jp)))) he_23 (mne hinj 10 8 (by decide) (by decide) (by decide))
              have he_29 := up_at (o := some (arI t 121 (va_up (fm 8) (sNL σ + 1) (nI jp)))) he_24 (mne hinj 0 8 (by decide) (by decide) (by decide))
              have he_30 := up_at (o := some (arI t 121 (va_up (fm 8) (sNL σ + 1) (nI jp)))) he_25 (mne hinj 7 8 (by decide) (by decide) (by decide))
              have he_31 := va_up_self (va_up (va_up G (ma 0) (some (.inr (6, [.int 0, .int (nI (sNR σ)), .int (nI (sNL σ + 1)), .int (nI (sND σ)), .int (nI (sNC σ)), .ref (ma 1), .ref (ma 2), .ref (ma 3), .ref (ma 4), .ref (ma 5), .ref (ma 6), .ref (ma 7), .ref (ma 8), .ref (ma 9), .ref (ma 10), .ref (ma 11), .ref (ma 12), .ref (ma 13), .ref (ma 14), .ref (ma 15), .ref (ma 16), .ref (ma 17), .ref (ma 18), .ref (ma 19), .ref (ma 20), .int (sTH σ)])))) (ma 7) (some (arI t 121 (va_up (fm 7) (sNL σ + 1) (nI ji))))) (ma 8) (some (arI t 121 (va_up (fm 8) (sNL σ + 1) (nI jp)) : va_E))
              have hP : hw D vwCl A (va_up (va_up (va_up G (ma 0) (some (.inr (6, [.int 0, .int (nI (sNR σ)), .int (nI (sNL σ + 1)), .int (nI (sND σ)), .int (nI (sNC σ)), .ref (ma 1), .ref (ma 2), .ref (ma 3), .ref (ma 4), .ref (ma 5), .ref (ma 6), .ref (ma 7), .ref (ma 8), .ref (ma 9), .ref (ma 10), .ref (ma 11), .ref (ma 12), .ref (ma 13), .ref (ma 14), .ref (ma 15), .ref (ma 16), .ref (ma 17), .ref (ma 18), .ref (ma 19), .ref (ma 20), .int (sTH σ)])))) (ma 7) (some (arI t 121 (va_up (fm 7) (sNL σ + 1) (nI ji))))) (ma 8) (some (arI t 121 (va_up (fm 8) (sNL σ + 1) (nI jp))))) H := hP
              refine lv_aload_n hx hb d_M_loan_102 rfl (lv_at hl 0 rfl) ?_
              refine g_M_35 X hb hP he_29 rfl d_M_loan_103 ?_
              refine lv_aload_n hx hb d_M_loan_106 rfl (lv_at hl 0 rfl) ?_
              refine g_M_107 X hb hP he_29 rfl d_M_loan_107 ?_
              refine lv_iload_n hx hb d_M_loan_110 rfl (lv_at hl 3 rfl) ?_
              refine n_iast X hb hP hS he_26 ⟨by omega, by decide⟩ d_M_loan_111 (fun H locs hP hS => ?_)
              have he_32 := up_at (o := some (arI t 121 (va_up (fm 9) (sNL σ + 1) (nI jr)))) he_27 (mne hinj 12 9 (by decide) (by decide) (by decide))
              have he_33 := up_at (o := some (arI t 121 (va_up (fm 9) (sNL σ + 1) (nI jr)))) he_28 (mne hinj 10 9 (by decide) (by decide) (by decide))
              have he_34 := up_at (o := some (arI t 121 (va_up (fm 9) (sNL σ + 1) (nI jr)))) he_29 (mne hinj 0 9 (by decide) (by decide) (by decide))
              have he_35 := up_at (o := some (arI t 121 (va_up (fm 9) (sNL σ + 1) (nI jr)))) he_30 (mne hinj 7 9 (by decide) (by decide) (by decide))
              have he_36 := up_at (o := some (arI t 121 (va_up (fm 9) (sNL σ + 1) (nI jr)))) he_31 (mne hinj 8 9 (by decide) (by decide) (by decide))
              have he_37 := va_up_self (va_up (va_up (va_up G (ma 0) (some (.inr (6, [.int 0, .int (nI (sNR σ)), .int (nI (sNL σ + 1)), .int (nI (sND σ)), .int (nI (sNC σ)), .ref (ma 1), .ref (ma 2), .ref (ma 3), .ref (ma 4), .ref (ma 5), .ref (ma 6), .ref (ma 7), .ref (ma 8), .ref (ma 9), .ref (ma 10), .ref (ma 11), .ref (ma 12), .ref (ma 13), .ref (ma 14), .ref (ma 15), .ref (ma 16), .ref (ma 17), .ref (ma 18), .ref (ma 19), .ref (ma 20), .int (sTH σ)])))) (ma 7) (some (arI t 121 (va_up (fm 7) (sNL σ + 1) (nI ji))))) (ma 8) (some (arI t 121 (va_up (fm 8) (sNL σ + 1) (nI jp))))) (ma 9) (some (arI t 121 (va_up (fm 9) (sNL σ + 1) (nI jr)) : va_E))
              have hP : hw D vwCl A (va_up (va_up (va_up (va_up G (ma 0) (some (.inr (6, [.int 0, .int (nI (sNR σ)), .int (nI (sNL σ + 1)), .int (nI (sND σ)), .int (nI (sNC σ)), .ref (ma 1), .ref (ma 2), .ref (ma 3), .ref (ma 4), .ref (ma 5), .ref (ma 6), .ref (ma 7), .ref (ma 8), .ref (ma 9), .ref (ma 10), .ref (ma 11), .ref (ma 12), .ref (ma 13), .ref (ma 14), .ref (ma 15), .ref (ma 16), .ref (ma 17), .ref (ma 18), .ref (ma 19), .ref (ma 20), .int (sTH σ)])))) (ma 7) (some (arI t 121 (va_up (fm 7) (sNL σ + 1) (nI ji))))) (ma 8) (some (arI t 121 (va_up (fm 8) (sNL σ + 1) (nI jp))))) (ma 9) (some (arI t 121 (va_up (fm 9) (sNL σ + 1) (nI jr))))) H := hP
              refine lv_aload_n hx hb d_M_loan_112 rfl (lv_at hl 0 rfl) ?_
              refine g_M_44 X hb hP he_34 rfl d_M_loan_113 ?_
              refine lv_aload_n hx hb d_M_loan_116 rfl (lv_at hl 0 rfl) ?_
              refine g_M_107 X hb hP he_34 rfl d_M_loan_117 ?_
              refine lv_lload hx hb d_M_loan_120 (lv_at hl 4 rfl) ?_
              refine n_last X hb hP hS he_32 ⟨by omega, by decide⟩ d_M_loan_122 (fun H locs hP hS => ?_)
              have he_38 := up_at (o := some (arJ t 121 (va_up (fj 12) (sNL σ + 1) d))) he_33 (mne hinj 10 12 (by decide) (by decide) (by decide))
              have he_39 := up_at (o := some (arJ t 121 (va_up (fj 12) (sNL σ + 1) d))) he_34 (mne hinj 0 12 (by decide) (by decide) (by decide))
              have he_40 := up_at (o := some (arJ t 121 (va_up (fj 12) (sNL σ + 1) d))) he_35 (mne hinj 7 12 (by decide) (by decide) (by decide))
              have he_41 := up_at (o := some (arJ t 121 (va_up (fj 12) (sNL σ + 1) d))) he_36 (mne hinj 8 12 (by decide) (by decide) (by decide))
              have he_42 := up_at (o := some (arJ t 121 (va_up (fj 12) (sNL σ + 1) d))) he_37 (mne hinj 9 12 (by decide) (by decide) (by decide))
              have he_43 := va_up_self (va_up (va_up (va_up (va_up G (ma 0) (some (.inr (6, [.int 0, .int (nI (sNR σ)), .int (nI (sNL σ + 1)), .int (nI (sND σ)), .int (nI (sNC σ)), .ref (ma 1), .ref (ma 2), .ref (ma 3), .ref (ma 4), .ref (ma 5), .ref (ma 6), .ref (ma 7), .ref (ma 8), .ref (ma 9), .ref (ma 10), .ref (ma 11), .ref (ma 12), .ref (ma 13), .ref (ma 14), .ref (ma 15), .ref (ma 16), .ref (ma 17), .ref (ma 18), .ref (ma 19), .ref (ma 20), .int (sTH σ)])))) (ma 7) (some (arI t 121 (va_up (fm 7) (sNL σ + 1) (nI ji))))) (ma 8) (some (arI t 121 (va_up (fm 8) (sNL σ + 1) (nI jp))))) (ma 9) (some (arI t 121 (va_up (fm 9) (sNL σ + 1) (nI jr))))) (ma 12) (some (arJ t 121 (va_up (fj 12) (sNL σ + 1) d) : va_E))
              have hP : hw D vwCl A (va_up (va_up (va_up (va_up (va_up G (ma 0) (some (.inr (6, [.int 0, .int (nI (sNR σ)), .int (nI (sNL σ + 1)), .int (nI (sND σ)), .int (nI (sNC σ)), .ref (ma 1), .ref (ma 2), .ref (ma 3), .ref (ma 4), .ref (ma 5), .ref (ma 6), .ref (ma 7), .ref (ma 8), .ref (ma 9), .ref (ma 10), .ref (ma 11), .ref (ma 12), .ref (ma 13), .ref (ma 14), .ref (ma 15), .ref (ma 16), .ref (ma 17), .ref (ma 18), .ref (ma 19), .ref (ma 20), .int (sTH σ)])))) (ma 7) (some (arI t 121 (va_up (fm 7) (sNL σ + 1) (nI ji))))) (ma 8) (some (arI t 121 (va_up (fm 8) (sNL σ + 1) (nI jp))))) (ma 9) (some (arI t 121 (va_up (fm 9) (sNL σ + 1) (nI jr))))) (ma 12) (some (arJ t 121 (va_up (fj 12) (sNL σ + 1) d)))) H := hP
              refine lv_aload_n hx hb d_M_loan_123 rfl (lv_at hl 0 rfl) ?_
              refine g_M_38 X hb hP he_39 rfl d_M_loan_124 ?_
              refine lv_aload_n hx hb d_M_loan_127 rfl (lv_at hl 0 rfl) ?_
              refine g_M_107 X hb hP he_39 rfl d_M_loan_128 ?_
              refine lv_iconst (v := 1) hx hb d_M_loan_131 (by decide) ?_
              refine n_iast X hb hP hS he_38 ⟨by omega, by decide⟩ d_M_loan_132 (fun H locs hP hS => ?_)
              have he_44 := up_at (o := some (arI t 121 (va_up (fm 10) (sNL σ + 1) 1))) he_39 (mne hinj 0 10 (by decide) (by decide) (by decide))
              have he_45 := up_at (o := some (arI t 121 (va_up (fm 10) (sNL σ + 1) 1))) he_40 (mne hinj 7 10 (by decide) (by decide) (by decide))
              have he_46 := up_at (o := some (arI t 121 (va_up (fm 10) (sNL σ + 1) 1))) he_41 (mne hinj 8 10 (by decide) (by decide) (by decide))
              have he_47 := up_at (o := some (arI t 121 (va_up (fm 10) (sNL σ + 1) 1))) he_42 (mne hinj 9 10 (by decide) (by decide) (by decide))
              have he_48 := up_at (o := some (arI t 121 (va_up (fm 10) (sNL σ + 1) 1))) he_43 (mne hinj 12 10 (by decide) (by decide) (by decide))
              have he_49 := va_up_self (va_up (va_up (va_up (va_up (va_up G (ma 0) (some (.inr (6, [.int 0, .int (nI (sNR σ)), .int (nI (sNL σ + 1)), .int (nI (sND σ)), .int (nI (sNC σ)), .ref (ma 1), .ref (ma 2), .ref (ma 3), .ref (ma 4), .ref (ma 5), .ref (ma 6), .ref (ma 7), .ref (ma 8), .ref (ma 9), .ref (ma 10), .ref (ma 11), .ref (ma 12), .ref (ma 13), .ref (ma 14), .ref (ma 15), .ref (ma 16), .ref (ma 17), .ref (ma 18), .ref (ma 19), .ref (ma 20), .int (sTH σ)])))) (ma 7) (some (arI t 121 (va_up (fm 7) (sNL σ + 1) (nI ji))))) (ma 8) (some (arI t 121 (va_up (fm 8) (sNL σ + 1) (nI jp))))) (ma 9) (some (arI t 121 (va_up (fm 9) (sNL σ + 1) (nI jr))))) (ma 12) (some (arJ t 121 (va_up (fj 12) (sNL σ + 1) d)))) (ma 10) (some (arI t 121 (va_up (fm 10) (sNL σ + 1) 1) : va_E))
              have hP : hw D vwCl A (va_up (va_up (va_up (va_up (va_up (va_up G (ma 0) (some (.inr (6, [.int 0, .int (nI (sNR σ)), .int (nI (sNL σ + 1)), .int (nI (sND σ)), .int (nI (sNC σ)), .ref (ma 1), .ref (ma 2), .ref (ma 3), .ref (ma 4), .ref (ma 5), .ref (ma 6), .ref (ma 7), .ref (ma 8), .ref (ma 9), .ref (ma 10), .ref (ma 11), .ref (ma 12), .ref (ma 13), .ref (ma 14), .ref (ma 15), .ref (ma 16), .ref (ma 17), .ref (ma 18), .ref (ma 19), .ref (ma 20), .int (sTH σ)])))) (ma 7) (some (arI t 121 (va_up (fm 7) (sNL σ + 1) (nI ji))))) (ma 8) (some (arI t 121 (va_up (fm 8) (sNL σ + 1) (nI jp))))) (ma 9) (some (arI t 121 (va_up (fm 9) (sNL σ + 1) (nI jr))))) (ma 12) (some (arJ t 121 (va_up (fj 12) (sNL σ + 1) d)))) (ma 10) (some (arI t 121 (va_up (fm 10) (sNL σ + 1) 1)))) H := hP
              refine lv_aload_n hx hb d_M_loan_133 rfl (lv_at hl 0 rfl) ?_
              refine g_M_107 X hb hP he_44 rfl d_M_loan_134 ?_
              have hit : sIT σ ji = none := by
                rcases lof_S hV (nI ji) with ⟨h1, h2, _⟩ | ⟨k9, i9, q1, q2, q3, q4, q5, _⟩
                · exact h2 ji (by omega) rfl
                · rw [er_11, q3] at c_12; exact absurd ((nI_leI (a := k9 + 1) (b := 0) (by omega) (by omega)).mp c_12) (by omega)
              have e9 : spLoan σ (nI ji) (nI jp) (nI jr) d = (nI (sNL σ + 1), (σ.1, (sNL σ + 1, va_up (sLV σ) (sNL σ) (ji, jp, jr, d, 1, 0)), σ.2.2.1, σ.2.2.2.1, σ.2.2.2.2.1, sTH σ, va_up (sIT σ) ji (some (sNL σ)))) := by
                simp only [spLoan, hwx, hwy, hwz, t_8, nI_k0 (show ji < 1000000 by omega), nI_k0 (show jp < 1000000 by omega), nI_k0 (show jr < 1000000 by omega), hit]
                simp [hlt]
              exact h_iret hx hb hr hlocks (Nat.le_of_ble_eq_true rfl) (Nat.le_of_ble_eq_true rfl) hP hS (⟨by rw [e9], by rw [e9]; exact ⟨_, _, MC.ai (MC.aj (MC.ai (MC.ai (MC.ai (MC.put (hM1) 0 (nI (sNR σ)) (nI (sNL σ + 1)) (nI (sND σ)) (nI (sNC σ)) (sTH σ)) 7 ⟨by decide, by decide⟩ (sNL σ + 1) (nI ji)) 8 ⟨by decide, by decide⟩ (sNL σ + 1) (nI jp)) 9 ⟨by decide, by decide⟩ (sNL σ + 1) (nI jr)) 12 ⟨by decide, by decide⟩ (sNL σ + 1) d) 10 ⟨by decide, by decide⟩ (sNL σ + 1) 1, MRel_loan hRr ji jp jr d _⟩, Keep.up (Keep.up (Keep.up (Keep.up (Keep.up (Keep.up (hK1) (Or.inl (mF_i ma 0 (by decide)))) (Or.inl (mF_i ma 7 (by decide)))) (Or.inl (mF_i ma 8 (by decide)))) (Or.inl (mF_i ma 9 (by decide)))) (Or.inl (mF_i ma 12 (by decide)))) (Or.inl (mF_i ma 10 (by decide)))⟩) d_M_loan_137
            · refine lv_iconst (v := 0) hx hb d_M_loan_70 (by decide) ?_
              have hit : sIT σ (nI ji).toInt.toNat ≠ none := by
                rw [nI_k0 (by omega)]
                rcases lof_S hV (nI ji) with ⟨h1, _⟩ | ⟨k9, i9, q1, q2, q3, q4, q5, _⟩
                · rw [er_11, h1] at c_12; exact absurd (show nI 0 ≤ 0 by decide) c_12
                · rw [(nI_small (by omega) (by omega)).mp q4, q5]; exact fun q => by cases q
              have hit2 : (sIT σ (nI ji).toInt.toNat).isNone = false := by cases q : sIT σ (nI ji).toInt.toNat with | none => exact absurd q hit | some v => rfl
              have e9 : spLoan σ (nI ji) (nI jp) (nI jr) d = (0, σ) := by simp only [spLoan, hit2, Bool.and_false, Bool.false_and]; rfl
              exact h_iret hx hb hr hlocks (Nat.le_of_ble_eq_true rfl) (Nat.le_of_ble_eq_true rfl) hP hS (⟨by rw [e9], by rw [e9]; exact hX1, hK1⟩) d_M_loan_71
theorem k_W_44 {p : Program} {l : Launch} {e : Env} {R : Room} {s : State} {m : MethodId} {args : Array Value} {below : List Frame} {meth : Method} {c : Code} {H : Heap} {locs : List Loc} {cells slots : Nat} {Q : State → Prop} {cc : ByteArray} {pc : Nat} {ls : Array Slot} {rest : List Value} {D : va_G} {A : Nat → Prop} {t : Nat → ClassId} {g : hG} {nL : Nat} {ret0 : Option FieldType} {nm : String} (X : Cx p s m args meth c R_W cc nL ret0 TB D vwCl (tyL t) EX A nm) (hR : 2 + 1 ≤ R.frames ∧ 8 + (6 + 11) + 46 ≤ R.locals) (hf : cells + 0 ≤ R.cells ∧ slots + 0 ≤ R.slots) (hls : ls.size = nL) (hP : hw D vwCl A g H) (hS : va_S A s.heap H locs) {ma : Nat → Nat} {tv : Int32} {σ : SS} {x y z : Int32} {d : Int64} {fs9 : List Value} (he9 : g (ma 0) = some (.inr (6, fs9))) (hMx : RMx t ma tv σ g) (hV : Inv σ)  (hW : (rest.map fun v => v.category).sum ≤ 8) (hdg : decode cc pc = .ok (.invokevirtual 44, 3)) (kk : ∀ (r : Int32) (u : hG) (H1 : Heap) (locs1 : List Loc), ((fun r u => r = (spLoan σ x y z d).1 ∧ RMx t ma 0 (spLoan σ x y z d).2 u ∧ Keep (mF ma) g u) r u) → hw D vwCl A u H1 → va_S A s.heap H1 locs1 → W p l e R s m args below meth c H1 locs1 (cells + 0) (slots + 0) Q (F0 m (pc + 3) ls (.int r :: rest))) : W p l e R s m args below meth c H locs cells slots Q (F0 m pc ls (.long d :: .int z :: .int y :: .int x :: .ref (ma 0) :: rest)) :=
  h_ci (runV (C := R_M) (T := F_M) (N := 26) X (c_M_loan l D t A g ma tv σ x y z d hMx hV) (tbm 565 (by decide +kernel)) (tbm 566 (by decide +kernel)) (tbm 567 (by decide +kernel)) (tbm 23 (by decide +kernel)) (tbm 568 (by decide +kernel)) rfl (n := 4) (by decide +kernel) hR hf hP he9 hS hls rfl rfl hW hdg) hS kk

set_option maxHeartbeats 4000000 in
set_option maxRecDepth 100000 in
theorem c_M_comes (l : Launch) (D : va_G) (t : Nat → ClassId) (A : Nat → Prop) (g : hG) (ma : Nat → Nat) (tv : Int32) (σ : SS) (k9 am : Nat) (d : Int64) (so : Int32) (hMx : RMx t ma tv σ g) (hN : sND σ < 200) : Met l y_M_comes (Cond.code y_M_comes b_M_comes 6 (some .int) :: TB) ({ frames := 0, cells := 0, slots := 0, locals := 0 } : Room) (va_Pc [.ref (ma 0), .int (nI (k9 + 1)), .int (nI am), .long d, .int so] (hI D vwCl (tyL t) EX A g)) (va_Qi (fun r u => r = nI (sND σ + 1) ∧ RMx t ma tv (adD σ k9 am so d) u ∧ Keep (mF ma) g u) (fun u v => hw D vwCl A u v.heap) A) 0 0 A := by
  refine Met.ofH (cc := b_M_comes) (maxL := 6) (ret := (some .int)) (lv := [(0, .ref (ma 0)), (1, .int (nI (k9 + 1))), (2, .int (nI am)), (3, .long d), (5, .int so)]) (by decide) (Nat.le_of_ble_eq_true rfl) rfl ?_
  intro p e s m below meth c ls X hP hS hl
  obtain ⟨hx, hb, hml, hr, hts, hown, hlocks, hK, hEs, hA, hnm⟩ := id X
  obtain ⟨fm, fj, hM, hRr⟩ := id hMx
  have m0 := hM.1
  have hinj := hM.2.2
  have m13 : g (ma 13) = some (arI t 201 (fm 13)) := hM.2.1 13 (by decide) (by decide)
  have m14 : g (ma 14) = some (arI t 201 (fm 14)) := hM.2.1 14 (by decide) (by decide)
  have m15 : g (ma 15) = some (arI t 201 (fm 15)) := hM.2.1 15 (by decide) (by decide)
  have m16 : g (ma 16) = some (arI t 201 (fm 16)) := hM.2.1 16 (by decide) (by decide)
  have m17 : g (ma 17) = some (arI t 201 (fm 17)) := hM.2.1 17 (by decide) (by decide)
  have m18 : g (ma 18) = some (arJ t 201 (fj 18)) := hM.2.1 18 (by decide) (by decide)
  refine lv_aload_n hx hb d_M_comes_0 rfl (lv_at hl 0 rfl) ?_
  refine lv_dup hx hb d_M_comes_1 rfl ?_
  refine g_M_128 X hb hP m0 rfl d_M_comes_2 ?_
  refine lv_iconst (v := 1) hx hb d_M_comes_5 (by decide) ?_
  refine lv_iadd hx hb d_M_comes_6 ?_
  refine lv_topi (fun x_1 ex_1 => ?_)
  refine p_M_128 X hb hP hS m0 (Nat.le_of_ble_eq_true rfl) d_M_comes_7 (fun H locs hP hS => ?_)
  have he_2 := up_at (o := some (.inr (6, [.int tv, .int (nI (sNR σ)), .int (nI (sNL σ)), .int x_1, .int (nI (sNC σ)), .ref (ma 1), .ref (ma 2), .ref (ma 3), .ref (ma 4), .ref (ma 5), .ref (ma 6), .ref (ma 7), .ref (ma 8), .ref (ma 9), .ref (ma 10), .ref (ma 11), .ref (ma 12), .ref (ma 13), .ref (ma 14), .ref (ma 15), .ref (ma 16), .ref (ma 17), .ref (ma 18), .ref (ma 19), .ref (ma 20), .int (sTH σ)]))) m13 (mne hinj 13 0 (by decide) (by decide) (by decide))
  have he_3 := up_at (o := some (.inr (6, [.int tv, .int (nI (sNR σ)), .int (nI (sNL σ)), .int x_1, .int (nI (sNC σ)), .ref (ma 1), .ref (ma 2), .ref (ma 3), .ref (ma 4), .ref (ma 5), .ref (ma 6), .ref (ma 7), .ref (ma 8), .ref (ma 9), .ref (ma 10), .ref (ma 11), .ref (ma 12), .ref (ma 13), .ref (ma 14), .ref (ma 15), .ref (ma 16), .ref (ma 17), .ref (ma 18), .ref (ma 19), .ref (ma 20), .int (sTH σ)]))) m14 (mne hinj 14 0 (by decide) (by decide) (by decide))
  have he_4 := up_at (o := some (.inr (6, [.int tv, .int (nI (sNR σ)), .int (nI (sNL σ)), .int x_1, .int (nI (sNC σ)), .ref (ma 1), .ref (ma 2), .ref (ma 3), .ref (ma 4), .ref (ma 5), .ref (ma 6), .ref (ma 7), .ref (ma 8), .ref (ma 9), .ref (ma 10), .ref (ma 11), .ref (ma 12), .ref (ma 13), .ref (ma 14), .ref (ma 15), .ref (ma 16), .ref (ma 17), .ref (ma 18), .ref (ma 19), .ref (ma 20), .int (sTH σ)]))) m15 (mne hinj 15 0 (by decide) (by decide) (by decide))
  have he_5 := up_at (o := some (.inr (6, [.int tv, .int (nI (sNR σ)), .int (nI (sNL σ)), .int x_1, .int (nI (sNC σ)), .ref (ma 1), .ref (ma 2), .ref (ma 3), .ref (ma 4), .ref (ma 5), .ref (ma 6), .ref (ma 7), .ref (ma 8), .ref (ma 9), .ref (ma 10), .ref (ma 11), .ref (ma 12), .ref (ma 13), .ref (ma 14), .ref (ma 15), .ref (ma 16), .ref (ma 17), .ref (ma 18), .ref (ma 19), .ref (ma 20), .int (sTH σ)]))) m16 (mne hinj 16 0 (by decide) (by decide) (by decide))
  have he_6 := up_at (o := some (.inr (6, [.int tv, .int (nI (sNR σ)), .int (nI (sNL σ)), .int x_1, .int (nI (sNC σ)), .ref (ma 1), .ref (ma 2), .ref (ma 3), .ref (ma 4), .ref (ma 5), .ref (ma 6), .ref (ma 7), .ref (ma 8), .ref (ma 9), .ref (ma 10), .ref (ma 11), .ref (ma 12), .ref (ma 13), .ref (ma 14), .ref (ma 15), .ref (ma 16), .ref (ma 17), .ref (ma 18), .ref (ma 19), .ref (ma 20), .int (sTH σ)]))) m17 (mne hinj 17 0 (by decide) (by decide) (by decide))
  have he_7 := up_at (o := some (.inr (6, [.int tv, .int (nI (sNR σ)), .int (nI (sNL σ)), .int x_1, .int (nI (sNC σ)), .ref (ma 1), .ref (ma 2), .ref (ma 3), .ref (ma 4), .ref (ma 5), .ref (ma 6), .ref (ma 7), .ref (ma 8), .ref (ma 9), .ref (ma 10), .ref (ma 11), .ref (ma 12), .ref (ma 13), .ref (ma 14), .ref (ma 15), .ref (ma 16), .ref (ma 17), .ref (ma 18), .ref (ma 19), .ref (ma 20), .int (sTH σ)]))) m18 (mne hinj 18 0 (by decide) (by decide) (by decide))
  have he_8 := va_up_self g (ma 0) (some (.inr (6, [.int tv, .int (nI (sNR σ)), .int (nI (sNL σ)), .int x_1, .int (nI (sNC σ)), .ref (ma 1), .ref (ma 2), .ref (ma 3), .ref (ma 4), .ref (ma 5), .ref (ma 6), .ref (ma 7), .ref (ma 8), .ref (ma 9), .ref (ma 10), .ref (ma 11), .ref (ma 12), .ref (ma 13), .ref (ma 14), .ref (ma 15), .ref (ma 16), .ref (ma 17), .ref (ma 18), .ref (ma 19), .ref (ma 20), .int (sTH σ)]) : va_E))
  have hP : hw D vwCl A (va_up g (ma 0) (some (.inr (6, [.int tv, .int (nI (sNR σ)), .int (nI (sNL σ)), .int x_1, .int (nI (sNC σ)), .ref (ma 1), .ref (ma 2), .ref (ma 3), .ref (ma 4), .ref (ma 5), .ref (ma 6), .ref (ma 7), .ref (ma 8), .ref (ma 9), .ref (ma 10), .ref (ma 11), .ref (ma 12), .ref (ma 13), .ref (ma 14), .ref (ma 15), .ref (ma 16), .ref (ma 17), .ref (ma 18), .ref (ma 19), .ref (ma 20), .int (sTH σ)])))) H := hP
  obtain rfl : x_1 = nI (sND σ + 1) := by rw [ex_1]; exact nI_1 _
  refine lv_aload_n hx hb d_M_comes_10 rfl (lv_at hl 0 rfl) ?_
  refine g_M_47 X hb hP he_8 rfl d_M_comes_11 ?_
  refine lv_aload_n hx hb d_M_comes_14 rfl (lv_at hl 0 rfl) ?_
  refine g_M_128 X hb hP he_8 rfl d_M_comes_15 ?_
  refine lv_iload_n hx hb d_M_comes_18 rfl (lv_at hl 1 rfl) ?_
  refine n_iast X hb hP hS he_2 ⟨by omega, by decide⟩ d_M_comes_19 (fun H locs hP hS => ?_)
  have he_9 := up_at (o := some (arI t 201 (va_up (fm 13) (sND σ + 1) (nI (k9 + 1))))) he_3 (mne hinj 14 13 (by decide) (by decide) (by decide))
  have he_10 := up_at (o := some (arI t 201 (va_up (fm 13) (sND σ + 1) (nI (k9 + 1))))) he_4 (mne hinj 15 13 (by decide) (by decide) (by decide))
  have he_11 := up_at (o := some (arI t 201 (va_up (fm 13) (sND σ + 1) (nI (k9 + 1))))) he_5 (mne hinj 16 13 (by decide) (by decide) (by decide))
  have he_12 := up_at (o := some (arI t 201 (va_up (fm 13) (sND σ + 1) (nI (k9 + 1))))) he_6 (mne hinj 17 13 (by decide) (by decide) (by decide))
  have he_13 := up_at (o := some (arI t 201 (va_up (fm 13) (sND σ + 1) (nI (k9 + 1))))) he_7 (mne hinj 18 13 (by decide) (by decide) (by decide))
  have he_14 := up_at (o := some (arI t 201 (va_up (fm 13) (sND σ + 1) (nI (k9 + 1))))) he_8 (mne hinj 0 13 (by decide) (by decide) (by decide))
  have he_15 := va_up_self (va_up g (ma 0) (some (.inr (6, [.int tv, .int (nI (sNR σ)), .int (nI (sNL σ)), .int (nI (sND σ + 1)), .int (nI (sNC σ)), .ref (ma 1), .ref (ma 2), .ref (ma 3), .ref (ma 4), .ref (ma 5), .ref (ma 6), .ref (ma 7), .ref (ma 8), .ref (ma 9), .ref (ma 10), .ref (ma 11), .ref (ma 12), .ref (ma 13), .ref (ma 14), .ref (ma 15), .ref (ma 16), .ref (ma 17), .ref (ma 18), .ref (ma 19), .ref (ma 20), .int (sTH σ)])))) (ma 13) (some (arI t 201 (va_up (fm 13) (sND σ + 1) (nI (k9 + 1))) : va_E))
  have hP : hw D vwCl A (va_up (va_up g (ma 0) (some (.inr (6, [.int tv, .int (nI (sNR σ)), .int (nI (sNL σ)), .int (nI (sND σ + 1)), .int (nI (sNC σ)), .ref (ma 1), .ref (ma 2), .ref (ma 3), .ref (ma 4), .ref (ma 5), .ref (ma 6), .ref (ma 7), .ref (ma 8), .ref (ma 9), .ref (ma 10), .ref (ma 11), .ref (ma 12), .ref (ma 13), .ref (ma 14), .ref (ma 15), .ref (ma 16), .ref (ma 17), .ref (ma 18), .ref (ma 19), .ref (ma 20), .int (sTH σ)])))) (ma 13) (some (arI t 201 (va_up (fm 13) (sND σ + 1) (nI (k9 + 1)))))) H := hP
  refine lv_aload_n hx hb d_M_comes_20 rfl (lv_at hl 0 rfl) ?_
  refine g_M_50 X hb hP he_14 rfl d_M_comes_21 ?_
  refine lv_aload_n hx hb d_M_comes_24 rfl (lv_at hl 0 rfl) ?_
  refine g_M_128 X hb hP he_14 rfl d_M_comes_25 ?_
  refine lv_iload_n hx hb d_M_comes_28 rfl (lv_at hl 2 rfl) ?_
  refine n_iast X hb hP hS he_9 ⟨by omega, by decide⟩ d_M_comes_29 (fun H locs hP hS => ?_)
  have he_16 := up_at (o := some (arI t 201 (va_up (fm 14) (sND σ + 1) (nI am)))) he_10 (mne hinj 15 14 (by decide) (by decide) (by decide))
  have he_17 := up_at (o := some (arI t 201 (va_up (fm 14) (sND σ + 1) (nI am)))) he_11 (mne hinj 16 14 (by decide) (by decide) (by decide))
  have he_18 := up_at (o := some (arI t 201 (va_up (fm 14) (sND σ + 1) (nI am)))) he_12 (mne hinj 17 14 (by decide) (by decide) (by decide))
  have he_19 := up_at (o := some (arI t 201 (va_up (fm 14) (sND σ + 1) (nI am)))) he_13 (mne hinj 18 14 (by decide) (by decide) (by decide))
  have he_20 := up_at (o := some (arI t 201 (va_up (fm 14) (sND σ + 1) (nI am)))) he_14 (mne hinj 0 14 (by decide) (by decide) (by decide))
  have he_21 := up_at (o := some (arI t 201 (va_up (fm 14) (sND σ + 1) (nI am)))) he_15 (mne hinj 13 14 (by decide) (by decide) (by decide))
  have he_22 := va_up_self (va_up (va_up g (ma 0) (some (.inr (6, [.int tv, .int (nI (sNR σ)), .int (nI (sNL σ)), .int (nI (sND σ + 1)), .int (nI (sNC σ)), .ref (ma 1), .ref (ma 2), .ref (ma 3), .ref (ma 4), .ref (ma 5), .ref (ma 6), .ref (ma 7), .ref (ma 8), .ref (ma 9), .ref (ma 10), .ref (ma 11), .ref (ma 12), .ref (ma 13), .ref (ma 14), .ref (ma 15), .ref (ma 16), .ref (ma 17), .ref (ma 18), .ref (ma 19), .ref (ma 20), .int (sTH σ)])))) (ma 13) (some (arI t 201 (va_up (fm 13) (sND σ + 1) (nI (k9 + 1)))))) (ma 14) (some (arI t 201 (va_up (fm 14) (sND σ + 1) (nI am)) : va_E))
  have hP : hw D vwCl A (va_up (va_up (va_up g (ma 0) (some (.inr (6, [.int tv, .int (nI (sNR σ)), .int (nI (sNL σ)), .int (nI (sND σ + 1)), .int (nI (sNC σ)), .ref (ma 1), .ref (ma 2), .ref (ma 3), .ref (ma 4), .ref (ma 5), .ref (ma 6), .ref (ma 7), .ref (ma 8), .ref (ma 9), .ref (ma 10), .ref (ma 11), .ref (ma 12), .ref (ma 13), .ref (ma 14), .ref (ma 15), .ref (ma 16), .ref (ma 17), .ref (ma 18), .ref (ma 19), .ref (ma 20), .int (sTH σ)])))) (ma 13) (some (arI t 201 (va_up (fm 13) (sND σ + 1) (nI (k9 + 1)))))) (ma 14) (some (arI t 201 (va_up (fm 14) (sND σ + 1) (nI am))))) H := hP
  refine lv_aload_n hx hb d_M_comes_30 rfl (lv_at hl 0 rfl) ?_
  refine g_M_53 X hb hP he_20 rfl d_M_comes_31 ?_
  refine lv_aload_n hx hb d_M_comes_34 rfl (lv_at hl 0 rfl) ?_
  refine g_M_128 X hb hP he_20 rfl d_M_comes_35 ?_
  refine lv_iload_n hx hb d_M_comes_38 rfl (lv_at hl 2 rfl) ?_
  refine n_iast X hb hP hS he_16 ⟨by omega, by decide⟩ d_M_comes_39 (fun H locs hP hS => ?_)
  have he_23 := up_at (o := some (arI t 201 (va_up (fm 15) (sND σ + 1) (nI am)))) he_17 (mne hinj 16 15 (by decide) (by decide) (by decide))
  have he_24 := up_at (o := some (arI t 201 (va_up (fm 15) (sND σ + 1) (nI am)))) he_18 (mne hinj 17 15 (by decide) (by decide) (by decide))
  have he_25 := up_at (o := some (arI t 201 (va_up (fm 15) (sND σ + 1) (nI am)))) he_19 (mne hinj 18 15 (by decide) (by decide) (by decide))
  have he_26 := up_at (o := some (arI t 201 (va_up (fm 15) (sND σ + 1) (nI am)))) he_20 (mne hinj 0 15 (by decide) (by decide) (by decide))
  have he_27 := up_at (o := some (arI t 201 (va_up (fm 15) (sND σ + 1) (nI am)))) he_21 (mne hinj 13 15 (by decide) (by decide) (by decide))
  have he_28 := up_at (o := some (arI t 201 (va_up (fm 15) (sND σ + 1) (nI am)))) he_22 (mne hinj 14 15 (by decide) (by decide) (by decide))
  have he_29 := va_up_self (va_up (va_up (va_up g (ma 0) (some (.inr (6, [.int tv, .int (nI (sNR σ)), .int (nI (sNL σ)), .int (nI (sND σ + 1)), .int (nI (sNC σ)), .ref (ma 1), .ref (ma 2), .ref (ma 3), .ref (ma 4), .ref (ma 5), .ref (ma 6), .ref (ma 7), .ref (ma 8), .ref (ma 9), .ref (ma 10), .ref (ma 11), .ref (ma 12), .ref (ma 13), .ref (ma 14), .ref (ma 15), .ref (ma 16), .ref (ma 17), .ref (ma 18), .ref (ma 19), .ref (ma 20), .int (sTH σ)])))) (ma 13) (some (arI t 201 (va_up (fm 13) (sND σ + 1) (nI (k9 + 1)))))) (ma 14) (some (arI t 201 (va_up (fm 14) (sND σ + 1) (nI am))))) (ma 15) (some (arI t 201 (va_up (fm 15) (sND σ + 1) (nI am)) : va_E))
  have hP : hw D vwCl A (va_up (va_up (va_up (va_up g (ma 0) (some (.inr (6, [.int tv, .int (nI (sNR σ)), .int (nI (sNL σ)), .int (nI (sND σ + 1)), .int (nI (sNC σ)), .ref (ma 1), .ref (ma 2), .ref (ma 3), .ref (ma 4), .ref (ma 5), .ref (ma 6), .ref (ma 7), .ref (ma 8), .ref (ma 9), .ref (ma 10), .ref (ma 11), .ref (ma 12), .ref (ma 13), .ref (ma 14), .ref (ma 15), .ref (ma 16), .ref (ma 17), .ref (ma 18), .ref (ma 19), .ref (ma 20), .int (sTH σ)])))) (ma 13) (some (arI t 201 (va_up (fm 13) (sND σ + 1) (nI (k9 + 1)))))) (ma 14) (some (arI t 201 (va_up (fm 14) (sND σ + 1) (nI am))))) (ma 15) (some (arI t 201 (va_up (fm 15) (sND σ + 1) (nI am))))) H := hP
  refine lv_aload_n hx hb d_M_comes_40 rfl (lv_at hl 0 rfl) ?_
  refine g_M_56 X hb hP he_26 rfl d_M_comes_41 ?_
  refine lv_aload_n hx hb d_M_comes_44 rfl (lv_at hl 0 rfl) ?_
  refine g_M_128 X hb hP he_26 rfl d_M_comes_45 ?_
  refine lv_iconst (v := 0) hx hb d_M_comes_48 (by decide) ?_
  refine n_iast X hb hP hS he_23 ⟨by omega, by decide⟩ d_M_comes_49 (fun H locs hP hS => ?_)
  have he_30 := up_at (o := some (arI t 201 (va_up (fm 16) (sND σ + 1) 0))) he_24 (mne hinj 17 16 (by decide) (by decide) (by decide))
  have he_31 := up_at (o := some (arI t 201 (va_up (fm 16) (sND σ + 1) 0))) he_25 (mne hinj 18 16 (by decide) (by decide) (by decide))
  have he_32 := up_at (o := some (arI t 201 (va_up (fm 16) (sND σ + 1) 0))) he_26 (mne hinj 0 16 (by decide) (by decide) (by decide))
  have he_33 := up_at (o := some (arI t 201 (va_up (fm 16) (sND σ + 1) 0))) he_27 (mne hinj 13 16 (by decide) (by decide) (by decide))
  have he_34 := up_at (o := some (arI t 201 (va_up (fm 16) (sND σ + 1) 0))) he_28 (mne hinj 14 16 (by decide) (by decide) (by decide))
  have he_35 := up_at (o := some (arI t 201 (va_up (fm 16) (sND σ + 1) 0))) he_29 (mne hinj 15 16 (by decide) (by decide) (by decide))
  have he_36 := va_up_self (va_up (va_up (va_up (va_up g (ma 0) (some (.inr (6, [.int tv, .int (nI (sNR σ)), .int (nI (sNL σ)), .int (nI (sND σ + 1)), .int (nI (sNC σ)), .ref (ma 1), .ref (ma 2), .ref (ma 3), .ref (ma 4), .ref (ma 5), .ref (ma 6), .ref (ma 7), .ref (ma 8), .ref (ma 9), .ref (ma 10), .ref (ma 11), .ref (ma 12), .ref (ma 13), .ref (ma 14), .ref (ma 15), .ref (ma 16), .ref (ma 17), .ref (ma 18), .ref (ma 19), .ref (ma 20), .int (sTH σ)])))) (ma 13) (some (arI t 201 (va_up (fm 13) (sND σ + 1) (nI (k9 + 1)))))) (ma 14) (some (arI t 201 (va_up (fm 14) (sND σ + 1) (nI am))))) (ma 15) (some (arI t 201 (va_up (fm 15) (sND σ + 1) (nI am))))) (ma 16) (some (arI t 201 (va_up (fm 16) (sND σ + 1) 0) : va_E))
  have hP : hw D vwCl A (va_up (va_up (va_up (va_up (va_up g (ma 0) (some (.inr (6, [.int tv, .int (nI (sNR σ)), .int (nI (sNL σ)), .int (nI (sND σ + 1)), .int (nI (sNC σ)), .ref (ma 1), .ref (ma 2), .ref (ma 3), .ref (ma 4), .ref (ma 5), .ref (ma 6), .ref (ma 7), .ref (ma 8), .ref (ma 9), .ref (ma 10), .ref (ma 11), .ref (ma 12), .ref (ma 13), .ref (ma 14), .ref (ma 15), .ref (ma 16), .ref (ma 17), .ref (ma 18), .ref (ma 19), .ref (ma 20), .int (sTH σ)])))) (ma 13) (some (arI t 201 (va_up (fm 13) (sND σ + 1) (nI (k9 + 1)))))) (ma 14) (some (arI t 201 (va_up (fm 14) (sND σ + 1) (nI am))))) (ma 15) (some (arI t 201 (va_up (fm 15) (sND σ + 1) (nI am))))) (ma 16) (some (arI t 201 (va_up (fm 16) (sND σ + 1) 0)))) H := hP
  refine lv_aload_n hx hb d_M_comes_50 rfl (lv_at hl 0 rfl) ?_
  refine g_M_59 X hb hP he_32 rfl d_M_comes_51 ?_
  refine lv_aload_n hx hb d_M_comes_54 rfl (lv_at hl 0 rfl) ?_
  refine g_M_128 X hb hP he_32 rfl d_M_comes_55 ?_
  refine lv_iload hx hb d_M_comes_58 (lv_at hl 4 rfl) ?_
  refine n_iast X hb hP hS he_30 ⟨by omega, by decide⟩ d_M_comes_60 (fun H locs hP hS => ?_)
  have he_37 := up_at (o := some (arI t 201 (va_up (fm 17) (sND σ + 1) so))) he_31 (mne hinj 18 17 (by decide) (by decide) (by decide))
  have he_38 := up_at (o := some (arI t 201 (va_up (fm 17) (sND σ + 1) so))) he_32 (mne hinj 0 17 (by decide) (by decide) (by decide))
  have he_39 := up_at (o := some (arI t 201 (va_up (fm 17) (sND σ + 1) so))) he_33 (mne hinj 13 17 (by decide) (by decide) (by decide))
  have he_40 := up_at (o := some (arI t 201 (va_up (fm 17) (sND σ + 1) so))) he_34 (mne hinj 14 17 (by decide) (by decide) (by decide))
  have he_41 := up_at (o := some (arI t 201 (va_up (fm 17) (sND σ + 1) so))) he_35 (mne hinj 15 17 (by decide) (by decide) (by decide))
  have he_42 := up_at (o := some (arI t 201 (va_up (fm 17) (sND σ + 1) so))) he_36 (mne hinj 16 17 (by decide) (by decide) (by decide))
  have he_43 := va_up_self (va_up (va_up (va_up (va_up (va_up g (ma 0) (some (.inr (6, [.int tv, .int (nI (sNR σ)), .int (nI (sNL σ)), .int (nI (sND σ + 1)), .int (nI (sNC σ)), .ref (ma 1), .ref (ma 2), .ref (ma 3), .ref (ma 4), .ref (ma 5), .ref (ma 6), .ref (ma 7), .ref (ma 8), .ref (ma 9), .ref (ma 10), .ref (ma 11), .ref (ma 12), .ref (ma 13), .ref (ma 14), .ref (ma 15), .ref (ma 16), .ref (ma 17), .ref (ma 18), .ref (ma 19), .ref (ma 20), .int (sTH σ)])))) (ma 13) (some (arI t 201 (va_up (fm 13) (sND σ + 1) (nI (k9 + 1)))))) (ma 14) (some (arI t 201 (va_up (fm 14) (sND σ + 1) (nI am))))) (ma 15) (some (arI t 201 (va_up (fm 15) (sND σ + 1) (nI am))))) (ma 16) (some (arI t 201 (va_up (fm 16) (sND σ + 1) 0)))) (ma 17) (some (arI t 201 (va_up (fm 17) (sND σ + 1) so) : va_E))
  have hP : hw D vwCl A (va_up (va_up (va_up (va_up (va_up (va_up g (ma 0) (some (.inr (6, [.int tv, .int (nI (sNR σ)), .int (nI (sNL σ)), .int (nI (sND σ + 1)), .int (nI (sNC σ)), .ref (ma 1), .ref (ma 2), .ref (ma 3), .ref (ma 4), .ref (ma 5), .ref (ma 6), .ref (ma 7), .ref (ma 8), .ref (ma 9), .ref (ma 10), .ref (ma 11), .ref (ma 12), .ref (ma 13), .ref (ma 14), .ref (ma 15), .ref (ma 16), .ref (ma 17), .ref (ma 18), .ref (ma 19), .ref (ma 20), .int (sTH σ)])))) (ma 13) (some (arI t 201 (va_up (fm 13) (sND σ + 1) (nI (k9 + 1)))))) (ma 14) (some (arI t 201 (va_up (fm 14) (sND σ + 1) (nI am))))) (ma 15) (some (arI t 201 (va_up (fm 15) (sND σ + 1) (nI am))))) (ma 16) (some (arI t 201 (va_up (fm 16) (sND σ + 1) 0)))) (ma 17) (some (arI t 201 (va_up (fm 17) (sND σ + 1) so)))) H := hP
  refine lv_aload_n hx hb d_M_comes_61 rfl (lv_at hl 0 rfl) ?_
  refine g_M_62 X hb hP he_38 rfl d_M_comes_62 ?_
  refine lv_aload_n hx hb d_M_comes_65 rfl (lv_at hl 0 rfl) ?_
  refine g_M_128 X hb hP he_38 rfl d_M_comes_66 ?_
  refine lv_lload_n hx hb d_M_comes_69 rfl (lv_at hl 3 rfl) ?_
  refine n_last X hb hP hS he_37 ⟨by omega, by decide⟩ d_M_comes_70 (fun H locs hP hS => ?_)
  have he_44 := up_at (o := some (arJ t 201 (va_up (fj 18) (sND σ + 1) d))) he_38 (mne hinj 0 18 (by decide) (by decide) (by decide))
  have he_45 := up_at (o := some (arJ t 201 (va_up (fj 18) (sND σ + 1) d))) he_39 (mne hinj 13 18 (by decide) (by decide) (by decide))
  have he_46 := up_at (o := some (arJ t 201 (va_up (fj 18) (sND σ + 1) d))) he_40 (mne hinj 14 18 (by decide) (by decide) (by decide))
  have he_47 := up_at (o := some (arJ t 201 (va_up (fj 18) (sND σ + 1) d))) he_41 (mne hinj 15 18 (by decide) (by decide) (by decide))
  have he_48 := up_at (o := some (arJ t 201 (va_up (fj 18) (sND σ + 1) d))) he_42 (mne hinj 16 18 (by decide) (by decide) (by decide))
  have he_49 := up_at (o := some (arJ t 201 (va_up (fj 18) (sND σ + 1) d))) he_43 (mne hinj 17 18 (by decide) (by decide) (by decide))
  have he_50 := va_up_self (va_up (va_up (va_up (va_up (va_up (va_up g (ma 0) (some (.inr (6, [.int tv, .int (nI (sNR σ)), .int (nI (sNL σ)), .int (nI (sND σ + 1)), .int (nI (sNC σ)), .ref (ma 1), .ref (ma 2), .ref (ma 3), .ref (ma 4), .ref (ma 5), .ref (ma 6), .ref (ma 7), .ref (ma 8), .ref (ma 9), .ref (ma 10), .ref (ma 11), .ref (ma 12), .ref (ma 13), .ref (ma 14), .ref (ma 15), .ref (ma 16), .ref (ma 17), .ref (ma 18), .ref (ma 19), .ref (ma 20), .int (sTH σ)])))) (ma 13) (some (arI t 201 (va_up (fm 13) (sND σ + 1) (nI (k9 + 1)))))) (ma 14) (some (arI t 201 (va_up (fm 14) (sND σ + 1) (nI am))))) (ma 15) (some (arI t 201 (va_up (fm 15) (sND σ + 1) (nI am))))) (ma 16) (some (arI t 201 (va_up (fm 16) (sND σ + 1) 0)))) (ma 17) (some (arI t 201 (va_up (fm 17) (sND σ + 1) so)))) (ma 18) (some (arJ t 201 (va_up (fj 18) (sND σ + 1) d) : va_E))
  have hP : hw D vwCl A (va_up (va_up (va_up (va_up (va_up (va_up (va_up g (ma 0) (some (.inr (6, [.int tv, .int (nI (sNR σ)), .int (nI (sNL σ)), .int (nI (sND σ + 1)), .int (nI (sNC σ)), .ref (ma 1), .ref (ma 2), .ref (ma 3), .ref (ma 4), .ref (ma 5), .ref (ma 6), .ref (ma 7), .ref (ma 8), .ref (ma 9), .ref (ma 10), .ref (ma 11), .ref (ma 12), .ref (ma 13), .ref (ma 14), .ref (ma 15), .ref (ma 16), .ref (ma 17), .ref (ma 18), .ref (ma 19), .ref (ma 20), .int (sTH σ)])))) (ma 13) (some (arI t 201 (va_up (fm 13) (sND σ + 1) (nI (k9 + 1)))))) (ma 14) (some (arI t 201 (va_up (fm 14) (sND σ + 1) (nI am))))) (ma 15) (some (arI t 201 (va_up (fm 15) (sND σ + 1) (nI am))))) (ma 16) (some (arI t 201 (va_up (fm 16) (sND σ + 1) 0)))) (ma 17) (some (arI t 201 (va_up (fm 17) (sND σ + 1) so)))) (ma 18) (some (arJ t 201 (va_up (fj 18) (sND σ + 1) d)))) H := hP
  refine lv_aload_n hx hb d_M_comes_71 rfl (lv_at hl 0 rfl) ?_
  refine g_M_128 X hb hP he_44 rfl d_M_comes_72 ?_
  exact h_iret hx hb hr hlocks (Nat.le_of_ble_eq_true rfl) (Nat.le_of_ble_eq_true rfl) hP hS (⟨rfl, ⟨_, _, MC.aj (MC.ai (MC.ai (MC.ai (MC.ai (MC.ai (MC.put (hM) tv (nI (sNR σ)) (nI (sNL σ)) (nI (sND σ + 1)) (nI (sNC σ)) (sTH σ)) 13 ⟨by decide, by decide⟩ (sND σ + 1) (nI (k9 + 1))) 14 ⟨by decide, by decide⟩ (sND σ + 1) (nI am)) 15 ⟨by decide, by decide⟩ (sND σ + 1) (nI am)) 16 ⟨by decide, by decide⟩ (sND σ + 1) 0) 17 ⟨by decide, by decide⟩ (sND σ + 1) so) 18 ⟨by decide, by decide⟩ (sND σ + 1) d, MRel_adD hRr k9 am so d⟩, Keep.up (Keep.up (Keep.up (Keep.up (Keep.up (Keep.up (Keep.up (Keep.rf) (Or.inl (mF_i ma 0 (by decide)))) (Or.inl (mF_i ma 13 (by decide)))) (Or.inl (mF_i ma 14 (by decide)))) (Or.inl (mF_i ma 15 (by decide)))) (Or.inl (mF_i ma 16 (by decide)))) (Or.inl (mF_i ma 17 (by decide)))) (Or.inl (mF_i ma 18 (by decide)))⟩) d_M_comes_75
theorem k_M_131 {p : Program} {l : Launch} {e : Env} {R : Room} {s : State} {m : MethodId} {args : Array Value} {below : List Frame} {meth : Method} {c : Code} {H : Heap} {locs : List Loc} {cells slots : Nat} {Q : State → Prop} {cc : ByteArray} {pc : Nat} {ls : Array Slot} {rest : List Value} {D : va_G} {A : Nat → Prop} {t : Nat → ClassId} {g : hG} {nL : Nat} {ret0 : Option FieldType} {nm : String} (X : Cx p s m args meth c R_M cc nL ret0 TB D vwCl (tyL t) EX A nm) (hR : 0 + 1 ≤ R.frames ∧ 8 + (6 + 11) + 0 ≤ R.locals) (hf : cells + 0 ≤ R.cells ∧ slots + 0 ≤ R.slots) (hls : ls.size = nL) (hP : hw D vwCl A g H) (hS : va_S A s.heap H locs) {ma : Nat → Nat} {tv : Int32} {σ : SS} {k9 am : Nat} {d : Int64} {so : Int32} {fs9 : List Value} (he9 : g (ma 0) = some (.inr (6, fs9))) (hMx : RMx t ma tv σ g) (hN : sND σ < 200) (hW : (rest.map fun v => v.category).sum ≤ 8) (hdg : decode cc pc = .ok (.invokevirtual 131, 3)) (kk : ∀ (r : Int32) (u : hG) (H1 : Heap) (locs1 : List Loc), ((fun r u => r = nI (sND σ + 1) ∧ RMx t ma tv (adD σ k9 am so d) u ∧ Keep (mF ma) g u) r u) → hw D vwCl A u H1 → va_S A s.heap H1 locs1 → W p l e R s m args below meth c H1 locs1 (cells + 0) (slots + 0) Q (F0 m (pc + 3) ls (.int r :: rest))) : W p l e R s m args below meth c H locs cells slots Q (F0 m pc ls (.int so :: .long d :: .int (nI am) :: .int (nI (k9 + 1)) :: .ref (ma 0) :: rest)) :=
  h_ci (runV (C := R_M) (T := F_M) (N := 26) X (c_M_comes l D t A g ma tv σ k9 am d so hMx hN) (tbm 592 (by decide +kernel)) (tbm 594 (by decide +kernel)) (tbm 13 (by decide +kernel)) (tbm 23 (by decide +kernel)) (tbm 595 (by decide +kernel)) rfl (n := 4) (by decide +kernel) hR hf hP he9 hS hls rfl rfl hW hdg) hS kk
