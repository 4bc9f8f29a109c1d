set_option maxHeartbeats 4000000 in
set_option maxRecDepth 100000 in
theorem c_M_found (l : Launch) (D : va_G) (t : Nat → ClassId) (A : Nat → Prop) (g : hG) (ma : Nat → Nat) (tv : Int32) (σ : SS) (x : Int32) (d : Int64) (hMx : RMx t ma tv σ g) (hV : Inv σ) : Met l y_M_found (Cond.code y_M_found b_M_found 6 (some .long) :: TB) ({ frames := 2, cells := 0, slots := 0, locals := 46 } : Room) (va_Pc [.ref (ma 0), .int x, .long d] (hI D vwCl (tyL t) EX A g)) (va_Ql (fun r u => r = (spFound σ x d).1 ∧ RMx t ma 0 (spFound σ x d).2 u ∧ Keep (mF ma) g u) (fun u v => hw D vwCl A u v.heap) A) 0 0 A := by
  refine Met.ofH (cc := b_M_found) (maxL := 6) (ret := (some .long)) (lv := [(0, .ref (ma 0)), (1, .int x), (2, .long d)]) (by decide) (Nat.le_of_ble_eq_true rfl) rfl ?_
  intro p e s m below meth c ls X hP hS hl
  obtain ⟨hx, hb, hml, hr, hts, hown, hlocks, hK, hEs, hA, hnm⟩ := id X
  obtain ⟨fm, fj, hM, hR1, hR2, hR3, hR6, hR20, hR11⟩ := id hMx
  have m0 := hM.1
  have hinj := hM.2.2
  have hn1 := hV.1.1
  have hn2 := hV.1.2.1
  have hn3 := hV.1.2.2.1
  have hn4 := hV.1.2.2.2
  have hRr : MRel fm fj σ := ⟨hR1, hR2, hR3, hR6, hR20, hR11⟩
  refine lv_aload_n hx hb d_M_found_0 rfl (lv_at hl 0 rfl) ?_
  refine lv_iconst (v := 0) hx hb d_M_found_1 (by decide) ?_
  refine p_M_76 X hb hP hS m0 (Nat.le_of_ble_eq_true rfl) d_M_found_2 (fun H locs hP hS => ?_)
  have he_1 := va_up_self g (ma 0) (some (.inr (6, [.int 0, .int (nI (sNR σ)), .int (nI (sNL σ)), .int (nI (sND σ)), .int (nI (sNC σ)), .ref (ma 1), .ref (ma 2), .ref (ma 3), .ref (ma 4), .ref (ma 5), .ref (ma 6), .ref (ma 7), .ref (ma 8), .ref (ma 9), .ref (ma 10), .ref (ma 11), .ref (ma 12), .ref (ma 13), .ref (ma 14), .ref (ma 15), .ref (ma 16), .ref (ma 17), .ref (ma 18), .ref (ma 19), .ref (ma 20), .int (sTH σ)]) : va_E))
  have hP : hw D vwCl A (va_up g (ma 0) (some (.inr (6, [.int 0, .int (nI (sNR σ)), .int (nI (sNL σ)), .int (nI (sND σ)), .int (nI (sNC σ)), .ref (ma 1), .ref (ma 2), .ref (ma 3), .ref (ma 4), .ref (ma 5), .ref (ma 6), .ref (ma 7), .ref (ma 8), .ref (ma 9), .ref (ma 10), .ref (ma 11), .ref (ma 12), .ref (ma 13), .ref (ma 14), .ref (ma 15), .ref (ma 16), .ref (ma 17), .ref (ma 18), .ref (ma 19), .ref (ma 20), .int (sTH σ)])))) H := hP
  have hM1 : MC t (va_up g (ma 0) (some (mOb ma 0 (nI (sNR σ)) (nI (sNL σ)) (nI (sND σ)) (nI (sNC σ)) (sTH σ)))) ma 0 (nI (sNR σ)) (nI (sNL σ)) (nI (sND σ)) (nI (sNC σ)) (sTH σ) fm fj := MC.put hM 0 _ _ _ _ _
  have hK1 : Keep (mF ma) g (va_up g (ma 0) (some (mOb ma 0 (nI (sNR σ)) (nI (sNL σ)) (nI (sND σ)) (nI (sNC σ)) (sTH σ)))) := Keep.up Keep.rf (Or.inl (mF_i ma 0 (by decide)))
  have hP : hw D vwCl A (va_up g (ma 0) (some (mOb ma 0 (nI (sNR σ)) (nI (sNL σ)) (nI (sND σ)) (nI (sNC σ)) (sTH σ)))) H := hP
  generalize va_up g (ma 0) (some (mOb ma 0 (nI (sNR σ)) (nI (sNL σ)) (nI (sND σ)) (nI (sNC σ)) (sTH σ))) = G at hM1 hK1 hP
  have hX1 : RMx t ma 0 σ G := ⟨fm, fj, hM1, hRr⟩
  have w0 := hM1.1
  have w10 : G (ma 10) = some (arI t 121 (fm 10)) := hM1.2.1 10 (by decide) (by decide)
  have w11 : G (ma 11) = some (arI t 121 (fm 11)) := hM1.2.1 11 (by decide) (by decide)
  have w15 : G (ma 15) = some (arI t 201 (fm 15)) := hM1.2.1 15 (by decide) (by decide)
  have w8 : G (ma 8) = some (arI t 121 (fm 8)) := hM1.2.1 8 (by decide) (by decide)
  have w16 : G (ma 16) = some (arI t 201 (fm 16)) := hM1.2.1 16 (by decide) (by decide)
  have w20 : G (ma 20) = some (arJ t 30 (fj 20)) := hM1.2.1 20 (by decide) (by decide)
  refine lv_aload_n hx hb d_M_found_5 rfl (lv_at hl 0 rfl) ?_
  refine lv_iload_n hx hb d_M_found_6 rfl (lv_at hl 1 rfl) ?_
  refine k_M_114 X ⟨Nat.le_of_ble_eq_true rfl, Nat.le_of_ble_eq_true rfl⟩ ⟨Nat.le_of_ble_eq_true rfl, Nat.le_of_ble_eq_true rfl⟩ hl.1 hP hS w0 hX1 hV (by exact Nat.le_of_ble_eq_true rfl) d_M_found_7 (fun r_2 H locs er_2 hP hS => ?_)
  refine lv_istore (lv' := [(4, .int r_2), (0, .ref (ma 0)), (1, .int x), (2, .long d)]) hx hb d_M_found_10 hl (by decide) rfl (fun ls hl => ?_)
  refine lv_iload hx hb d_M_found_12 (lv_at hl 0 rfl) ?_
  refine lv_if_eq (tgt := 57) hx hb d_M_found_14 (by decide) (fun c_3 => ?_) (fun c_3 => ?_)
  · have hno : lostN σ x = none := by
      rcases lof_S hV x with h1 | ⟨k9, i9, q1, q2, q3, q4⟩
      · exact h1.2.2
      · rw [er_2, q3] at c_3; exact absurd ((nI_small (a := k9 + 1) (b := 0) (by omega) (by decide)).mp c_3) (by omega)
    refine lv_ldc2 (v := (-1)) hx hb hown (hts _ (tbm 587 (by decide +kernel))) d_M_found_57 ?_
    have e9 : spFound σ x d = (-1, σ) := by simp [spFound, hno]
    exact h_lret hx hb hr hlocks (Nat.le_of_ble_eq_true rfl) (Nat.le_of_ble_eq_true rfl) hP hS (⟨by rw [e9], by rw [e9]; exact hX1, hK1⟩) d_M_found_60
  · obtain ⟨j, ji, hj, hji, hlo, rfl, hit, hitem, hne2⟩ := (lof_S hV x).resolve_left (fun q => c_3 (by rw [er_2, q.1]; rfl))
    have hloN := lostN_st hji hit
    obtain rfl : r_2 = nI (j + 1) := by rw [er_2, hlo]
    have l10 := (hR2 j hj).2.2.2.1
    refine lv_aload_n hx hb d_M_found_17 rfl (lv_at hl 1 rfl) ?_
    refine g_M_38 X hb hP w0 rfl d_M_found_18 ?_
    refine lv_iload hx hb d_M_found_21 (lv_at hl 0 rfl) ?_
    refine n_iald X hb hP w10 ⟨by omega, by decide⟩ d_M_found_23 ?_
    refine lv_iconst (v := 3) hx hb d_M_found_24 (by decide) ?_
    refine lv_icmp_ne (tgt := 57) hx hb d_M_found_25 (by decide) (fun c_4 => ?_) (fun c_4 => ?_)
    · have hst : ¬ (sLV σ j).2.2.2.2.1 = 3 := fun q => c_4 (by rw [l10, q]; rfl)
      refine lv_ldc2 (v := (-1)) hx hb hown (hts _ (tbm 587 (by decide +kernel))) d_M_found_57 ?_
      have e9 : spFound σ (nI ji) d = (-1, σ) := by rw [if_neg hst] at hloN; simp [spFound, hloN]
      exact h_lret hx hb hr hlocks (Nat.le_of_ble_eq_true rfl) (Nat.le_of_ble_eq_true rfl) hP hS (⟨by rw [e9], by rw [e9]; exact hX1, hK1⟩) d_M_found_60
    · have hst : (sLV σ j).2.2.2.2.1 = 3 := by have := (hV.2.2.1 j hj).2.2.2.1; have h9 := c_4; rw [l10] at h9; exact (nI_small (b := 3) (by omega) (by decide)).mp h9
      rw [if_pos hst] at hloN
      obtain ⟨ii, hls⟩ : ∃ ii, (sLV σ j).2.2.2.2.2 = ii + 1 := ⟨(sLV σ j).2.2.2.2.2 - 1, by have := (hV.2.2.1 j hj).2.2.2.2.2.2 hst; omega⟩
      have hii : ii < sND σ := by have := (hV.2.2.1 j hj).2.2.2.2.1; omega
      have hpp := (hV.2.2.1 j hj).2.1
      obtain ⟨d1, d2, d3, d4, d5, d6⟩ := hR3 ii hii
      have hdv := hV.2.2.2.1 ii hii
      refine lv_lload_n hx hb d_M_found_28 rfl (lv_at hl 3 rfl) ?_
      refine k_M_100 X ⟨Nat.le_of_ble_eq_true rfl, Nat.le_of_ble_eq_true rfl⟩ ⟨Nat.le_of_ble_eq_true rfl, Nat.le_of_ble_eq_true rfl⟩ hl.1 hP hS (by exact Nat.le_of_ble_eq_true rfl) d_M_found_29 (fun r_5 H locs er_5 hP hS => ?_)
      refine lv_if_eq (tgt := 57) hx hb d_M_found_32 (by decide) (fun c_6 => ?_) (fun c_6 => ?_)
      · have t_5 := bi_0.mp (er_5 ▸ c_6)
        refine lv_ldc2 (v := (-1)) hx hb hown (hts _ (tbm 587 (by decide +kernel))) d_M_found_57 ?_
        have e9 : spFound σ (nI ji) d = (-1, σ) := by simp [spFound, hloN, t_5]
        exact h_lret hx hb hr hlocks (Nat.le_of_ble_eq_true rfl) (Nat.le_of_ble_eq_true rfl) hP hS (⟨by rw [e9], by rw [e9]; exact hX1, hK1⟩) d_M_found_60
      · have t_5 := bi_n0.mp (er_5 ▸ c_6)
        refine lv_aload_n hx hb d_M_found_35 rfl (lv_at hl 1 rfl) ?_
        refine lv_iload hx hb d_M_found_36 (lv_at hl 0 rfl) ?_
        refine lv_lload_n hx hb d_M_found_38 rfl (lv_at hl 3 rfl) ?_
        refine k_M_122 X ⟨Nat.le_of_ble_eq_true rfl, Nat.le_of_ble_eq_true rfl⟩ ⟨Nat.le_of_ble_eq_true rfl, Nat.le_of_ble_eq_true rfl⟩ hl.1 hP hS w0 hX1 hV hj (by exact Nat.le_of_ble_eq_true rfl) d_M_found_39 (fun r_7 H locs er_7 hP hS => ?_)
        refine lv_lconst (v := 0) hx hb d_M_found_42 (by decide) ?_
        refine W.lcmp hx hb d_M_found_43 ?_
        refine lv_if_le (tgt := 61) hx hb d_M_found_44 (by decide) (fun c_8 => ?_) (fun c_8 => ?_)
        · rw [lg_cmp_le] at c_8
          refine lv_aload_n hx hb d_M_found_61 rfl (lv_at hl 1 rfl) ?_
          refine g_M_38 X hb hP w0 rfl d_M_found_62 ?_
          refine lv_iload hx hb d_M_found_65 (lv_at hl 0 rfl) ?_
          refine lv_iconst (v := 2) hx hb d_M_found_67 (by decide) ?_
          refine n_iast X hb hP hS w10 ⟨by omega, by decide⟩ d_M_found_68 (fun H locs hP hS => ?_)
          have he_9 := up_at (o := some (arI t 121 (va_up (fm 10) (j + 1) 2))) w0 (mne hinj 0 10 (by decide) (by decide) (by decide))
          have he_10 := up_at (o := some (arI t 121 (va_up (fm 10) (j + 1) 2))) w11 (mne hinj 11 10 (by decide) (by decide) (by decide))
          have he_11 := up_at (o := some (arI t 121 (va_up (fm 10) (j + 1) 2))) w15 (mne hinj 15 10 (by decide) (by decide) (by decide))
          have he_12 := up_at (o := some (arI t 121 (va_up (fm 10) (j + 1) 2))) w8 (mne hinj 8 10 (by decide) (by decide) (by decide))
          have he_13 := up_at (o := some (arI t 121 (va_up (fm 10) (j + 1) 2))) w16 (mne hinj 16 10 (by decide) (by decide) (by decide))
          have he_14 := up_at (o := some (arI t 121 (va_up (fm 10) (j + 1) 2))) w20 (mne hinj 20 10 (by decide) (by decide) (by decide))
          have he_15 := va_up_self G (ma 10) (some (arI t 121 (va_up (fm 10) (j + 1) 2) : va_E))
          have hP : hw D vwCl A (va_up G (ma 10) (some (arI t 121 (va_up (fm 10) (j + 1) 2)))) H := hP
          refine lv_aload_n hx hb d_M_found_69 rfl (lv_at hl 1 rfl) ?_
          refine g_M_41 X hb hP he_9 rfl d_M_found_70 ?_
          refine lv_iload hx hb d_M_found_73 (lv_at hl 0 rfl) ?_
          refine n_iald X hb hP he_10 ⟨by omega, by decide⟩ d_M_found_75 ?_
          rw [(hR2 j hj).2.2.2.2.1, hls]
          refine lv_istore (lv' := [(5, .int (nI (ii + 1))), (4, .int (nI (j + 1))), (0, .ref (ma 0)), (1, .int (nI ji)), (2, .long d)]) hx hb d_M_found_76 hl (by decide) rfl (fun ls hl => ?_)
          refine lv_aload_n hx hb d_M_found_78 rfl (lv_at hl 2 rfl) ?_
          refine g_M_53 X hb hP he_9 rfl d_M_found_79 ?_
          refine lv_iload hx hb d_M_found_82 (lv_at hl 0 rfl) ?_
          refine lv_iconst (v := 0) hx hb d_M_found_84 (by decide) ?_
          refine n_iast X hb hP hS he_11 ⟨by omega, by decide⟩ d_M_found_85 (fun H locs hP hS => ?_)
          have he_16 := up_at (o := some (arI t 201 (va_up (fm 15) (ii + 1) 0))) he_9 (mne hinj 0 15 (by decide) (by decide) (by decide))
          have he_17 := up_at (o := some (arI t 201 (va_up (fm 15) (ii + 1) 0))) he_10 (mne hinj 11 15 (by decide) (by decide) (by decide))
          have he_18 := up_at (o := some (arI t 201 (va_up (fm 15) (ii + 1) 0))) he_12 (mne hinj 8 15 (by decide) (by decide) (by decide))
          have he_19 := up_at (o := some (arI t 201 (va_up (fm 15) (ii + 1) 0))) he_13 (mne hinj 16 15 (by decide) (by decide) (by decide))
          have he_20 := up_at (o := some (arI t 201 (va_up (fm 15) (ii + 1) 0))) he_14 (mne hinj 20 15 (by decide) (by decide) (by decide))
          have he_21 := up_at (o := some (arI t 201 (va_up (fm 15) (ii + 1) 0))) he_15 (mne hinj 10 15 (by decide) (by decide) (by decide))
          have he_22 := va_up_self (va_up G (ma 10) (some (arI t 121 (va_up (fm 10) (j + 1) 2)))) (ma 15) (some (arI t 201 (va_up (fm 15) (ii + 1) 0) : va_E))
          have hP : hw D vwCl A (va_up (va_up G (ma 10) (some (arI t 121 (va_up (fm 10) (j + 1) 2)))) (ma 15) (some (arI t 201 (va_up (fm 15) (ii + 1) 0)))) H := hP
          refine lv_aload_n hx hb d_M_found_86 rfl (lv_at hl 2 rfl) ?_
          refine g_M_69 X hb hP he_16 rfl d_M_found_87 ?_
          refine lv_aload_n hx hb d_M_found_90 rfl (lv_at hl 2 rfl) ?_
          refine g_M_32 X hb hP he_16 rfl d_M_found_91 ?_
          refine lv_iload hx hb d_M_found_94 (lv_at hl 1 rfl) ?_
          refine n_iald X hb hP he_18 ⟨by omega, by decide⟩ d_M_found_96 ?_
          rw [(hR2 j hj).2.1]
          refine lv_dup2_11 hx hb d_M_found_97 rfl rfl ?_
          refine n_lald X hb hP he_20 ⟨by omega, by decide⟩ d_M_found_98 ?_
          refine lv_aload_n hx hb d_M_found_99 rfl (lv_at hl 2 rfl) ?_
          refine g_M_56 X hb hP he_16 rfl d_M_found_100 ?_
          refine lv_iload hx hb d_M_found_103 (lv_at hl 0 rfl) ?_
          refine n_iald X hb hP he_19 ⟨by omega, by decide⟩ d_M_found_105 ?_
          refine lv_i2l hx hb d_M_found_106 rfl ?_
          refine lv_ladd hx hb d_M_found_107 ?_
          rw [show ((fj 20) ((sLV σ j).2.1)) + (((fm 16) (ii + 1)).toInt64) = lN (sKR σ (sLV σ j).2.1 + (sDV σ ii).2.2.2.1) from by rw [hR20, d4, nI_l (by omega), lN_add]]
          refine n_last X hb hP hS he_20 ⟨by omega, by decide⟩ d_M_found_108 (fun H locs hP hS => ?_)
          have he_23 := up_at (o := some (arJ t 30 (va_up (fj 20) ((sLV σ j).2.1) (lN (sKR σ (sLV σ j).2.1 + (sDV σ ii).2.2.2.1))))) he_16 (mne hinj 0 20 (by decide) (by decide) (by decide))
          have he_24 := up_at (o := some (arJ t 30 (va_up (fj 20) ((sLV σ j).2.1) (lN (sKR σ (sLV σ j).2.1 + (sDV σ ii).2.2.2.1))))) he_17 (mne hinj 11 20 (by decide) (by decide) (by decide))
          have he_25 := up_at (o := some (arJ t 30 (va_up (fj 20) ((sLV σ j).2.1) (lN (sKR σ (sLV σ j).2.1 + (sDV σ ii).2.2.2.1))))) he_18 (mne hinj 8 20 (by decide) (by decide) (by decide))
          have he_26 := up_at (o := some (arJ t 30 (va_up (fj 20) ((sLV σ j).2.1) (lN (sKR σ (sLV σ j).2.1 + (sDV σ ii).2.2.2.1))))) he_19 (mne hinj 16 20 (by decide) (by decide) (by decide))
          have he_27 := up_at (o := some (arJ t 30 (va_up (fj 20) ((sLV σ j).2.1) (lN (sKR σ (sLV σ j).2.1 + (sDV σ ii).2.2.2.1))))) he_21 (mne hinj 10 20 (by decide) (by decide) (by decide))
          have he_28 := up_at (o := some (arJ t 30 (va_up (fj 20) ((sLV σ j).2.1) (lN (sKR σ (sLV σ j).2.1 + (sDV σ ii).2.2.2.1))))) he_22 (mne hinj 15 20 (by decide) (by decide) (by decide))
          have he_29 := va_up_self (va_up (va_up G (ma 10) (some (arI t 121 (va_up (fm 10) (j + 1) 2)))) (ma 15) (some (arI t 201 (va_up (fm 15) (ii + 1) 0)))) (ma 20) (some (arJ t 30 (va_up (fj 20) ((sLV σ j).2.1) (lN (sKR σ (sLV σ j).2.1 + (sDV σ ii).2.2.2.1))) : va_E))
          have hP : hw D vwCl A (va_up (va_up (va_up G (ma 10) (some (arI t 121 (va_up (fm 10) (j + 1) 2)))) (ma 15) (some (arI t 201 (va_up (fm 15) (ii + 1) 0)))) (ma 20) (some (arJ t 30 (va_up (fj 20) ((sLV σ j).2.1) (lN (sKR σ (sLV σ j).2.1 + (sDV σ ii).2.2.2.1)))))) H := hP
          have hX2 : RMx t ma 0 (enL (stK (zeD σ ii) (sLV σ j).2.1 (sKR σ (sLV σ j).2.1 + (sDV σ ii).2.2.2.1)) j) (va_up (va_up (va_up G (ma 10) (some (arI t 121 (va_up (fm 10) (j + 1) 2)))) (ma 15) (some (arI t 201 (va_up (fm 15) (ii + 1) 0)))) (ma 20) (some (arJ t 30 (va_up (fj 20) ((sLV σ j).2.1) (lN (sKR σ (sLV σ j).2.1 + (sDV σ ii).2.2.2.1)))))) := ⟨_, _, MC.aj (MC.ai (MC.ai (hM1) 10 ⟨by decide, by decide⟩ (j + 1) 2) 15 ⟨by decide, by decide⟩ (ii + 1) 0) 20 ⟨by decide, by decide⟩ ((sLV σ j).2.1) (lN (sKR σ (sLV σ j).2.1 + (sDV σ ii).2.2.2.1)), MRel_credit (MRel_left (MRel_enL hRr j) ii (_, _, 0, _) ⟨rfl, rfl, rfl, rfl⟩) (sLV σ j).2.1 (sKR σ (sLV σ j).2.1 + (sDV σ ii).2.2.2.1)⟩
          have hV2 : Inv (enL (stK (zeD σ ii) (sLV σ j).2.1 (sKR σ (sLV σ j).2.1 + (sDV σ ii).2.2.2.1)) j) := Inv_enL (Inv_stK (Inv_zeD hV hii)) hj hne2
          have hK2 : Keep (mF ma) g (va_up (va_up (va_up G (ma 10) (some (arI t 121 (va_up (fm 10) (j + 1) 2)))) (ma 15) (some (arI t 201 (va_up (fm 15) (ii + 1) 0)))) (ma 20) (some (arJ t 30 (va_up (fj 20) ((sLV σ j).2.1) (lN (sKR σ (sLV σ j).2.1 + (sDV σ ii).2.2.2.1)))))) := Keep.up (Keep.up (Keep.up (hK1) (Or.inl (mF_i ma 10 (by decide)))) (Or.inl (mF_i ma 15 (by decide)))) (Or.inl (mF_i ma 20 (by decide)))
          have hla : lateJ (enL (stK (zeD σ ii) (sLV σ j).2.1 (sKR σ (sLV σ j).2.1 + (sDV σ ii).2.2.2.1)) j) j d = lateJ σ j d := (lateJ_enL _ j d).trans rfl
          refine lv_aload_n hx hb d_M_found_109 rfl (lv_at hl 2 rfl) ?_
          refine lv_iload hx hb d_M_found_110 (lv_at hl 1 rfl) ?_
          refine lv_lload_n hx hb d_M_found_112 rfl (lv_at hl 4 rfl) ?_
          refine k_M_122 X ⟨Nat.le_of_ble_eq_true rfl, Nat.le_of_ble_eq_true rfl⟩ ⟨Nat.le_of_ble_eq_true rfl, Nat.le_of_ble_eq_true rfl⟩ hl.1 hP hS he_23 hX2 hV2 hj (by exact Nat.le_of_ble_eq_true rfl) d_M_found_113 (fun r_30 H locs er_30 hP hS => ?_)
          refine lv_lconst (v := 0) hx hb d_M_found_116 (by decide) ?_
          refine W.lcmp hx hb d_M_found_117 ?_
          refine lv_if_le (tgt := 138) hx hb d_M_found_118 (by decide) (fun c_31 => ?_) (fun c_31 => ?_)
          · rw [lg_cmp_le] at c_31
            have hpos : ¬ 0 < lateJ σ j d := by rw [er_30, hla] at c_31; exact Int64.not_lt.mpr c_31
            refine lv_aload_n hx hb d_M_found_138 rfl (lv_at hl 2 rfl) ?_
            refine g_M_56 X hb hP he_23 rfl d_M_found_139 ?_
            refine lv_iload hx hb d_M_found_142 (lv_at hl 0 rfl) ?_
            refine n_iald X hb hP he_26 ⟨by omega, by decide⟩ d_M_found_144 ?_
            refine lv_i2l hx hb d_M_found_145 rfl ?_
            have e9 : spFound σ (nI ji) d = (lN (sDV σ ii).2.2.2.1, (chD (enL (stK (zeD σ ii) (sLV σ j).2.1 (sKR σ (sLV σ j).2.1 + (sDV σ ii).2.2.2.1)) j) j (lateJ σ j d) d).2) := by simp only [spFound, hloN]; rw [if_pos (by simp [hpos, t_5]), hls, Nat.add_sub_cancel]
            exact h_lret hx hb hr hlocks (Nat.le_of_ble_eq_true rfl) (Nat.le_of_ble_eq_true rfl) hP hS (⟨by rw [e9, d4, nI_l (by omega)], by rw [e9, chD, if_neg hpos]; exact hX2, hK2⟩) d_M_found_146
          · rw [lg_cmp_le] at c_31
            rw [er_30, hla] at c_31; rw [er_7] at c_8; exact absurd c_8 c_31
        · rw [lg_cmp_le] at c_8
          refine lv_aload_n hx hb d_M_found_47 rfl (lv_at hl 1 rfl) ?_
          refine g_M_128 X hb hP w0 rfl d_M_found_48 ?_
          refine lv_sipush (v := 200) hx hb d_M_found_51 (by decide) ?_
          refine lv_icmp_ne (tgt := 61) hx hb d_M_found_54 (by decide) (fun c_32 => ?_) (fun c_32 => ?_)
          · have hlt : sND σ < 200 := by have h9 : ¬ sND σ = 200 := fun z => c_32 (by rw [z]; rfl); omega
            refine lv_aload_n hx hb d_M_found_61 rfl (lv_at hl 1 rfl) ?_
            refine g_M_38 X hb hP w0 rfl d_M_found_62 ?_
            refine lv_iload hx hb d_M_found_65 (lv_at hl 0 rfl) ?_
            refine lv_iconst (v := 2) hx hb d_M_found_67 (by decide) ?_
            refine n_iast X hb hP hS w10 ⟨by omega, by decide⟩ d_M_found_68 (fun H locs hP hS => ?_)
            have he_33 := up_at (o := some (arI t 121 (va_up (fm 10) (j + 1) 2))) w0 (mne hinj 0 10 (by decide) (by decide) (by decide))
            have he_34 := up_at (o := some (arI t 121 (va_up (fm 10) (j + 1) 2))) w11 (mne hinj 11 10 (by decide) (by decide) (by decide))
            have he_35 := up_at (o := some (arI t 121 (va_up (fm 10) (j + 1) 2))) w15 (mne hinj 15 10 (by decide) (by decide) (by decide))
            have he_36 := up_at (o := some (arI t 121 (va_up (fm 10) (j + 1) 2))) w8 (mne hinj 8 10 (by decide) (by decide) (by decide))
            have he_37 := up_at (o := some (arI t 121 (va_up (fm 10) (j + 1) 2))) w16 (mne hinj 16 10 (by decide) (by decide) (by decide))
            have he_38 := up_at (o := some (arI t 121 (va_up (fm 10) (j + 1) 2))) w20 (mne hinj 20 10 (by decide) (by decide) (by decide))
            have he_39 := va_up_self G (ma 10) (some (arI t 121 (va_up (fm 10) (j + 1) 2) : va_E))
            have hP : hw D vwCl A (va_up G (ma 10) (some (arI t 121 (va_up (fm 10) (j + 1) 2)))) H := hP
            refine lv_aload_n hx hb d_M_found_69 rfl (lv_at hl 1 rfl) ?_
            refine g_M_41 X hb hP he_33 rfl d_M_found_70 ?_
            refine lv_iload hx hb d_M_found_73 (lv_at hl 0 rfl) ?_
            refine n_iald X hb hP he_34 ⟨by omega, by decide⟩ d_M_found_75 ?_
            rw [(hR2 j hj).2.2.2.2.1, hls]
            refine lv_istore (lv' := [(5, .int (nI (ii + 1))), (4, .int (nI (j + 1))), (0, .ref (ma 0)), (1, .int (nI ji)), (2, .long d)]) hx hb d_M_found_76 hl (by decide) rfl (fun ls hl => ?_)
            refine lv_aload_n hx hb d_M_found_78 rfl (lv_at hl 2 rfl) ?_
            refine g_M_53 X hb hP he_33 rfl d_M_found_79 ?_
            refine lv_iload hx hb d_M_found_82 (lv_at hl 0 rfl) ?_
            refine lv_iconst (v := 0) hx hb d_M_found_84 (by decide) ?_
            refine n_iast X hb hP hS he_35 ⟨by omega, by decide⟩ d_M_found_85 (fun H locs hP hS => ?_)
            have he_40 := up_at (o := some (arI t 201 (va_up (fm 15) (ii + 1) 0))) he_33 (mne hinj 0 15 (by decide) (by decide) (by decide))
            have he_41 := up_at (o := some (arI t 201 (va_up (fm 15) (ii + 1) 0))) he_34 (mne hinj 11 15 (by decide) (by decide) (by decide))
            have he_42 := up_at (o := some (arI t 201 (va_up (fm 15) (ii + 1) 0))) he_36 (mne hinj 8 15 (by decide) (by decide) (by decide))
            have he_43 := up_at (o := some (arI t 201 (va_up (fm 15) (ii + 1) 0))) he_37 (mne hinj 16 15 (by decide) (by decide) (by decide))
            have he_44 := up_at (o := some (arI t 201 (va_up (fm 15) (ii + 1) 0))) he_38 (mne hinj 20 15 (by decide) (by decide) (by decide))
            have he_45 := up_at (o := some (arI t 201 (va_up (fm 15) (ii + 1) 0))) he_39 (mne hinj 10 15 (by decide) (by decide) (by decide))
            have he_46 := va_up_self (va_up G (ma 10) (some (arI t 121 (va_up (fm 10) (j + 1) 2)))) (ma 15) (some (arI t 201 (va_up (fm 15) (ii + 1) 0) : va_E))
            have hP : hw D vwCl A (va_up (va_up G (ma 10) (some (arI t 121 (va_up (fm 10) (j + 1) 2)))) (ma 15) (some (arI t 201 (va_up (fm 15) (ii + 1) 0)))) H := hP
            refine lv_aload_n hx hb d_M_found_86 rfl (lv_at hl 2 rfl) ?_
            refine g_M_69 X hb hP he_40 rfl d_M_found_87 ?_
            refine lv_aload_n hx hb d_M_found_90 rfl (lv_at hl 2 rfl) ?_
            refine g_M_32 X hb hP he_40 rfl d_M_found_91 ?_
            refine lv_iload hx hb d_M_found_94 (lv_at hl 1 rfl) ?_
            refine n_iald X hb hP he_42 ⟨by omega, by decide⟩ d_M_found_96 ?_
            rw [(hR2 j hj).2.1]
            refine lv_dup2_11 hx hb d_M_found_97 rfl rfl ?_
            refine n_lald X hb hP he_44 ⟨by omega, by decide⟩ d_M_found_98 ?_
            refine lv_aload_n hx hb d_M_found_99 rfl (lv_at hl 2 rfl) ?_
            refine g_M_56 X hb hP he_40 rfl d_M_found_100 ?_
            refine lv_iload hx hb d_M_found_103 (lv_at hl 0 rfl) ?_
            refine n_iald X hb hP he_43 ⟨by omega, by decide⟩ d_M_found_105 ?_
            refine lv_i2l hx hb d_M_found_106 rfl ?_
            refine lv_ladd hx hb d_M_found_107 ?_
            rw [show ((fj 20) ((sLV σ j).2.1)) + (((fm 16) (ii + 1)).toInt64) = lN (sKR σ (sLV σ j).2.1 + (sDV σ ii).2.2.2.1) from by rw [hR20, d4, nI_l (by omega), lN_add]]
            refine n_last X hb hP hS he_44 ⟨by omega, by decide⟩ d_M_found_108 (fun H locs hP hS => ?_)
            have he_47 := up_at (o := some (arJ t 30 (va_up (fj 20) ((sLV σ j).2.1) (lN (sKR σ (sLV σ j).2.1 + (sDV σ ii).2.2.2.1))))) he_40 (mne hinj 0 20 (by decide) (by decide) (by decide))
            have he_48 := up_at (o := some (arJ t 30 (va_up (fj 20) ((sLV σ j).2.1) (lN (sKR σ (sLV σ j).2.1 + (sDV σ ii).2.2.2.1))))) he_41 (mne hinj 11 20 (by decide) (by decide) (by decide))
            have he_49 := up_at (o := some (arJ t 30 (va_up (fj 20) ((sLV σ j).2.1) (lN (sKR σ (sLV σ j).2.1 + (sDV σ ii).2.2.2.1))))) he_42 (mne hinj 8 20 (by decide) (by decide) (by decide))
            have he_50 := up_at (o := some (arJ t 30 (va_up (fj 20) ((sLV σ j).2.1) (lN (sKR σ (sLV σ j).2.1 + (sDV σ ii).2.2.2.1))))) he_43 (mne hinj 16 20 (by decide) (by decide) (by decide))
            have he_51 := up_at (o := some (arJ t 30 (va_up (fj 20) ((sLV σ j).2.1) (lN (sKR σ (sLV σ j).2.1 + (sDV σ ii).2.2.2.1))))) he_45 (mne hinj 10 20 (by decide) (by decide) (by decide))
            have he_52 := up_at (o := some (arJ t 30 (va_up (fj 20) ((sLV σ j).2.1) (lN (sKR σ (sLV σ j).2.1 + (sDV σ ii).2.2.2.1))))) he_46 (mne hinj 15 20 (by decide) (by decide) (by decide))
            have he_53 := va_up_self (va_up (va_up G (ma 10) (some (arI t 121 (va_up (fm 10) (j + 1) 2)))) (ma 15) (some (arI t 201 (va_up (fm 15) (ii + 1) 0)))) (ma 20) (some (arJ t 30 (va_up (fj 20) ((sLV σ j).2.1) (lN (sKR σ (sLV σ j).2.1 + (sDV σ ii).2.2.2.1))) : va_E))
            have hP : hw D vwCl A (va_up (va_up (va_up G (ma 10) (some (arI t 121 (va_up (fm 10) (j + 1) 2)))) (ma 15) (some (arI t 201 (va_up (fm 15) (ii + 1) 0)))) (ma 20) (some (arJ t 30 (va_up (fj 20) ((sLV σ j).2.1) (lN (sKR σ (sLV σ j).2.1 + (sDV σ ii).2.2.2.1)))))) H := hP
            have hX2 : RMx t ma 0 (enL (stK (zeD σ ii) (sLV σ j).2.1 (sKR σ (sLV σ j).2.1 + (sDV σ ii).2.2.2.1)) j) (va_up (va_up (va_up G (ma 10) (some (arI t 121 (va_up (fm 10) (j + 1) 2)))) (ma 15) (some (arI t 201 (va_up (fm 15) (ii + 1) 0)))) (ma 20) (some (arJ t 30 (va_up (fj 20) ((sLV σ j).2.1) (lN (sKR σ (sLV σ j).2.1 + (sDV σ ii).2.2.2.1)))))) := ⟨_, _, MC.aj (MC.ai (MC.ai (hM1) 10 ⟨by decide, by decide⟩ (j + 1) 2) 15 ⟨by decide, by decide⟩ (ii + 1) 0) 20 ⟨by decide, by decide⟩ ((sLV σ j).2.1) (lN (sKR σ (sLV σ j).2.1 + (sDV σ ii).2.2.2.1)), MRel_credit (MRel_left (MRel_enL hRr j) ii (_, _, 0, _) ⟨rfl, rfl, rfl, rfl⟩) (sLV σ j).2.1 (sKR σ (sLV σ j).2.1 + (sDV σ ii).2.2.2.1)⟩
            have hV2 : Inv (enL (stK (zeD σ ii) (sLV σ j).2.1 (sKR σ (sLV σ j).2.1 + (sDV σ ii).2.2.2.1)) j) := Inv_enL (Inv_stK (Inv_zeD hV hii)) hj hne2
            have hK2 : Keep (mF ma) g (va_up (va_up (va_up G (ma 10) (some (arI t 121 (va_up (fm 10) (j + 1) 2)))) (ma 15) (some (arI t 201 (va_up (fm 15) (ii + 1) 0)))) (ma 20) (some (arJ t 30 (va_up (fj 20) ((sLV σ j).2.1) (lN (sKR σ (sLV σ j).2.1 + (sDV σ ii).2.2.2.1)))))) := Keep.up (Keep.up (Keep.up (hK1) (Or.inl (mF_i ma 10 (by decide)))) (Or.inl (mF_i ma 15 (by decide)))) (Or.inl (mF_i ma 20 (by decide)))
            have hla : lateJ (enL (stK (zeD σ ii) (sLV σ j).2.1 (sKR σ (sLV σ j).2.1 + (sDV σ ii).2.2.2.1)) j) j d = lateJ σ j d := (lateJ_enL _ j d).trans rfl
            refine lv_aload_n hx hb d_M_found_109 rfl (lv_at hl 2 rfl) ?_
            refine lv_iload hx hb d_M_found_110 (lv_at hl 1 rfl) ?_
            refine lv_lload_n hx hb d_M_found_112 rfl (lv_at hl 4 rfl) ?_
            refine k_M_122 X ⟨Nat.le_of_ble_eq_true rfl, Nat.le_of_ble_eq_true rfl⟩ ⟨Nat.le_of_ble_eq_true rfl, Nat.le_of_ble_eq_true rfl⟩ hl.1 hP hS he_47 hX2 hV2 hj (by exact Nat.le_of_ble_eq_true rfl) d_M_found_113 (fun r_54 H locs er_54 hP hS => ?_)
            refine lv_lconst (v := 0) hx hb d_M_found_116 (by decide) ?_
            refine W.lcmp hx hb d_M_found_117 ?_
            refine lv_if_le (tgt := 138) hx hb d_M_found_118 (by decide) (fun c_55 => ?_) (fun c_55 => ?_)
            · rw [lg_cmp_le] at c_55
              rw [er_54, hla] at c_55; rw [er_7] at c_8; exact absurd c_55 c_8
            · rw [lg_cmp_le] at c_55
              have hpos : 0 < lateJ σ j d := by rw [er_54, hla] at c_55; exact Int64.not_le.mp c_55
              refine lv_aload_n hx hb d_M_found_121 rfl (lv_at hl 2 rfl) ?_
              refine lv_iload hx hb d_M_found_122 (lv_at hl 1 rfl) ?_
              refine lv_aload_n hx hb d_M_found_124 rfl (lv_at hl 2 rfl) ?_
              refine lv_iload hx hb d_M_found_125 (lv_at hl 1 rfl) ?_
              refine lv_lload_n hx hb d_M_found_127 rfl (lv_at hl 4 rfl) ?_
              refine k_M_122 X ⟨Nat.le_of_ble_eq_true rfl, Nat.le_of_ble_eq_true rfl⟩ ⟨Nat.le_of_ble_eq_true rfl, Nat.le_of_ble_eq_true rfl⟩ hl.1 hP hS he_47 hX2 hV2 hj (by exact Nat.le_of_ble_eq_true rfl) d_M_found_128 (fun r_56 H locs er_56 hP hS => ?_)
              refine lv_l2i hx hb d_M_found_131 rfl ?_
              rw [show r_56.toInt32 = nI (lateJ σ j d).toInt.toNat from by rw [er_56, hla]; exact l2iN hpos (late_le hV hj hpos)]
              refine lv_lload_n hx hb d_M_found_132 rfl (lv_at hl 4 rfl) ?_
              refine lv_iconst (v := 0) hx hb d_M_found_133 (by decide) ?_
              refine k_M_131 X ⟨Nat.le_of_ble_eq_true rfl, Nat.le_of_ble_eq_true rfl⟩ ⟨Nat.le_of_ble_eq_true rfl, Nat.le_of_ble_eq_true rfl⟩ hl.1 hP hS he_47 hX2 hlt (by exact Nat.le_of_ble_eq_true rfl) d_M_found_134 (fun r_57 u H locs hr_57 hP hS => ?_)
              obtain ⟨rfl, hX3, hK3⟩ := hr_57
              obtain ⟨fm2, fj2, hM2, hR2x⟩ := id hX3
              have v0 := hM2.1
              have v16 : u (ma 16) = some (arI t 201 (fm2 16)) := hM2.2.1 16 (by decide) (by decide)
              have hpd : fm2 16 (ii + 1) = nI (sDV σ ii).2.2.2.1 := by
                rw [(hR2x.2.2.1 ii (Nat.lt_succ_of_lt hii)).2.2.2.1]
                show nI (va_up (va_up (sDV σ) ii _) (sND σ) _ ii).2.2.2.1 = _
                rw [va_up_ne _ _ (Nat.ne_of_lt hii), va_up_self]
              refine lv_pop hx hb d_M_found_137 rfl ?_
              refine lv_aload_n hx hb d_M_found_138 rfl (lv_at hl 2 rfl) ?_
              refine g_M_56 X hb hP v0 rfl d_M_found_139 ?_
              refine lv_iload hx hb d_M_found_142 (lv_at hl 0 rfl) ?_
              refine n_iald X hb hP v16 ⟨by omega, by decide⟩ d_M_found_144 ?_
              refine lv_i2l hx hb d_M_found_145 rfl ?_
              have hfu : fullB (sND σ) = false := by simp [fullB]; omega
              have e9 : spFound σ (nI ji) d = (lN (sDV σ ii).2.2.2.1, (chD (enL (stK (zeD σ ii) (sLV σ j).2.1 (sKR σ (sLV σ j).2.1 + (sDV σ ii).2.2.2.1)) j) j (lateJ σ j d) d).2) := by simp only [spFound, hloN]; rw [if_pos (by simp [hfu, t_5]), hls, Nat.add_sub_cancel]
              exact h_lret hx hb hr hlocks (Nat.le_of_ble_eq_true rfl) (Nat.le_of_ble_eq_true rfl) hP hS (⟨by rw [e9, hpd, nI_l (by omega)], by rw [e9, chD, if_pos hpos]; exact hX3, Keep.tr hK2 hK3⟩) d_M_found_146
          · refine lv_ldc2 (v := (-1)) hx hb hown (hts _ (tbm 587 (by decide +kernel))) d_M_found_57 ?_
            have hfu : fullB (sND σ) = true := by have h9 := (nI_small (by omega) (b := 200) (by decide)).mp c_32; rw [h9]; rfl
            have hpos : 0 < lateJ σ j d := by rw [← er_7]; exact Int64.not_le.mp c_8
            have e9 : spFound σ (nI ji) d = (-1, σ) := by simp only [spFound, hloN]; rw [if_neg (by simp [hpos, hfu])]
            exact h_lret hx hb hr hlocks (Nat.le_of_ble_eq_true rfl) (Nat.le_of_ble_eq_true rfl) hP hS (⟨by rw [e9], by rw [e9]; exact hX1, hK1⟩) d_M_found_60
theorem k_W_63 {p : Program} {l : Launch} {e : Env} {R : Room} {s : State} {m : MethodId} {args : Array Value} {below : List Frame} {meth : Method} {c : Code} {H : Heap} {locs : List Loc} {cells slots : Nat} {Q : State → Prop} {cc : ByteArray} {pc : Nat} {ls : Array Slot} {rest : List Value} {D : va_G} {A : Nat → Prop} {t : Nat → ClassId} {g : hG} {nL : Nat} {ret0 : Option FieldType} {nm : String} (X : Cx p s m args meth c R_W cc nL ret0 TB D vwCl (tyL t) EX A nm) (hR : 2 + 1 ≤ R.frames ∧ 8 + (6 + 11) + 46 ≤ R.locals) (hf : cells + 0 ≤ R.cells ∧ slots + 0 ≤ R.slots) (hls : ls.size = nL) (hP : hw D vwCl A g H) (hS : va_S A s.heap H locs) {ma : Nat → Nat} {tv : Int32} {σ : SS} {x : Int32} {d : Int64} {fs9 : List Value} (he9 : g (ma 0) = some (.inr (6, fs9))) (hMx : RMx t ma tv σ g) (hV : Inv σ)  (hW : (rest.map fun v => v.category).sum ≤ 8) (hdg : decode cc pc = .ok (.invokevirtual 63, 3)) (kk : ∀ (r : Int64) (u : hG) (H1 : Heap) (locs1 : List Loc), ((fun r u => r = (spFound σ x d).1 ∧ RMx t ma 0 (spFound σ x d).2 u ∧ Keep (mF ma) g u) r u) → hw D vwCl A u H1 → va_S A s.heap H1 locs1 → W p l e R s m args below meth c H1 locs1 (cells + 0) (slots + 0) Q (F0 m (pc + 3) ls (.long r :: rest))) : W p l e R s m args below meth c H locs cells slots Q (F0 m pc ls (.long d :: .int x :: .ref (ma 0) :: rest)) :=
  h_cl (runV (C := R_M) (T := F_M) (N := 26) X (c_M_found l D t A g ma tv σ x d hMx hV) (tbm 600 (by decide +kernel)) (tbm 601 (by decide +kernel)) (tbm 602 (by decide +kernel)) (tbm 23 (by decide +kernel)) (tbm 603 (by decide +kernel)) rfl (n := 2) (by decide +kernel) hR hf hP he9 hS hls rfl rfl hW hdg) hS kk
