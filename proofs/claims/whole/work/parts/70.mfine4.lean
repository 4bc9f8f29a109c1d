theorem Keep.tr {F : Nat → Prop} {g u v : hG} (h1 : Keep F g u) (h2 : Keep F u v) : Keep F g v := Keep.trans h1 (fun a ha hn => h2 a (fun q => ha (Or.inl q)) hn)
theorem lost_st (σ : SS) (k am : Nat) (d : Int64) (n : Nat) : (let τ := adD (σ.1, (sNL σ, va_up (sLV σ) k ((sLV σ k).1, (sLV σ k).2.1, (sLV σ k).2.2.1, (sLV σ k).2.2.2.1, 3, (sLV σ k).2.2.2.2.2)), σ.2.2) k am 1 d; (τ.1, (sNL τ, va_up (sLV τ) k ((sLV τ k).1, (sLV τ k).2.1, (sLV τ k).2.2.1, (sLV τ k).2.2.2.1, (sLV τ k).2.2.2.2.1, n)), τ.2.2)) = (σ.1, (sNL σ, va_up (sLV σ) k ((sLV σ k).1, (sLV σ k).2.1, (sLV σ k).2.2.1, (sLV σ k).2.2.2.1, 3, n)), (adD σ k am 1 d).2.2) := by
  show (σ.1, (sNL σ, va_up (va_up (sLV σ) k ((sLV σ k).1, (sLV σ k).2.1, (sLV σ k).2.2.1, (sLV σ k).2.2.2.1, 3, (sLV σ k).2.2.2.2.2)) k ((va_up (sLV σ) k ((sLV σ k).1, (sLV σ k).2.1, (sLV σ k).2.2.1, (sLV σ k).2.2.2.1, 3, (sLV σ k).2.2.2.2.2) k).1, (va_up (sLV σ) k ((sLV σ k).1, (sLV σ k).2.1, (sLV σ k).2.2.1, (sLV σ k).2.2.2.1, 3, (sLV σ k).2.2.2.2.2) k).2.1, (va_up (sLV σ) k ((sLV σ k).1, (sLV σ k).2.1, (sLV σ k).2.2.1, (sLV σ k).2.2.2.1, 3, (sLV σ k).2.2.2.2.2) k).2.2.1, (va_up (sLV σ) k ((sLV σ k).1, (sLV σ k).2.1, (sLV σ k).2.2.1, (sLV σ k).2.2.2.1, 3, (sLV σ k).2.2.2.2.2) k).2.2.2.1, (va_up (sLV σ) k ((sLV σ k).1, (sLV σ k).2.1, (sLV σ k).2.2.1, (sLV σ k).2.2.2.1, 3, (sLV σ k).2.2.2.2.2) k).2.2.2.2.1, n)), (adD σ k am 1 d).2.2) = _
  rw [va_up_self, up_up]
set_option maxHeartbeats 4000000 in
set_option maxRecDepth 100000 in
theorem c_M_back (l : Launch) (D : va_G) (t : Nat → ClassId) (A : Nat → Prop) (g : hG) (ma : Nat → Nat) (tv : Int32) (σ : SS) (x : Int32) (d : Int64) (hMx : RMx t ma tv σ g) (hV : Inv σ) : Met l y_M_back (Cond.code y_M_back b_M_back 4 (some .int) :: TB) ({ frames := 2, cells := 0, slots := 0, locals := 46 } : Room) (va_Pc [.ref (ma 0), .int x, .long d] (hI D vwCl (tyL t) EX A g)) (va_Qi (fun r u => r = (spBack σ x d).1 ∧ RMx t ma 0 (spBack σ x d).2 u ∧ Keep (mF ma) g u) (fun u v => hw D vwCl A u v.heap) A) 0 0 A := by
  refine Met.ofH (cc := b_M_back) (maxL := 4) (ret := (some .int)) (lv := [(0, .ref (ma 0)), (1, .int x), (2, .long d)]) (by decide) (Nat.le_of_ble_eq_true rfl) rfl ?_
  intro p e s m below meth c ls X hP hS hl
  obtain ⟨hx, hb, hml, hr, hts, hown, hlocks, hK, hEs, hA, hnm⟩ := id X
  obtain ⟨fm, fj, hM, hR1, hR2, hR3, hR6, hR20, hR11⟩ := id hMx
  have m0 := hM.1
  have hinj := hM.2.2
  have hn1 := hV.1.1
  have hn2 := hV.1.2.1
  have hn3 := hV.1.2.2.1
  have hn4 := hV.1.2.2.2
  have hRr : MRel fm fj σ := ⟨hR1, hR2, hR3, hR6, hR20, hR11⟩
  refine lv_aload_n hx hb d_M_back_0 rfl (lv_at hl 0 rfl) ?_
  refine lv_iconst (v := 0) hx hb d_M_back_1 (by decide) ?_
  refine p_M_76 X hb hP hS m0 (Nat.le_of_ble_eq_true rfl) d_M_back_2 (fun H locs hP hS => ?_)
  have he_1 := va_up_self g (ma 0) (some (.inr (6, [.int 0, .int (nI (sNR σ)), .int (nI (sNL σ)), .int (nI (sND σ)), .int (nI (sNC σ)), .ref (ma 1), .ref (ma 2), .ref (ma 3), .ref (ma 4), .ref (ma 5), .ref (ma 6), .ref (ma 7), .ref (ma 8), .ref (ma 9), .ref (ma 10), .ref (ma 11), .ref (ma 12), .ref (ma 13), .ref (ma 14), .ref (ma 15), .ref (ma 16), .ref (ma 17), .ref (ma 18), .ref (ma 19), .ref (ma 20), .int (sTH σ)]) : va_E))
  have hP : hw D vwCl A (va_up g (ma 0) (some (.inr (6, [.int 0, .int (nI (sNR σ)), .int (nI (sNL σ)), .int (nI (sND σ)), .int (nI (sNC σ)), .ref (ma 1), .ref (ma 2), .ref (ma 3), .ref (ma 4), .ref (ma 5), .ref (ma 6), .ref (ma 7), .ref (ma 8), .ref (ma 9), .ref (ma 10), .ref (ma 11), .ref (ma 12), .ref (ma 13), .ref (ma 14), .ref (ma 15), .ref (ma 16), .ref (ma 17), .ref (ma 18), .ref (ma 19), .ref (ma 20), .int (sTH σ)])))) H := hP
  have hM1 : MC t (va_up g (ma 0) (some (mOb ma 0 (nI (sNR σ)) (nI (sNL σ)) (nI (sND σ)) (nI (sNC σ)) (sTH σ)))) ma 0 (nI (sNR σ)) (nI (sNL σ)) (nI (sND σ)) (nI (sNC σ)) (sTH σ) fm fj := MC.put hM 0 _ _ _ _ _
  have hK1 : Keep (mF ma) g (va_up g (ma 0) (some (mOb ma 0 (nI (sNR σ)) (nI (sNL σ)) (nI (sND σ)) (nI (sNC σ)) (sTH σ)))) := Keep.up Keep.rf (Or.inl (mF_i ma 0 (by decide)))
  have hP : hw D vwCl A (va_up g (ma 0) (some (mOb ma 0 (nI (sNR σ)) (nI (sNL σ)) (nI (sND σ)) (nI (sNC σ)) (sTH σ)))) H := hP
  generalize va_up g (ma 0) (some (mOb ma 0 (nI (sNR σ)) (nI (sNL σ)) (nI (sND σ)) (nI (sNC σ)) (sTH σ))) = G at hM1 hK1 hP
  have hX1 : RMx t ma 0 σ G := ⟨fm, fj, hM1, hRr⟩
  have w0 := hM1.1
  have w10 : G (ma 10) = some (arI t 121 (fm 10)) := hM1.2.1 10 (by decide) (by decide)
  refine lv_aload_n hx hb d_M_back_5 rfl (lv_at hl 0 rfl) ?_
  refine lv_iload_n hx hb d_M_back_6 rfl (lv_at hl 1 rfl) ?_
  refine k_M_118 X ⟨Nat.le_of_ble_eq_true rfl, Nat.le_of_ble_eq_true rfl⟩ ⟨Nat.le_of_ble_eq_true rfl, Nat.le_of_ble_eq_true rfl⟩ hl.1 hP hS w0 hX1 hV (by exact Nat.le_of_ble_eq_true rfl) d_M_back_7 (fun r_2 H locs er_2 hP hS => ?_)
  refine lv_if_eq (tgt := 41) hx hb d_M_back_10 (by decide) (fun c_3 => ?_) (fun c_3 => ?_)
  · have t_2 := bi_0.mp (er_2 ▸ c_3)
    refine lv_iconst (v := (-1)) hx hb d_M_back_41 (by decide) ?_
    have e9 : spBack σ x d = (-1, σ) := by simp [spBack, lentN_N t_2]
    exact h_iret hx hb hr hlocks (Nat.le_of_ble_eq_true rfl) (Nat.le_of_ble_eq_true rfl) hP hS (⟨by rw [e9], by rw [e9]; exact hX1, hK1⟩) d_M_back_42
  · have t_2 := bi_n0.mp (er_2 ▸ c_3)
    obtain ⟨j, hj, rfl, hst, hlN⟩ := lentN_S hV t_2
    refine lv_lload_n hx hb d_M_back_13 rfl (lv_at hl 2 rfl) ?_
    refine k_M_100 X ⟨Nat.le_of_ble_eq_true rfl, Nat.le_of_ble_eq_true rfl⟩ ⟨Nat.le_of_ble_eq_true rfl, Nat.le_of_ble_eq_true rfl⟩ hl.1 hP hS (by exact Nat.le_of_ble_eq_true rfl) d_M_back_14 (fun r_4 H locs er_4 hP hS => ?_)
    refine lv_if_eq (tgt := 41) hx hb d_M_back_17 (by decide) (fun c_5 => ?_) (fun c_5 => ?_)
    · have t_4 := bi_0.mp (er_4 ▸ c_5)
      refine lv_iconst (v := (-1)) hx hb d_M_back_41 (by decide) ?_
      have e9 : spBack σ (nI (j + 1)) d = (-1, σ) := by simp [spBack, hlN, t_4]
      exact h_iret hx hb hr hlocks (Nat.le_of_ble_eq_true rfl) (Nat.le_of_ble_eq_true rfl) hP hS (⟨by rw [e9], by rw [e9]; exact hX1, hK1⟩) d_M_back_42
    · have t_4 := bi_n0.mp (er_4 ▸ c_5)
      refine lv_aload_n hx hb d_M_back_20 rfl (lv_at hl 0 rfl) ?_
      refine lv_iload_n hx hb d_M_back_21 rfl (lv_at hl 1 rfl) ?_
      refine lv_lload_n hx hb d_M_back_22 rfl (lv_at hl 2 rfl) ?_
      refine k_M_122 X ⟨Nat.le_of_ble_eq_true rfl, Nat.le_of_ble_eq_true rfl⟩ ⟨Nat.le_of_ble_eq_true rfl, Nat.le_of_ble_eq_true rfl⟩ hl.1 hP hS w0 hX1 hV hj (by exact Nat.le_of_ble_eq_true rfl) d_M_back_23 (fun r_6 H locs er_6 hP hS => ?_)
      refine lv_lconst (v := 0) hx hb d_M_back_26 (by decide) ?_
      refine W.lcmp hx hb d_M_back_27 ?_
      refine lv_if_le (tgt := 43) hx hb d_M_back_28 (by decide) (fun c_7 => ?_) (fun c_7 => ?_)
      · rw [lg_cmp_le] at c_7
        refine lv_aload_n hx hb d_M_back_43 rfl (lv_at hl 0 rfl) ?_
        refine g_M_38 X hb hP w0 rfl d_M_back_44 ?_
        refine lv_iload_n hx hb d_M_back_47 rfl (lv_at hl 1 rfl) ?_
        refine lv_iconst (v := 2) hx hb d_M_back_48 (by decide) ?_
        refine n_iast X hb hP hS w10 ⟨by omega, by decide⟩ d_M_back_49 (fun H locs hP hS => ?_)
        have he_8 := up_at (o := some (arI t 121 (va_up (fm 10) (j + 1) 2))) w0 (mne hinj 0 10 (by decide) (by decide) (by decide))
        have he_9 := va_up_self G (ma 10) (some (arI t 121 (va_up (fm 10) (j + 1) 2) : va_E))
        have hP : hw D vwCl A (va_up G (ma 10) (some (arI t 121 (va_up (fm 10) (j + 1) 2)))) H := hP
        have hX2 : RMx t ma 0 (enL σ j) (va_up G (ma 10) (some (arI t 121 (va_up (fm 10) (j + 1) 2)))) := ⟨_, _, MC.ai (hM1) 10 ⟨by decide, by decide⟩ (j + 1) 2, MRel_enL hRr j⟩
        have hV2 := Inv_enL hV hj (by rw [hst]; decide)
        have hK2 : Keep (mF ma) g (va_up G (ma 10) (some (arI t 121 (va_up (fm 10) (j + 1) 2)))) := Keep.up (hK1) (Or.inl (mF_i ma 10 (by decide)))
        refine lv_aload_n hx hb d_M_back_50 rfl (lv_at hl 0 rfl) ?_
        refine lv_iload_n hx hb d_M_back_51 rfl (lv_at hl 1 rfl) ?_
        refine lv_lload_n hx hb d_M_back_52 rfl (lv_at hl 2 rfl) ?_
        refine k_M_122 X ⟨Nat.le_of_ble_eq_true rfl, Nat.le_of_ble_eq_true rfl⟩ ⟨Nat.le_of_ble_eq_true rfl, Nat.le_of_ble_eq_true rfl⟩ hl.1 hP hS he_8 hX2 hV2 hj (by exact Nat.le_of_ble_eq_true rfl) d_M_back_53 (fun r_10 H locs er_10 hP hS => ?_)
        refine lv_lconst (v := 0) hx hb d_M_back_56 (by decide) ?_
        refine W.lcmp hx hb d_M_back_57 ?_
        refine lv_if_le (tgt := 78) hx hb d_M_back_58 (by decide) (fun c_11 => ?_) (fun c_11 => ?_)
        · rw [lg_cmp_le] at c_11
          have hpos : ¬ 0 < lateJ σ j d := by rw [er_10, lateJ_enL] at c_11; exact Int64.not_lt.mpr c_11
          refine lv_iconst (v := 0) hx hb d_M_back_78 (by decide) ?_
          have e9 : spBack σ (nI (j + 1)) d = (0, enL σ j) := by simp only [spBack, hlN]; rw [if_pos (by simp [hpos, t_4]), chD, if_neg hpos]
          exact h_iret hx hb hr hlocks (Nat.le_of_ble_eq_true rfl) (Nat.le_of_ble_eq_true rfl) hP hS (⟨by rw [e9], by rw [e9]; exact hX2, hK2⟩) d_M_back_79
        · rw [lg_cmp_le] at c_11
          rw [er_10, lateJ_enL] at c_11; rw [er_6] at c_7; exact absurd c_7 c_11
      · rw [lg_cmp_le] at c_7
        refine lv_aload_n hx hb d_M_back_31 rfl (lv_at hl 0 rfl) ?_
        refine g_M_128 X hb hP w0 rfl d_M_back_32 ?_
        refine lv_sipush (v := 200) hx hb d_M_back_35 (by decide) ?_
        refine lv_icmp_ne (tgt := 43) hx hb d_M_back_38 (by decide) (fun c_12 => ?_) (fun c_12 => ?_)
        · have hlt : sND σ < 200 := by have h9 : ¬ sND σ = 200 := fun z => c_12 (by rw [z]; rfl); omega
          refine lv_aload_n hx hb d_M_back_43 rfl (lv_at hl 0 rfl) ?_
          refine g_M_38 X hb hP w0 rfl d_M_back_44 ?_
          refine lv_iload_n hx hb d_M_back_47 rfl (lv_at hl 1 rfl) ?_
          refine lv_iconst (v := 2) hx hb d_M_back_48 (by decide) ?_
          refine n_iast X hb hP hS w10 ⟨by omega, by decide⟩ d_M_back_49 (fun H locs hP hS => ?_)
          have he_13 := up_at (o := some (arI t 121 (va_up (fm 10) (j + 1) 2))) w0 (mne hinj 0 10 (by decide) (by decide) (by decide))
          have he_14 := va_up_self G (ma 10) (some (arI t 121 (va_up (fm 10) (j + 1) 2) : va_E))
          have hP : hw D vwCl A (va_up G (ma 10) (some (arI t 121 (va_up (fm 10) (j + 1) 2)))) H := hP
          have hX2 : RMx t ma 0 (enL σ j) (va_up G (ma 10) (some (arI t 121 (va_up (fm 10) (j + 1) 2)))) := ⟨_, _, MC.ai (hM1) 10 ⟨by decide, by decide⟩ (j + 1) 2, MRel_enL hRr j⟩
          have hV2 := Inv_enL hV hj (by rw [hst]; decide)
          have hK2 : Keep (mF ma) g (va_up G (ma 10) (some (arI t 121 (va_up (fm 10) (j + 1) 2)))) := Keep.up (hK1) (Or.inl (mF_i ma 10 (by decide)))
          refine lv_aload_n hx hb d_M_back_50 rfl (lv_at hl 0 rfl) ?_
          refine lv_iload_n hx hb d_M_back_51 rfl (lv_at hl 1 rfl) ?_
          refine lv_lload_n hx hb d_M_back_52 rfl (lv_at hl 2 rfl) ?_
          refine k_M_122 X ⟨Nat.le_of_ble_eq_true rfl, Nat.le_of_ble_eq_true rfl⟩ ⟨Nat.le_of_ble_eq_true rfl, Nat.le_of_ble_eq_true rfl⟩ hl.1 hP hS he_13 hX2 hV2 hj (by exact Nat.le_of_ble_eq_true rfl) d_M_back_53 (fun r_15 H locs er_15 hP hS => ?_)
          refine lv_lconst (v := 0) hx hb d_M_back_56 (by decide) ?_
          refine W.lcmp hx hb d_M_back_57 ?_
          refine lv_if_le (tgt := 78) hx hb d_M_back_58 (by decide) (fun c_16 => ?_) (fun c_16 => ?_)
          · rw [lg_cmp_le] at c_16
            rw [er_15, lateJ_enL] at c_16; rw [er_6] at c_7; exact absurd c_16 c_7
          · rw [lg_cmp_le] at c_16
            have hpos : 0 < lateJ σ j d := by rw [er_15, lateJ_enL] at c_16; exact Int64.not_le.mp c_16
            refine lv_aload_n hx hb d_M_back_61 rfl (lv_at hl 0 rfl) ?_
            refine lv_iload_n hx hb d_M_back_62 rfl (lv_at hl 1 rfl) ?_
            refine lv_aload_n hx hb d_M_back_63 rfl (lv_at hl 0 rfl) ?_
            refine lv_iload_n hx hb d_M_back_64 rfl (lv_at hl 1 rfl) ?_
            refine lv_lload_n hx hb d_M_back_65 rfl (lv_at hl 2 rfl) ?_
            refine k_M_122 X ⟨Nat.le_of_ble_eq_true rfl, Nat.le_of_ble_eq_true rfl⟩ ⟨Nat.le_of_ble_eq_true rfl, Nat.le_of_ble_eq_true rfl⟩ hl.1 hP hS he_13 hX2 hV2 hj (by exact Nat.le_of_ble_eq_true rfl) d_M_back_66 (fun r_17 H locs er_17 hP hS => ?_)
            refine lv_l2i hx hb d_M_back_69 rfl ?_
            rw [show r_17.toInt32 = nI (lateJ σ j d).toInt.toNat from by rw [er_17, lateJ_enL]; exact l2iN hpos (late_le hV hj hpos)]
            refine lv_lload_n hx hb d_M_back_70 rfl (lv_at hl 2 rfl) ?_
            refine lv_iconst (v := 0) hx hb d_M_back_71 (by decide) ?_
            refine k_M_131 X ⟨Nat.le_of_ble_eq_true rfl, Nat.le_of_ble_eq_true rfl⟩ ⟨Nat.le_of_ble_eq_true rfl, Nat.le_of_ble_eq_true rfl⟩ hl.1 hP hS he_13 hX2 hlt (by exact Nat.le_of_ble_eq_true rfl) d_M_back_72 (fun r_18 u H locs hr_18 hP hS => ?_)
            refine lv_goto (tgt := 79) hx hb d_M_back_75 (by decide) ?_
            have hfu : fullB (sND σ) = false := by simp [fullB]; omega
            have e9 : spBack σ (nI (j + 1)) d = (nI (sND σ + 1), adD (enL σ j) j (lateJ σ j d).toInt.toNat 0 d) := by simp only [spBack, hlN]; rw [if_pos (by simp [hfu, t_4]), chD, if_pos hpos]; rfl
            exact h_iret hx hb hr hlocks (Nat.le_of_ble_eq_true rfl) (Nat.le_of_ble_eq_true rfl) hP hS (⟨by rw [e9]; exact hr_18.1, by rw [e9]; exact hr_18.2.1, Keep.tr hK2 hr_18.2.2⟩) d_M_back_79
        · refine lv_iconst (v := (-1)) hx hb d_M_back_41 (by decide) ?_
          have hfu : fullB (sND σ) = true := by have h9 := (nI_small (by omega) (b := 200) (by decide)).mp c_12; rw [h9]; rfl
          have hpos : 0 < lateJ σ j d := by rw [← er_6]; exact Int64.not_le.mp c_7
          have e9 : spBack σ (nI (j + 1)) d = (-1, σ) := by simp only [spBack, hlN]; rw [if_neg (by simp [hpos, hfu])]
          exact h_iret hx hb hr hlocks (Nat.le_of_ble_eq_true rfl) (Nat.le_of_ble_eq_true rfl) hP hS (⟨by rw [e9], by rw [e9]; exact hX1, hK1⟩) d_M_back_42
theorem k_W_54 {p : Program} {l : Launch} {e : Env} {R : Room} {s : State} {m : MethodId} {args : Array Value} {below : List Frame} {meth : Method} {c : Code} {H : Heap} {locs : List Loc} {cells slots : Nat} {Q : State → Prop} {cc : ByteArray} {pc : Nat} {ls : Array Slot} {rest : List Value} {D : va_G} {A : Nat → Prop} {t : Nat → ClassId} {g : hG} {nL : Nat} {ret0 : Option FieldType} {nm : String} (X : Cx p s m args meth c R_W cc nL ret0 TB D vwCl (tyL t) EX A nm) (hR : 2 + 1 ≤ R.frames ∧ 8 + (4 + 11) + 46 ≤ R.locals) (hf : cells + 0 ≤ R.cells ∧ slots + 0 ≤ R.slots) (hls : ls.size = nL) (hP : hw D vwCl A g H) (hS : va_S A s.heap H locs) {ma : Nat → Nat} {tv : Int32} {σ : SS} {x : Int32} {d : Int64} {fs9 : List Value} (he9 : g (ma 0) = some (.inr (6, fs9))) (hMx : RMx t ma tv σ g) (hV : Inv σ)  (hW : (rest.map fun v => v.category).sum ≤ 8) (hdg : decode cc pc = .ok (.invokevirtual 54, 3)) (kk : ∀ (r : Int32) (u : hG) (H1 : Heap) (locs1 : List Loc), ((fun r u => r = (spBack σ x d).1 ∧ RMx t ma 0 (spBack σ x d).2 u ∧ Keep (mF ma) g u) r u) → hw D vwCl A u H1 → va_S A s.heap H1 locs1 → W p l e R s m args below meth c H1 locs1 (cells + 0) (slots + 0) Q (F0 m (pc + 3) ls (.int r :: rest))) : W p l e R s m args below meth c H locs cells slots Q (F0 m pc ls (.long d :: .int x :: .ref (ma 0) :: rest)) :=
  h_ci (runV (C := R_M) (T := F_M) (N := 26) X (c_M_back l D t A g ma tv σ x d hMx hV) (tbm 588 (by decide +kernel)) (tbm 589 (by decide +kernel)) (tbm 590 (by decide +kernel)) (tbm 23 (by decide +kernel)) (tbm 591 (by decide +kernel)) rfl (n := 2) (by decide +kernel) hR hf hP he9 hS hls rfl rfl hW hdg) hS kk

set_option maxHeartbeats 4000000 in
set_option maxRecDepth 100000 in
theorem c_M_lost (l : Launch) (D : va_G) (t : Nat → ClassId) (A : Nat → Prop) (g : hG) (ma : Nat → Nat) (tv : Int32) (σ : SS) (x y : Int32) (d : Int64) (hMx : RMx t ma tv σ g) (hV : Inv σ) : Met l y_M_lost (Cond.code y_M_lost b_M_lost 5 (some .int) :: TB) ({ frames := 2, cells := 0, slots := 0, locals := 46 } : Room) (va_Pc [.ref (ma 0), .int x, .int y, .long d] (hI D vwCl (tyL t) EX A g)) (va_Qi (fun r u => r = (spLost σ x y d).1 ∧ RMx t ma 0 (spLost σ x y d).2 u ∧ Keep (mF ma) g u) (fun u v => hw D vwCl A u v.heap) A) 0 0 A := by
  refine Met.ofH (cc := b_M_lost) (maxL := 5) (ret := (some .int)) (lv := [(0, .ref (ma 0)), (1, .int x), (2, .int y), (3, .long d)]) (by decide) (Nat.le_of_ble_eq_true rfl) rfl ?_
  intro p e s m below meth c ls X hP hS hl
  obtain ⟨hx, hb, hml, hr, hts, hown, hlocks, hK, hEs, hA, hnm⟩ := id X
  obtain ⟨fm, fj, hM, hR1, hR2, hR3, hR6, hR20, hR11⟩ := id hMx
  have m0 := hM.1
  have hinj := hM.2.2
  have hn1 := hV.1.1
  have hn2 := hV.1.2.1
  have hn3 := hV.1.2.2.1
  have hn4 := hV.1.2.2.2
  have hRr : MRel fm fj σ := ⟨hR1, hR2, hR3, hR6, hR20, hR11⟩
  refine lv_aload_n hx hb d_M_lost_0 rfl (lv_at hl 0 rfl) ?_
  refine lv_iconst (v := 0) hx hb d_M_lost_1 (by decide) ?_
  refine p_M_76 X hb hP hS m0 (Nat.le_of_ble_eq_true rfl) d_M_lost_2 (fun H locs hP hS => ?_)
  have he_1 := va_up_self g (ma 0) (some (.inr (6, [.int 0, .int (nI (sNR σ)), .int (nI (sNL σ)), .int (nI (sND σ)), .int (nI (sNC σ)), .ref (ma 1), .ref (ma 2), .ref (ma 3), .ref (ma 4), .ref (ma 5), .ref (ma 6), .ref (ma 7), .ref (ma 8), .ref (ma 9), .ref (ma 10), .ref (ma 11), .ref (ma 12), .ref (ma 13), .ref (ma 14), .ref (ma 15), .ref (ma 16), .ref (ma 17), .ref (ma 18), .ref (ma 19), .ref (ma 20), .int (sTH σ)]) : va_E))
  have hP : hw D vwCl A (va_up g (ma 0) (some (.inr (6, [.int 0, .int (nI (sNR σ)), .int (nI (sNL σ)), .int (nI (sND σ)), .int (nI (sNC σ)), .ref (ma 1), .ref (ma 2), .ref (ma 3), .ref (ma 4), .ref (ma 5), .ref (ma 6), .ref (ma 7), .ref (ma 8), .ref (ma 9), .ref (ma 10), .ref (ma 11), .ref (ma 12), .ref (ma 13), .ref (ma 14), .ref (ma 15), .ref (ma 16), .ref (ma 17), .ref (ma 18), .ref (ma 19), .ref (ma 20), .int (sTH σ)])))) H := hP
  have hM1 : MC t (va_up g (ma 0) (some (mOb ma 0 (nI (sNR σ)) (nI (sNL σ)) (nI (sND σ)) (nI (sNC σ)) (sTH σ)))) ma 0 (nI (sNR σ)) (nI (sNL σ)) (nI (sND σ)) (nI (sNC σ)) (sTH σ) fm fj := MC.put hM 0 _ _ _ _ _
  have hK1 : Keep (mF ma) g (va_up g (ma 0) (some (mOb ma 0 (nI (sNR σ)) (nI (sNL σ)) (nI (sND σ)) (nI (sNC σ)) (sTH σ)))) := Keep.up Keep.rf (Or.inl (mF_i ma 0 (by decide)))
  have hP : hw D vwCl A (va_up g (ma 0) (some (mOb ma 0 (nI (sNR σ)) (nI (sNL σ)) (nI (sND σ)) (nI (sNC σ)) (sTH σ)))) H := hP
  generalize va_up g (ma 0) (some (mOb ma 0 (nI (sNR σ)) (nI (sNL σ)) (nI (sND σ)) (nI (sNC σ)) (sTH σ))) = G at hM1 hK1 hP
  have hX1 : RMx t ma 0 σ G := ⟨fm, fj, hM1, hRr⟩
  have w0 := hM1.1
  have w10 : G (ma 10) = some (arI t 121 (fm 10)) := hM1.2.1 10 (by decide) (by decide)
  have w11 : G (ma 11) = some (arI t 121 (fm 11)) := hM1.2.1 11 (by decide) (by decide)
  refine lv_aload_n hx hb d_M_lost_5 rfl (lv_at hl 0 rfl) ?_
  refine lv_iload_n hx hb d_M_lost_6 rfl (lv_at hl 1 rfl) ?_
  refine k_M_118 X ⟨Nat.le_of_ble_eq_true rfl, Nat.le_of_ble_eq_true rfl⟩ ⟨Nat.le_of_ble_eq_true rfl, Nat.le_of_ble_eq_true rfl⟩ hl.1 hP hS w0 hX1 hV (by exact Nat.le_of_ble_eq_true rfl) d_M_lost_7 (fun r_2 H locs er_2 hP hS => ?_)
  refine lv_if_eq (tgt := 42) hx hb d_M_lost_10 (by decide) (fun c_3 => ?_) (fun c_3 => ?_)
  · have t_2 := bi_0.mp (er_2 ▸ c_3)
    refine lv_iconst (v := (-1)) hx hb d_M_lost_42 (by decide) ?_
    have e9 : spLost σ x y d = (-1, σ) := by simp [spLost, lentN_N t_2]
    exact h_iret hx hb hr hlocks (Nat.le_of_ble_eq_true rfl) (Nat.le_of_ble_eq_true rfl) hP hS (⟨by rw [e9], by rw [e9]; exact hX1, hK1⟩) d_M_lost_43
  · have t_2 := bi_n0.mp (er_2 ▸ c_3)
    obtain ⟨j, hj, rfl, hst, hlN⟩ := lentN_S hV t_2
    refine lv_lload_n hx hb d_M_lost_13 rfl (lv_at hl 3 rfl) ?_
    refine k_M_100 X ⟨Nat.le_of_ble_eq_true rfl, Nat.le_of_ble_eq_true rfl⟩ ⟨Nat.le_of_ble_eq_true rfl, Nat.le_of_ble_eq_true rfl⟩ hl.1 hP hS (by exact Nat.le_of_ble_eq_true rfl) d_M_lost_14 (fun r_4 H locs er_4 hP hS => ?_)
    refine lv_if_eq (tgt := 42) hx hb d_M_lost_17 (by decide) (fun c_5 => ?_) (fun c_5 => ?_)
    · have t_4 := bi_0.mp (er_4 ▸ c_5)
      refine lv_iconst (v := (-1)) hx hb d_M_lost_42 (by decide) ?_
      have e9 : spLost σ (nI (j + 1)) y d = (-1, σ) := by simp [spLost, hlN, t_4]
      exact h_iret hx hb hr hlocks (Nat.le_of_ble_eq_true rfl) (Nat.le_of_ble_eq_true rfl) hP hS (⟨by rw [e9], by rw [e9]; exact hX1, hK1⟩) d_M_lost_43
    · have t_4 := bi_n0.mp (er_4 ▸ c_5)
      refine lv_iload_n hx hb d_M_lost_20 rfl (lv_at hl 2 rfl) ?_
      refine lv_i2l hx hb d_M_lost_21 rfl ?_
      refine lv_lconst (v := 1) hx hb d_M_lost_22 (by decide) ?_
      refine lv_ldc2 (v := 10000000) hx hb hown (hts _ (tbm 545 (by decide +kernel))) d_M_lost_23 ?_
      refine k_M_81 X ⟨Nat.le_of_ble_eq_true rfl, Nat.le_of_ble_eq_true rfl⟩ ⟨Nat.le_of_ble_eq_true rfl, Nat.le_of_ble_eq_true rfl⟩ hl.1 hP hS (by exact Nat.le_of_ble_eq_true rfl) d_M_lost_26 (fun r_6 H locs er_6 hP hS => ?_)
      refine lv_if_eq (tgt := 42) hx hb d_M_lost_29 (by decide) (fun c_7 => ?_) (fun c_7 => ?_)
      · have t_6 := bi_0.mp (er_6 ▸ c_7)
        refine lv_iconst (v := (-1)) hx hb d_M_lost_42 (by decide) ?_
        have tw2 : wi y 1 10000000 = false := by rw [← wl_i]; exact t_6
        have e9 : spLost σ (nI (j + 1)) y d = (-1, σ) := by simp [spLost, hlN, tw2]
        exact h_iret hx hb hr hlocks (Nat.le_of_ble_eq_true rfl) (Nat.le_of_ble_eq_true rfl) hP hS (⟨by rw [e9], by rw [e9]; exact hX1, hK1⟩) d_M_lost_43
      · have t_6 := bi_n0.mp (er_6 ▸ c_7)
        have hwy : wi y 1 10000000 = true := by rw [← wl_i]; exact t_6
        obtain ⟨am, ham, rfl⟩ := wi_c hwy
        refine lv_aload_n hx hb d_M_lost_32 rfl (lv_at hl 0 rfl) ?_
        refine g_M_128 X hb hP w0 rfl d_M_lost_33 ?_
        refine lv_sipush (v := 200) hx hb d_M_lost_36 (by decide) ?_
        refine lv_icmp_ne (tgt := 44) hx hb d_M_lost_39 (by decide) (fun c_8 => ?_) (fun c_8 => ?_)
        · have hlt : sND σ < 200 := by have h9 : ¬ sND σ = 200 := fun z => c_8 (by rw [z]; rfl); omega
          refine lv_aload_n hx hb d_M_lost_44 rfl (lv_at hl 0 rfl) ?_
          refine g_M_38 X hb hP w0 rfl d_M_lost_45 ?_
          refine lv_iload_n hx hb d_M_lost_48 rfl (lv_at hl 1 rfl) ?_
          refine lv_iconst (v := 3) hx hb d_M_lost_49 (by decide) ?_
          refine n_iast X hb hP hS w10 ⟨by omega, by decide⟩ d_M_lost_50 (fun H locs hP hS => ?_)
          have he_9 := up_at (o := some (arI t 121 (va_up (fm 10) (j + 1) 3))) w0 (mne hinj 0 10 (by decide) (by decide) (by decide))
          have he_10 := up_at (o := some (arI t 121 (va_up (fm 10) (j + 1) 3))) w11 (mne hinj 11 10 (by decide) (by decide) (by decide))
          have he_11 := va_up_self G (ma 10) (some (arI t 121 (va_up (fm 10) (j + 1) 3) : va_E))
          have hP : hw D vwCl A (va_up G (ma 10) (some (arI t 121 (va_up (fm 10) (j + 1) 3)))) H := hP
          have hX2 : RMx t ma 0 (σ.1, (sNL σ, va_up (sLV σ) j ((sLV σ j).1, (sLV σ j).2.1, (sLV σ j).2.2.1, (sLV σ j).2.2.2.1, 3, (sLV σ j).2.2.2.2.2)), σ.2.2) (va_up G (ma 10) (some (arI t 121 (va_up (fm 10) (j + 1) 3)))) := ⟨_, _, MC.ai (hM1) 10 ⟨by decide, by decide⟩ (j + 1) 3, MRel_st hRr j 3⟩
          have hK2 : Keep (mF ma) g (va_up G (ma 10) (some (arI t 121 (va_up (fm 10) (j + 1) 3)))) := Keep.up (hK1) (Or.inl (mF_i ma 10 (by decide)))
          refine lv_aload_n hx hb d_M_lost_51 rfl (lv_at hl 0 rfl) ?_
          refine g_M_41 X hb hP he_9 rfl d_M_lost_52 ?_
          refine lv_iload_n hx hb d_M_lost_55 rfl (lv_at hl 1 rfl) ?_
          refine lv_aload_n hx hb d_M_lost_56 rfl (lv_at hl 0 rfl) ?_
          refine lv_iload_n hx hb d_M_lost_57 rfl (lv_at hl 1 rfl) ?_
          refine lv_iload_n hx hb d_M_lost_58 rfl (lv_at hl 2 rfl) ?_
          refine lv_lload_n hx hb d_M_lost_59 rfl (lv_at hl 3 rfl) ?_
          refine lv_iconst (v := 1) hx hb d_M_lost_60 (by decide) ?_
          refine k_M_131 X ⟨Nat.le_of_ble_eq_true rfl, Nat.le_of_ble_eq_true rfl⟩ ⟨Nat.le_of_ble_eq_true rfl, Nat.le_of_ble_eq_true rfl⟩ hl.1 hP hS he_9 hX2 hlt (by exact Nat.le_of_ble_eq_true rfl) d_M_lost_61 (fun r_12 u H locs hr_12 hP hS => ?_)
          obtain ⟨rfl, ⟨fm2, fj2, hM2, hR2x⟩, hK3⟩ := hr_12
          have v0 := hM2.1
          have v11 : u (ma 11) = some (arI t 121 (fm2 11)) := hM2.2.1 11 (by decide) (by decide)
          refine n_iast X hb hP hS v11 ⟨by omega, by decide⟩ d_M_lost_64 (fun H locs hP hS => ?_)
          have he_13 := up_at (o := some (arI t 121 (va_up (fm2 11) (j + 1) (nI (sND σ + 1))))) v0 (mne hinj 0 11 (by decide) (by decide) (by decide))
          have he_14 := va_up_self u (ma 11) (some (arI t 121 (va_up (fm2 11) (j + 1) (nI (sND σ + 1))) : va_E))
          have hP : hw D vwCl A (va_up u (ma 11) (some (arI t 121 (va_up (fm2 11) (j + 1) (nI (sND σ + 1)))))) H := hP
          refine lv_aload_n hx hb d_M_lost_65 rfl (lv_at hl 0 rfl) ?_
          refine g_M_41 X hb hP he_13 rfl d_M_lost_66 ?_
          refine lv_iload_n hx hb d_M_lost_69 rfl (lv_at hl 1 rfl) ?_
          refine n_iald X hb hP he_14 ⟨by omega, by decide⟩ d_M_lost_70 ?_
          have hfu : fullB (sND σ) = false := by simp [fullB]; omega
          have e9 : spLost σ (nI (j + 1)) (nI am) d = (nI (sND σ + 1), (σ.1, (sNL σ, va_up (sLV σ) j ((sLV σ j).1, (sLV σ j).2.1, (sLV σ j).2.2.1, (sLV σ j).2.2.2.1, 3, sND σ + 1)), (adD σ j am 1 d).2.2)) := by simp only [spLost, hlN]; rw [if_pos (by simp [hfu, hwy, t_4]), nI_k9 ham]
          have hls := lost_st σ j am d (sND σ + 1)
          have hK4 : Keep (mF ma) g (va_up u (ma 11) (some (arI t 121 (va_up (fm2 11) (j + 1) (nI (sND σ + 1)))))) := Keep.up (Keep.tr hK2 hK3) (Or.inl (mF_i ma 11 (by decide)))
          exact h_iret hx hb hr hlocks (Nat.le_of_ble_eq_true rfl) (Nat.le_of_ble_eq_true rfl) hP hS (⟨by rw [e9]; exact va_up_self _ _ _, by rw [e9, ← hls]; exact ⟨_, _, MC.ai (hM2) 11 ⟨by decide, by decide⟩ (j + 1) (nI (sND σ + 1)), MRel_loss hR2x j (sND σ + 1) hj⟩, hK4⟩) d_M_lost_71
        · refine lv_iconst (v := (-1)) hx hb d_M_lost_42 (by decide) ?_
          have hfu : fullB (sND σ) = true := by have h9 := (nI_small (by omega) (b := 200) (by decide)).mp c_8; rw [h9]; rfl
          have e9 : spLost σ (nI (j + 1)) (nI am) d = (-1, σ) := by simp [spLost, hlN, hfu]
          exact h_iret hx hb hr hlocks (Nat.le_of_ble_eq_true rfl) (Nat.le_of_ble_eq_true rfl) hP hS (⟨by rw [e9], by rw [e9]; exact hX1, hK1⟩) d_M_lost_43
theorem k_W_59 {p : Program} {l : Launch} {e : Env} {R : Room} {s : State} {m : MethodId} {args : Array Value} {below : List Frame} {meth : Method} {c : Code} {H : Heap} {locs : List Loc} {cells slots : Nat} {Q : State → Prop} {cc : ByteArray} {pc : Nat} {ls : Array Slot} {rest : List Value} {D : va_G} {A : Nat → Prop} {t : Nat → ClassId} {g : hG} {nL : Nat} {ret0 : Option FieldType} {nm : String} (X : Cx p s m args meth c R_W cc nL ret0 TB D vwCl (tyL t) EX A nm) (hR : 2 + 1 ≤ R.frames ∧ 8 + (5 + 11) + 46 ≤ R.locals) (hf : cells + 0 ≤ R.cells ∧ slots + 0 ≤ R.slots) (hls : ls.size = nL) (hP : hw D vwCl A g H) (hS : va_S A s.heap H locs) {ma : Nat → Nat} {tv : Int32} {σ : SS} {x y : Int32} {d : Int64} {fs9 : List Value} (he9 : g (ma 0) = some (.inr (6, fs9))) (hMx : RMx t ma tv σ g) (hV : Inv σ)  (hW : (rest.map fun v => v.category).sum ≤ 8) (hdg : decode cc pc = .ok (.invokevirtual 59, 3)) (kk : ∀ (r : Int32) (u : hG) (H1 : Heap) (locs1 : List Loc), ((fun r u => r = (spLost σ x y d).1 ∧ RMx t ma 0 (spLost σ x y d).2 u ∧ Keep (mF ma) g u) r u) → hw D vwCl A u H1 → va_S A s.heap H1 locs1 → W p l e R s m args below meth c H1 locs1 (cells + 0) (slots + 0) Q (F0 m (pc + 3) ls (.int r :: rest))) : W p l e R s m args below meth c H locs cells slots Q (F0 m pc ls (.long d :: .int y :: .int x :: .ref (ma 0) :: rest)) :=
  h_ci (runV (C := R_M) (T := F_M) (N := 26) X (c_M_lost l D t A g ma tv σ x y d hMx hV) (tbm 596 (by decide +kernel)) (tbm 597 (by decide +kernel)) (tbm 598 (by decide +kernel)) (tbm 23 (by decide +kernel)) (tbm 599 (by decide +kernel)) rfl (n := 3) (by decide +kernel) hR hf hP he9 hS hls rfl rfl hW hdg) hS kk
