set_option maxHeartbeats 4000000 in
set_option maxRecDepth 100000 in
theorem c_M_overdue (l : Launch) (D : va_G) (t : Nat → ClassId) (A : Nat → Prop) (g : hG) (ma : Nat → Nat) (tv : Int32) (σ : SS) (x : Int32) (d : Int64) (hMx : RMx t ma tv σ g) (hV : Inv σ) : Met l y_M_overdue (Cond.code y_M_overdue b_M_overdue 4 (some .long) :: TB) ({ frames := 2, cells := 0, slots := 0, locals := 46 } : Room) (va_Pc [.ref (ma 0), .int x, .long d] (hI D vwCl (tyL t) EX A g)) (va_Ql (fun r u => r = spOver σ x d ∧ RMx t ma 0 σ u ∧ Keep (mF ma) g u) (fun u v => hw D vwCl A u v.heap) A) 0 0 A := by
  refine Met.ofH (cc := b_M_overdue) (maxL := 4) (ret := (some .long)) (lv := [(0, .ref (ma 0)), (1, .int x), (2, .long d)]) (by decide) (Nat.le_of_ble_eq_true rfl) rfl ?_
  intro p e s m below meth c ls X hP hS hl
  obtain ⟨hx, hb, hml, hr, hts, hown, hlocks, hK, hEs, hA, hnm⟩ := id X
  obtain ⟨fm, fj, hM, hR1, hR2, hR3, hR6, hR20, hR11⟩ := id hMx
  have m0 := hM.1
  have hinj := hM.2.2
  have hn1 := hV.1.1
  have hn2 := hV.1.2.1
  have hn3 := hV.1.2.2.1
  have hn4 := hV.1.2.2.2
  have hRr : MRel fm fj σ := ⟨hR1, hR2, hR3, hR6, hR20, hR11⟩
  refine lv_aload_n hx hb d_M_overdue_0 rfl (lv_at hl 0 rfl) ?_
  refine lv_iconst (v := 0) hx hb d_M_overdue_1 (by decide) ?_
  refine p_M_76 X hb hP hS m0 (Nat.le_of_ble_eq_true rfl) d_M_overdue_2 (fun H locs hP hS => ?_)
  have he_1 := va_up_self g (ma 0) (some (.inr (6, [.int 0, .int (nI (sNR σ)), .int (nI (sNL σ)), .int (nI (sND σ)), .int (nI (sNC σ)), .ref (ma 1), .ref (ma 2), .ref (ma 3), .ref (ma 4), .ref (ma 5), .ref (ma 6), .ref (ma 7), .ref (ma 8), .ref (ma 9), .ref (ma 10), .ref (ma 11), .ref (ma 12), .ref (ma 13), .ref (ma 14), .ref (ma 15), .ref (ma 16), .ref (ma 17), .ref (ma 18), .ref (ma 19), .ref (ma 20), .int (sTH σ)]) : va_E))
  have hP : hw D vwCl A (va_up g (ma 0) (some (.inr (6, [.int 0, .int (nI (sNR σ)), .int (nI (sNL σ)), .int (nI (sND σ)), .int (nI (sNC σ)), .ref (ma 1), .ref (ma 2), .ref (ma 3), .ref (ma 4), .ref (ma 5), .ref (ma 6), .ref (ma 7), .ref (ma 8), .ref (ma 9), .ref (ma 10), .ref (ma 11), .ref (ma 12), .ref (ma 13), .ref (ma 14), .ref (ma 15), .ref (ma 16), .ref (ma 17), .ref (ma 18), .ref (ma 19), .ref (ma 20), .int (sTH σ)])))) H := hP
  have hM1 : MC t (va_up g (ma 0) (some (mOb ma 0 (nI (sNR σ)) (nI (sNL σ)) (nI (sND σ)) (nI (sNC σ)) (sTH σ)))) ma 0 (nI (sNR σ)) (nI (sNL σ)) (nI (sND σ)) (nI (sNC σ)) (sTH σ) fm fj := MC.put hM 0 _ _ _ _ _
  have hK1 : Keep (mF ma) g (va_up g (ma 0) (some (mOb ma 0 (nI (sNR σ)) (nI (sNL σ)) (nI (sND σ)) (nI (sNC σ)) (sTH σ)))) := Keep.up Keep.rf (Or.inl (mF_i ma 0 (by decide)))
  have hP : hw D vwCl A (va_up g (ma 0) (some (mOb ma 0 (nI (sNR σ)) (nI (sNL σ)) (nI (sND σ)) (nI (sNC σ)) (sTH σ)))) H := hP
  generalize va_up g (ma 0) (some (mOb ma 0 (nI (sNR σ)) (nI (sNL σ)) (nI (sND σ)) (nI (sNC σ)) (sTH σ))) = G at hM1 hK1 hP
  have hX1 : RMx t ma 0 σ G := ⟨fm, fj, hM1, hRr⟩
  have w0 := hM1.1
  refine lv_aload_n hx hb d_M_overdue_5 rfl (lv_at hl 0 rfl) ?_
  refine lv_iload_n hx hb d_M_overdue_6 rfl (lv_at hl 1 rfl) ?_
  refine k_M_118 X ⟨Nat.le_of_ble_eq_true rfl, Nat.le_of_ble_eq_true rfl⟩ ⟨Nat.le_of_ble_eq_true rfl, Nat.le_of_ble_eq_true rfl⟩ hl.1 hP hS w0 hX1 hV (by exact Nat.le_of_ble_eq_true rfl) d_M_overdue_7 (fun r_2 H locs er_2 hP hS => ?_)
  refine lv_if_eq (tgt := 29) hx hb d_M_overdue_10 (by decide) (fun c_3 => ?_) (fun c_3 => ?_)
  · have t_2 := bi_0.mp (er_2 ▸ c_3)
    refine lv_ldc2 (v := (-1)) hx hb hown (hts _ (tbm 587 (by decide +kernel))) d_M_overdue_29 ?_
    exact h_lret hx hb hr hlocks (Nat.le_of_ble_eq_true rfl) (Nat.le_of_ble_eq_true rfl) hP hS (⟨by simp [spOver, lentN_N t_2], hX1, hK1⟩) d_M_overdue_32
  · have t_2 := bi_n0.mp (er_2 ▸ c_3)
    obtain ⟨j, hj, rfl, hst, hlN⟩ := lentN_S hV t_2
    refine lv_lload_n hx hb d_M_overdue_13 rfl (lv_at hl 2 rfl) ?_
    refine k_M_100 X ⟨Nat.le_of_ble_eq_true rfl, Nat.le_of_ble_eq_true rfl⟩ ⟨Nat.le_of_ble_eq_true rfl, Nat.le_of_ble_eq_true rfl⟩ hl.1 hP hS (by exact Nat.le_of_ble_eq_true rfl) d_M_overdue_14 (fun r_4 H locs er_4 hP hS => ?_)
    refine lv_if_eq (tgt := 29) hx hb d_M_overdue_17 (by decide) (fun c_5 => ?_) (fun c_5 => ?_)
    · have t_4 := bi_0.mp (er_4 ▸ c_5)
      refine lv_ldc2 (v := (-1)) hx hb hown (hts _ (tbm 587 (by decide +kernel))) d_M_overdue_29 ?_
      exact h_lret hx hb hr hlocks (Nat.le_of_ble_eq_true rfl) (Nat.le_of_ble_eq_true rfl) hP hS (⟨by simp [spOver, hlN, t_4], hX1, hK1⟩) d_M_overdue_32
    · have t_4 := bi_n0.mp (er_4 ▸ c_5)
      refine lv_aload_n hx hb d_M_overdue_20 rfl (lv_at hl 0 rfl) ?_
      refine lv_iload_n hx hb d_M_overdue_21 rfl (lv_at hl 1 rfl) ?_
      refine lv_lload_n hx hb d_M_overdue_22 rfl (lv_at hl 2 rfl) ?_
      refine k_M_122 X ⟨Nat.le_of_ble_eq_true rfl, Nat.le_of_ble_eq_true rfl⟩ ⟨Nat.le_of_ble_eq_true rfl, Nat.le_of_ble_eq_true rfl⟩ hl.1 hP hS w0 hX1 hV hj (by exact Nat.le_of_ble_eq_true rfl) d_M_overdue_23 (fun r_6 H locs er_6 hP hS => ?_)
      refine lv_goto (tgt := 32) hx hb d_M_overdue_26 (by decide) ?_
      exact h_lret hx hb hr hlocks (Nat.le_of_ble_eq_true rfl) (Nat.le_of_ble_eq_true rfl) hP hS (⟨by rw [er_6]; simp [spOver, hlN, t_4], hX1, hK1⟩) d_M_overdue_32
theorem k_W_49 {p : Program} {l : Launch} {e : Env} {R : Room} {s : State} {m : MethodId} {args : Array Value} {below : List Frame} {meth : Method} {c : Code} {H : Heap} {locs : List Loc} {cells slots : Nat} {Q : State → Prop} {cc : ByteArray} {pc : Nat} {ls : Array Slot} {rest : List Value} {D : va_G} {A : Nat → Prop} {t : Nat → ClassId} {g : hG} {nL : Nat} {ret0 : Option FieldType} {nm : String} (X : Cx p s m args meth c R_W cc nL ret0 TB D vwCl (tyL t) EX A nm) (hR : 2 + 1 ≤ R.frames ∧ 8 + (4 + 11) + 46 ≤ R.locals) (hf : cells + 0 ≤ R.cells ∧ slots + 0 ≤ R.slots) (hls : ls.size = nL) (hP : hw D vwCl A g H) (hS : va_S A s.heap H locs) {ma : Nat → Nat} {tv : Int32} {σ : SS} {x : Int32} {d : Int64} {fs9 : List Value} (he9 : g (ma 0) = some (.inr (6, fs9))) (hMx : RMx t ma tv σ g) (hV : Inv σ)  (hW : (rest.map fun v => v.category).sum ≤ 8) (hdg : decode cc pc = .ok (.invokevirtual 49, 3)) (kk : ∀ (r : Int64) (u : hG) (H1 : Heap) (locs1 : List Loc), ((fun r u => r = spOver σ x d ∧ RMx t ma 0 σ u ∧ Keep (mF ma) g u) r u) → hw D vwCl A u H1 → va_S A s.heap H1 locs1 → W p l e R s m args below meth c H1 locs1 (cells + 0) (slots + 0) Q (F0 m (pc + 3) ls (.long r :: rest))) : W p l e R s m args below meth c H locs cells slots Q (F0 m pc ls (.long d :: .int x :: .ref (ma 0) :: rest)) :=
  h_cl (runV (C := R_M) (T := F_M) (N := 26) X (c_M_overdue l D t A g ma tv σ x d hMx hV) (tbm 575 (by decide +kernel)) (tbm 576 (by decide +kernel)) (tbm 577 (by decide +kernel)) (tbm 23 (by decide +kernel)) (tbm 578 (by decide +kernel)) rfl (n := 2) (by decide +kernel) hR hf hP he9 hS hls rfl rfl hW hdg) hS kk

set_option maxHeartbeats 4000000 in
set_option maxRecDepth 100000 in
theorem c_M_waive (l : Launch) (D : va_G) (t : Nat → ClassId) (A : Nat → Prop) (g : hG) (ma : Nat → Nat) (tv : Int32) (σ : SS) (x y : Int32) (hMx : RMx t ma tv σ g) (hV : Inv σ) : Met l y_M_waive (Cond.code y_M_waive b_M_waive 4 (some .long) :: TB) ({ frames := 2, cells := 0, slots := 0, locals := 46 } : Room) (va_Pc [.ref (ma 0), .int x, .int y] (hI D vwCl (tyL t) EX A g)) (va_Ql (fun r u => r = (spWaive σ x y).1 ∧ RMx t ma 0 (spWaive σ x y).2 u ∧ Keep (mF ma) g u) (fun u v => hw D vwCl A u v.heap) A) 0 0 A := by
  refine Met.ofH (cc := b_M_waive) (maxL := 4) (ret := (some .long)) (lv := [(0, .ref (ma 0)), (1, .int x), (2, .int y)]) (by decide) (Nat.le_of_ble_eq_true rfl) rfl ?_
  intro p e s m below meth c ls X hP hS hl
  obtain ⟨hx, hb, hml, hr, hts, hown, hlocks, hK, hEs, hA, hnm⟩ := id X
  obtain ⟨fm, fj, hM, hR1, hR2, hR3, hR6, hR20, hR11⟩ := id hMx
  have m0 := hM.1
  have hinj := hM.2.2
  have hn1 := hV.1.1
  have hn2 := hV.1.2.1
  have hn3 := hV.1.2.2.1
  have hn4 := hV.1.2.2.2
  have hRr : MRel fm fj σ := ⟨hR1, hR2, hR3, hR6, hR20, hR11⟩
  refine lv_aload_n hx hb d_M_waive_0 rfl (lv_at hl 0 rfl) ?_
  refine lv_iconst (v := 0) hx hb d_M_waive_1 (by decide) ?_
  refine p_M_76 X hb hP hS m0 (Nat.le_of_ble_eq_true rfl) d_M_waive_2 (fun H locs hP hS => ?_)
  have he_1 := va_up_self g (ma 0) (some (.inr (6, [.int 0, .int (nI (sNR σ)), .int (nI (sNL σ)), .int (nI (sND σ)), .int (nI (sNC σ)), .ref (ma 1), .ref (ma 2), .ref (ma 3), .ref (ma 4), .ref (ma 5), .ref (ma 6), .ref (ma 7), .ref (ma 8), .ref (ma 9), .ref (ma 10), .ref (ma 11), .ref (ma 12), .ref (ma 13), .ref (ma 14), .ref (ma 15), .ref (ma 16), .ref (ma 17), .ref (ma 18), .ref (ma 19), .ref (ma 20), .int (sTH σ)]) : va_E))
  have hP : hw D vwCl A (va_up g (ma 0) (some (.inr (6, [.int 0, .int (nI (sNR σ)), .int (nI (sNL σ)), .int (nI (sND σ)), .int (nI (sNC σ)), .ref (ma 1), .ref (ma 2), .ref (ma 3), .ref (ma 4), .ref (ma 5), .ref (ma 6), .ref (ma 7), .ref (ma 8), .ref (ma 9), .ref (ma 10), .ref (ma 11), .ref (ma 12), .ref (ma 13), .ref (ma 14), .ref (ma 15), .ref (ma 16), .ref (ma 17), .ref (ma 18), .ref (ma 19), .ref (ma 20), .int (sTH σ)])))) H := hP
  have hM1 : MC t (va_up g (ma 0) (some (mOb ma 0 (nI (sNR σ)) (nI (sNL σ)) (nI (sND σ)) (nI (sNC σ)) (sTH σ)))) ma 0 (nI (sNR σ)) (nI (sNL σ)) (nI (sND σ)) (nI (sNC σ)) (sTH σ) fm fj := MC.put hM 0 _ _ _ _ _
  have hK1 : Keep (mF ma) g (va_up g (ma 0) (some (mOb ma 0 (nI (sNR σ)) (nI (sNL σ)) (nI (sND σ)) (nI (sNC σ)) (sTH σ)))) := Keep.up Keep.rf (Or.inl (mF_i ma 0 (by decide)))
  have hP : hw D vwCl A (va_up g (ma 0) (some (mOb ma 0 (nI (sNR σ)) (nI (sNL σ)) (nI (sND σ)) (nI (sNC σ)) (sTH σ)))) H := hP
  generalize va_up g (ma 0) (some (mOb ma 0 (nI (sNR σ)) (nI (sNL σ)) (nI (sND σ)) (nI (sNC σ)) (sTH σ))) = G at hM1 hK1 hP
  have hX1 : RMx t ma 0 σ G := ⟨fm, fj, hM1, hRr⟩
  have w0 := hM1.1
  have w15 : G (ma 15) = some (arI t 201 (fm 15)) := hM1.2.1 15 (by decide) (by decide)
  refine lv_aload_n hx hb d_M_waive_5 rfl (lv_at hl 0 rfl) ?_
  refine lv_iload_n hx hb d_M_waive_6 rfl (lv_at hl 1 rfl) ?_
  refine k_M_141 X ⟨Nat.le_of_ble_eq_true rfl, Nat.le_of_ble_eq_true rfl⟩ ⟨Nat.le_of_ble_eq_true rfl, Nat.le_of_ble_eq_true rfl⟩ hl.1 hP hS w0 hX1 hV (by exact Nat.le_of_ble_eq_true rfl) d_M_waive_7 (fun r_2 H locs er_2 hP hS => ?_)
  refine lv_if_eq (tgt := 25) hx hb d_M_waive_10 (by decide) (fun c_3 => ?_) (fun c_3 => ?_)
  · have t_2 := bi_0.mp (er_2 ▸ c_3)
    refine lv_ldc2 (v := (-1)) hx hb hown (hts _ (tbm 587 (by decide +kernel))) d_M_waive_25 ?_
    have e9 : spWaive σ x y = (-1, σ) := by simp [spWaive, dbtN_none t_2]
    exact h_lret hx hb hr hlocks (Nat.le_of_ble_eq_true rfl) (Nat.le_of_ble_eq_true rfl) hP hS (⟨by rw [e9], by rw [e9]; exact hX1, hK1⟩) d_M_waive_28
  · have t_2 := bi_n0.mp (er_2 ▸ c_3)
    have hwx := t_2
    obtain ⟨j, hj, rfl⟩ := wi_num (by omega) hwx
    have hdN := dbtN_some hV hj
    obtain ⟨d1, d2, d3, d4, d5, d6⟩ := hR3 j hj
    have hdv := hV.2.2.2.1 j hj
    refine lv_iload_n hx hb d_M_waive_13 rfl (lv_at hl 2 rfl) ?_
    refine lv_i2l hx hb d_M_waive_14 rfl ?_
    refine lv_lconst (v := 0) hx hb d_M_waive_15 (by decide) ?_
    refine lv_ldc2 (v := 100000) hx hb hown (hts _ (tbm 541 (by decide +kernel))) d_M_waive_16 ?_
    refine k_M_81 X ⟨Nat.le_of_ble_eq_true rfl, Nat.le_of_ble_eq_true rfl⟩ ⟨Nat.le_of_ble_eq_true rfl, Nat.le_of_ble_eq_true rfl⟩ hl.1 hP hS (by exact Nat.le_of_ble_eq_true rfl) d_M_waive_19 (fun r_4 H locs er_4 hP hS => ?_)
    refine lv_if_ne (tgt := 29) hx hb d_M_waive_22 (by decide) (fun c_5 => ?_) (fun c_5 => ?_)
    · have t_4 := bi_n0.mp (er_4 ▸ c_5)
      refine lv_aload_n hx hb d_M_waive_29 rfl (lv_at hl 0 rfl) ?_
      refine g_M_53 X hb hP w0 rfl d_M_waive_30 ?_
      refine lv_iload_n hx hb d_M_waive_33 rfl (lv_at hl 1 rfl) ?_
      refine n_iald X hb hP w15 ⟨by omega, by decide⟩ d_M_waive_34 ?_
      refine lv_iload_n hx hb d_M_waive_35 rfl (lv_at hl 2 rfl) ?_
      refine lv_icmp_le (tgt := 43) hx hb d_M_waive_36 (by decide) (fun c_6 => ?_) (fun c_6 => ?_)
      · refine lv_aload_n hx hb d_M_waive_43 rfl (lv_at hl 0 rfl) ?_
        refine g_M_53 X hb hP w0 rfl d_M_waive_44 ?_
        refine lv_iload_n hx hb d_M_waive_47 rfl (lv_at hl 1 rfl) ?_
        refine n_iald X hb hP w15 ⟨by omega, by decide⟩ d_M_waive_48 ?_
        refine lv_topi (fun x_7 ex_7 => ?_)
        refine lv_istore_n (lv' := [(3, .int x_7), (0, .ref (ma 0)), (1, .int (nI (j + 1))), (2, .int y)]) hx hb d_M_waive_49 rfl hl (by decide) rfl (fun ls hl => ?_)
        refine lv_aload_n hx hb d_M_waive_50 rfl (lv_at hl 1 rfl) ?_
        refine g_M_53 X hb hP w0 rfl d_M_waive_51 ?_
        refine lv_iload_n hx hb d_M_waive_54 rfl (lv_at hl 2 rfl) ?_
        refine lv_dup2_11 hx hb d_M_waive_55 rfl rfl ?_
        refine n_iald X hb hP w15 ⟨by omega, by decide⟩ d_M_waive_56 ?_
        refine lv_iload_n hx hb d_M_waive_57 rfl (lv_at hl 0 rfl) ?_
        refine lv_isub hx hb d_M_waive_58 ?_
        refine lv_topi (fun x_8 ex_8 => ?_)
        refine n_iast X hb hP hS w15 ⟨by omega, by decide⟩ d_M_waive_59 (fun H locs hP hS => ?_)
        have he_9 := up_at (o := some (arI t 201 (va_up (fm 15) (j + 1) x_8))) w0 (mne hinj 0 15 (by decide) (by decide) (by decide))
        have he_10 := va_up_self G (ma 15) (some (arI t 201 (va_up (fm 15) (j + 1) x_8) : va_E))
        have hP : hw D vwCl A (va_up G (ma 15) (some (arI t 201 (va_up (fm 15) (j + 1) x_8)))) H := hP
        refine lv_iload_n hx hb d_M_waive_60 rfl (lv_at hl 0 rfl) ?_
        refine lv_i2l hx hb d_M_waive_61 rfl ?_
        have tw1 : wi y 0 100000 = true := by rw [← wl_i]; exact t_4
        have hcmp : lN (sDV σ j).2.2.1 ≤ y.toInt64 ↔ fm 15 (j + 1) ≤ y := by rw [d3, ← nI_l (by omega), Int64.le_iff_toInt_le, Int32.le_iff_toInt_le, Int32.toInt_toInt64, Int32.toInt_toInt64]
        have e9 : spWaive σ (nI (j + 1)) y = (lN (sDV σ j).2.2.1, zeD σ j) := by simp only [spWaive, hdN]; rw [if_pos tw1, if_neg (Int64.not_lt.mpr (hcmp.mpr c_6))]
        exact h_lret hx hb hr hlocks (Nat.le_of_ble_eq_true rfl) (Nat.le_of_ble_eq_true rfl) hP hS (⟨by rw [e9, ex_7, d3, nI_l (by omega)], by rw [e9]; exact ⟨_, _, MC.ai (hM1) 15 ⟨by decide, by decide⟩ (j + 1) x_8, by have h8 := MRel_left hRr j (_, _, 0, _) ⟨rfl, rfl, rfl, rfl⟩; rw [ex_8, ex_7, nI_subs]; exact h8⟩, Keep.up (hK1) (Or.inl (mF_i ma 15 (by decide)))⟩) d_M_waive_62
      · refine lv_iconst (v := 0) hx hb d_M_waive_39 (by decide) ?_
        refine lv_goto (tgt := 49) hx hb d_M_waive_40 (by decide) ?_
        refine lv_istore_n (lv' := [(3, .int 0), (0, .ref (ma 0)), (1, .int (nI (j + 1))), (2, .int y)]) hx hb d_M_waive_49 rfl hl (by decide) rfl (fun ls hl => ?_)
        refine lv_aload_n hx hb d_M_waive_50 rfl (lv_at hl 1 rfl) ?_
        refine g_M_53 X hb hP w0 rfl d_M_waive_51 ?_
        refine lv_iload_n hx hb d_M_waive_54 rfl (lv_at hl 2 rfl) ?_
        refine lv_dup2_11 hx hb d_M_waive_55 rfl rfl ?_
        refine n_iald X hb hP w15 ⟨by omega, by decide⟩ d_M_waive_56 ?_
        refine lv_iload_n hx hb d_M_waive_57 rfl (lv_at hl 0 rfl) ?_
        refine lv_isub hx hb d_M_waive_58 ?_
        refine lv_topi (fun x_11 ex_11 => ?_)
        refine n_iast X hb hP hS w15 ⟨by omega, by decide⟩ d_M_waive_59 (fun H locs hP hS => ?_)
        have he_12 := up_at (o := some (arI t 201 (va_up (fm 15) (j + 1) x_11))) w0 (mne hinj 0 15 (by decide) (by decide) (by decide))
        have he_13 := va_up_self G (ma 15) (some (arI t 201 (va_up (fm 15) (j + 1) x_11) : va_E))
        have hP : hw D vwCl A (va_up G (ma 15) (some (arI t 201 (va_up (fm 15) (j + 1) x_11)))) H := hP
        refine lv_iload_n hx hb d_M_waive_60 rfl (lv_at hl 0 rfl) ?_
        refine lv_i2l hx hb d_M_waive_61 rfl ?_
        have tw1 : wi y 0 100000 = true := by rw [← wl_i]; exact t_4
        have hcmp : lN (sDV σ j).2.2.1 ≤ y.toInt64 ↔ fm 15 (j + 1) ≤ y := by rw [d3, ← nI_l (by omega), Int64.le_iff_toInt_le, Int32.le_iff_toInt_le, Int32.toInt_toInt64, Int32.toInt_toInt64]
        have e9 : spWaive σ (nI (j + 1)) y = (0, σ) := by simp only [spWaive, hdN]; rw [if_pos tw1, if_pos (Int64.not_le.mp (fun q => c_6 (hcmp.mp q)))]
        exact h_lret hx hb hr hlocks (Nat.le_of_ble_eq_true rfl) (Nat.le_of_ble_eq_true rfl) hP hS (⟨by rw [e9]; rfl, by rw [e9, ← stD_id σ j]; exact ⟨_, _, MC.ai (hM1) 15 ⟨by decide, by decide⟩ (j + 1) x_11, by have h8 := MRel_left hRr j (sDV σ j) ⟨rfl, rfl, rfl, rfl⟩; rw [← d3] at h8; rw [ex_11, nI_sub0]; exact h8⟩, Keep.up (hK1) (Or.inl (mF_i ma 15 (by decide)))⟩) d_M_waive_62
    · have t_4 := bi_0.mp (er_4 ▸ c_5)
      refine lv_ldc2 (v := (-1)) hx hb hown (hts _ (tbm 587 (by decide +kernel))) d_M_waive_25 ?_
      have tw1 : wi y 0 100000 = false := by rw [← wl_i]; exact t_4
      have e9 : spWaive σ (nI (j + 1)) y = (-1, σ) := by simp [spWaive, hdN, tw1]
      exact h_lret hx hb hr hlocks (Nat.le_of_ble_eq_true rfl) (Nat.le_of_ble_eq_true rfl) hP hS (⟨by rw [e9], by rw [e9]; exact hX1, hK1⟩) d_M_waive_28
theorem k_W_73 {p : Program} {l : Launch} {e : Env} {R : Room} {s : State} {m : MethodId} {args : Array Value} {below : List Frame} {meth : Method} {c : Code} {H : Heap} {locs : List Loc} {cells slots : Nat} {Q : State → Prop} {cc : ByteArray} {pc : Nat} {ls : Array Slot} {rest : List Value} {D : va_G} {A : Nat → Prop} {t : Nat → ClassId} {g : hG} {nL : Nat} {ret0 : Option FieldType} {nm : String} (X : Cx p s m args meth c R_W cc nL ret0 TB D vwCl (tyL t) EX A nm) (hR : 2 + 1 ≤ R.frames ∧ 8 + (4 + 11) + 46 ≤ R.locals) (hf : cells + 0 ≤ R.cells ∧ slots + 0 ≤ R.slots) (hls : ls.size = nL) (hP : hw D vwCl A g H) (hS : va_S A s.heap H locs) {ma : Nat → Nat} {tv : Int32} {σ : SS} {x y : Int32} {fs9 : List Value} (he9 : g (ma 0) = some (.inr (6, fs9))) (hMx : RMx t ma tv σ g) (hV : Inv σ)  (hW : (rest.map fun v => v.category).sum ≤ 8) (hdg : decode cc pc = .ok (.invokevirtual 73, 3)) (kk : ∀ (r : Int64) (u : hG) (H1 : Heap) (locs1 : List Loc), ((fun r u => r = (spWaive σ x y).1 ∧ RMx t ma 0 (spWaive σ x y).2 u ∧ Keep (mF ma) g u) r u) → hw D vwCl A u H1 → va_S A s.heap H1 locs1 → W p l e R s m args below meth c H1 locs1 (cells + 0) (slots + 0) Q (F0 m (pc + 3) ls (.long r :: rest))) : W p l e R s m args below meth c H locs cells slots Q (F0 m pc ls (.int y :: .int x :: .ref (ma 0) :: rest)) :=
  h_cl (runV (C := R_M) (T := F_M) (N := 26) X (c_M_waive l D t A g ma tv σ x y hMx hV) (tbm 616 (by decide +kernel)) (tbm 617 (by decide +kernel)) (tbm 618 (by decide +kernel)) (tbm 23 (by decide +kernel)) (tbm 619 (by decide +kernel)) rfl (n := 2) (by decide +kernel) hR hf hP he9 hS hls rfl rfl hW hdg) hS kk

set_option maxHeartbeats 4000000 in
set_option maxRecDepth 100000 in
theorem c_M_plan (l : Launch) (D : va_G) (t : Nat → ClassId) (A : Nat → Prop) (g : hG) (ma : Nat → Nat) (tv : Int32) (σ : SS) (x y z : Int32) (hMx : RMx t ma tv σ g) (hV : Inv σ) : Met l y_M_plan (Cond.code y_M_plan b_M_plan 6 (some .long) :: TB) ({ frames := 2, cells := 0, slots := 0, locals := 45 } : Room) (va_Pc [.ref (ma 0), .int x, .int y, .int z] (hI D vwCl (tyL t) EX A g)) (va_Ql (fun r u => r = spPlan σ x y z ∧ RMx t ma 0 σ u ∧ Keep (mF ma) g u) (fun u v => hw D vwCl A u v.heap) A) 0 0 A := by
  refine Met.ofH (cc := b_M_plan) (maxL := 6) (ret := (some .long)) (lv := [(0, .ref (ma 0)), (1, .int x), (2, .int y), (3, .int z)]) (by decide) (Nat.le_of_ble_eq_true rfl) rfl ?_
  intro p e s m below meth c ls X hP hS hl
  obtain ⟨hx, hb, hml, hr, hts, hown, hlocks, hK, hEs, hA, hnm⟩ := id X
  obtain ⟨fm, fj, hM, hR1, hR2, hR3, hR6, hR20, hR11⟩ := id hMx
  have m0 := hM.1
  have hinj := hM.2.2
  have hn1 := hV.1.1
  have hn2 := hV.1.2.1
  have hn3 := hV.1.2.2.1
  have hn4 := hV.1.2.2.2
  have hRr : MRel fm fj σ := ⟨hR1, hR2, hR3, hR6, hR20, hR11⟩
  refine lv_aload_n hx hb d_M_plan_0 rfl (lv_at hl 0 rfl) ?_
  refine lv_iconst (v := 0) hx hb d_M_plan_1 (by decide) ?_
  refine p_M_76 X hb hP hS m0 (Nat.le_of_ble_eq_true rfl) d_M_plan_2 (fun H locs hP hS => ?_)
  have he_1 := va_up_self g (ma 0) (some (.inr (6, [.int 0, .int (nI (sNR σ)), .int (nI (sNL σ)), .int (nI (sND σ)), .int (nI (sNC σ)), .ref (ma 1), .ref (ma 2), .ref (ma 3), .ref (ma 4), .ref (ma 5), .ref (ma 6), .ref (ma 7), .ref (ma 8), .ref (ma 9), .ref (ma 10), .ref (ma 11), .ref (ma 12), .ref (ma 13), .ref (ma 14), .ref (ma 15), .ref (ma 16), .ref (ma 17), .ref (ma 18), .ref (ma 19), .ref (ma 20), .int (sTH σ)]) : va_E))
  have hP : hw D vwCl A (va_up g (ma 0) (some (.inr (6, [.int 0, .int (nI (sNR σ)), .int (nI (sNL σ)), .int (nI (sND σ)), .int (nI (sNC σ)), .ref (ma 1), .ref (ma 2), .ref (ma 3), .ref (ma 4), .ref (ma 5), .ref (ma 6), .ref (ma 7), .ref (ma 8), .ref (ma 9), .ref (ma 10), .ref (ma 11), .ref (ma 12), .ref (ma 13), .ref (ma 14), .ref (ma 15), .ref (ma 16), .ref (ma 17), .ref (ma 18), .ref (ma 19), .ref (ma 20), .int (sTH σ)])))) H := hP
  have hM1 : MC t (va_up g (ma 0) (some (mOb ma 0 (nI (sNR σ)) (nI (sNL σ)) (nI (sND σ)) (nI (sNC σ)) (sTH σ)))) ma 0 (nI (sNR σ)) (nI (sNL σ)) (nI (sND σ)) (nI (sNC σ)) (sTH σ) fm fj := MC.put hM 0 _ _ _ _ _
  have hK1 : Keep (mF ma) g (va_up g (ma 0) (some (mOb ma 0 (nI (sNR σ)) (nI (sNL σ)) (nI (sND σ)) (nI (sNC σ)) (sTH σ)))) := Keep.up Keep.rf (Or.inl (mF_i ma 0 (by decide)))
  have hP : hw D vwCl A (va_up g (ma 0) (some (mOb ma 0 (nI (sNR σ)) (nI (sNL σ)) (nI (sND σ)) (nI (sNC σ)) (sTH σ)))) H := hP
  generalize va_up g (ma 0) (some (mOb ma 0 (nI (sNR σ)) (nI (sNL σ)) (nI (sND σ)) (nI (sNC σ)) (sTH σ))) = G at hM1 hK1 hP
  have hX1 : RMx t ma 0 σ G := ⟨fm, fj, hM1, hRr⟩
  have w0 := hM1.1
  refine lv_iload_n hx hb d_M_plan_5 rfl (lv_at hl 1 rfl) ?_
  refine lv_i2l hx hb d_M_plan_6 rfl ?_
  refine lv_lconst (v := 0) hx hb d_M_plan_7 (by decide) ?_
  refine lv_ldc2 (v := 29) hx hb hown (hts _ (tbm 570 (by decide +kernel))) d_M_plan_8 ?_
  refine k_M_81 X ⟨Nat.le_of_ble_eq_true rfl, Nat.le_of_ble_eq_true rfl⟩ ⟨Nat.le_of_ble_eq_true rfl, Nat.le_of_ble_eq_true rfl⟩ hl.1 hP hS (by exact Nat.le_of_ble_eq_true rfl) d_M_plan_11 (fun r_2 H locs er_2 hP hS => ?_)
  refine lv_if_eq (tgt := 42) hx hb d_M_plan_14 (by decide) (fun c_3 => ?_) (fun c_3 => ?_)
  · have t_2 := bi_0.mp (er_2 ▸ c_3)
    refine lv_lconst (v := 0) hx hb d_M_plan_42 (by decide) ?_
    have tw0 : wi x 0 29 = false := by rw [← wl_i]; exact t_2
    exact h_lret hx hb hr hlocks (Nat.le_of_ble_eq_true rfl) (Nat.le_of_ble_eq_true rfl) hP hS (⟨by simp [spPlan, tw0], hX1, hK1⟩) d_M_plan_43
  · have t_2 := bi_n0.mp (er_2 ▸ c_3)
    refine lv_iload_n hx hb d_M_plan_17 rfl (lv_at hl 2 rfl) ?_
    refine lv_i2l hx hb d_M_plan_18 rfl ?_
    refine lv_lconst (v := 1) hx hb d_M_plan_19 (by decide) ?_
    refine lv_ldc2 (v := 12) hx hb hown (hts _ (tbm 642 (by decide +kernel))) d_M_plan_20 ?_
    refine k_M_81 X ⟨Nat.le_of_ble_eq_true rfl, Nat.le_of_ble_eq_true rfl⟩ ⟨Nat.le_of_ble_eq_true rfl, Nat.le_of_ble_eq_true rfl⟩ hl.1 hP hS (by exact Nat.le_of_ble_eq_true rfl) d_M_plan_23 (fun r_4 H locs er_4 hP hS => ?_)
    refine lv_if_eq (tgt := 42) hx hb d_M_plan_26 (by decide) (fun c_5 => ?_) (fun c_5 => ?_)
    · have t_4 := bi_0.mp (er_4 ▸ c_5)
      refine lv_lconst (v := 0) hx hb d_M_plan_42 (by decide) ?_
      have tw0 : wi x 0 29 = true := by rw [← wl_i]; exact t_2
      have tw1 : wi y 1 12 = false := by rw [← wl_i]; exact t_4
      exact h_lret hx hb hr hlocks (Nat.le_of_ble_eq_true rfl) (Nat.le_of_ble_eq_true rfl) hP hS (⟨by simp [spPlan, tw0, tw1], hX1, hK1⟩) d_M_plan_43
    · have t_4 := bi_n0.mp (er_4 ▸ c_5)
      have twy : wi y 1 12 = true := by rw [← wl_i]; exact t_4
      refine lv_iload_n hx hb d_M_plan_29 rfl (lv_at hl 3 rfl) ?_
      refine lv_i2l hx hb d_M_plan_30 rfl ?_
      refine lv_lconst (v := 0) hx hb d_M_plan_31 (by decide) ?_
      refine lv_iload_n hx hb d_M_plan_32 rfl (lv_at hl 2 rfl) ?_
      refine lv_iconst (v := 1) hx hb d_M_plan_33 (by decide) ?_
      refine lv_isub hx hb d_M_plan_34 ?_
      refine lv_i2l hx hb d_M_plan_35 rfl ?_
      refine k_M_81 X ⟨Nat.le_of_ble_eq_true rfl, Nat.le_of_ble_eq_true rfl⟩ ⟨Nat.le_of_ble_eq_true rfl, Nat.le_of_ble_eq_true rfl⟩ hl.1 hP hS (by exact Nat.le_of_ble_eq_true rfl) d_M_plan_36 (fun r_6 H locs er_6 hP hS => ?_)
      refine lv_if_ne (tgt := 44) hx hb d_M_plan_39 (by decide) (fun c_7 => ?_) (fun c_7 => ?_)
      · have t_6 := bi_n0.mp (er_6 ▸ c_7)
        refine lv_aload_n hx hb d_M_plan_44 rfl (lv_at hl 0 rfl) ?_
        refine lv_iload_n hx hb d_M_plan_45 rfl (lv_at hl 1 rfl) ?_
        refine k_M_148 X ⟨Nat.le_of_ble_eq_true rfl, Nat.le_of_ble_eq_true rfl⟩ ⟨Nat.le_of_ble_eq_true rfl, Nat.le_of_ble_eq_true rfl⟩ hl.1 hP hS w0 hX1 hV (by exact Nat.le_of_ble_eq_true rfl) d_M_plan_46 (fun r_8 H locs er_8 hP hS => ?_)
        refine lv_lstore (lv' := [(4, .long r_8), (0, .ref (ma 0)), (1, .int x), (2, .int y), (3, .int z)]) hx hb d_M_plan_49 hl (by decide) rfl (fun ls hl => ?_)
        refine lv_lload hx hb d_M_plan_51 (lv_at hl 0 rfl) ?_
        refine lv_iload_n hx hb d_M_plan_53 rfl (lv_at hl 3 rfl) ?_
        refine lv_i2l hx hb d_M_plan_54 rfl ?_
        refine lv_ldiv hx hb d_M_plan_55 (pos_ne0 twy) ?_
        refine lv_iload_n hx hb d_M_plan_56 rfl (lv_at hl 4 rfl) ?_
        refine lv_i2l hx hb d_M_plan_57 rfl ?_
        refine lv_lload hx hb d_M_plan_58 (lv_at hl 0 rfl) ?_
        refine lv_iload_n hx hb d_M_plan_60 rfl (lv_at hl 3 rfl) ?_
        refine lv_i2l hx hb d_M_plan_61 rfl ?_
        refine lv_lrem hx hb d_M_plan_62 (pos_ne0 twy) ?_
        refine W.lcmp hx hb d_M_plan_63 ?_
        refine lv_if_ge (tgt := 71) hx hb d_M_plan_64 (by decide) (fun c_9 => ?_) (fun c_9 => ?_)
        · rw [lg_cmp_ge] at c_9
          refine lv_lconst (v := 0) hx hb d_M_plan_71 (by decide) ?_
          refine lv_ladd hx hb d_M_plan_72 ?_
          have tw0 : wi x 0 29 = true := by rw [← wl_i]; exact t_2
          have tw1 : wi y 1 12 = true := by rw [← wl_i]; exact t_4
          have tw2 : wi z 0 (y - 1) = true := by rw [← wl_i]; exact t_6
          exact h_lret hx hb hr hlocks (Nat.le_of_ble_eq_true rfl) (Nat.le_of_ble_eq_true rfl) hP hS (⟨by rw [spPlan, if_pos (by simp [tw0, tw1, tw2]), if_neg (Int64.not_lt.mpr (by rw [er_8] at c_9; exact c_9)), er_8]; simp, hX1, hK1⟩) d_M_plan_73
        · rw [lg_cmp_ge] at c_9
          refine lv_lconst (v := 1) hx hb d_M_plan_67 (by decide) ?_
          refine lv_goto (tgt := 72) hx hb d_M_plan_68 (by decide) ?_
          refine lv_ladd hx hb d_M_plan_72 ?_
          have tw0 : wi x 0 29 = true := by rw [← wl_i]; exact t_2
          have tw1 : wi y 1 12 = true := by rw [← wl_i]; exact t_4
          have tw2 : wi z 0 (y - 1) = true := by rw [← wl_i]; exact t_6
          exact h_lret hx hb hr hlocks (Nat.le_of_ble_eq_true rfl) (Nat.le_of_ble_eq_true rfl) hP hS (⟨by rw [spPlan, if_pos (by simp [tw0, tw1, tw2]), if_pos (by rw [er_8] at c_9; exact Int64.not_le.mp c_9), er_8], hX1, hK1⟩) d_M_plan_73
      · have t_6 := bi_0.mp (er_6 ▸ c_7)
        refine lv_lconst (v := 0) hx hb d_M_plan_42 (by decide) ?_
        have tw0 : wi x 0 29 = true := by rw [← wl_i]; exact t_2
        have tw1 : wi y 1 12 = true := by rw [← wl_i]; exact t_4
        have tw2 : wi z 0 (y - 1) = false := by rw [← wl_i]; exact t_6
        exact h_lret hx hb hr hlocks (Nat.le_of_ble_eq_true rfl) (Nat.le_of_ble_eq_true rfl) hP hS (⟨by simp [spPlan, tw0, tw1, tw2], hX1, hK1⟩) d_M_plan_43
theorem k_W_82 {p : Program} {l : Launch} {e : Env} {R : Room} {s : State} {m : MethodId} {args : Array Value} {below : List Frame} {meth : Method} {c : Code} {H : Heap} {locs : List Loc} {cells slots : Nat} {Q : State → Prop} {cc : ByteArray} {pc : Nat} {ls : Array Slot} {rest : List Value} {D : va_G} {A : Nat → Prop} {t : Nat → ClassId} {g : hG} {nL : Nat} {ret0 : Option FieldType} {nm : String} (X : Cx p s m args meth c R_W cc nL ret0 TB D vwCl (tyL t) EX A nm) (hR : 2 + 1 ≤ R.frames ∧ 8 + (6 + 11) + 45 ≤ R.locals) (hf : cells + 0 ≤ R.cells ∧ slots + 0 ≤ R.slots) (hls : ls.size = nL) (hP : hw D vwCl A g H) (hS : va_S A s.heap H locs) {ma : Nat → Nat} {tv : Int32} {σ : SS} {x y z : Int32} {fs9 : List Value} (he9 : g (ma 0) = some (.inr (6, fs9))) (hMx : RMx t ma tv σ g) (hV : Inv σ)  (hW : (rest.map fun v => v.category).sum ≤ 8) (hdg : decode cc pc = .ok (.invokevirtual 82, 3)) (kk : ∀ (r : Int64) (u : hG) (H1 : Heap) (locs1 : List Loc), ((fun r u => r = spPlan σ x y z ∧ RMx t ma 0 σ u ∧ Keep (mF ma) g u) r u) → hw D vwCl A u H1 → va_S A s.heap H1 locs1 → W p l e R s m args below meth c H1 locs1 (cells + 0) (slots + 0) Q (F0 m (pc + 3) ls (.long r :: rest))) : W p l e R s m args below meth c H locs cells slots Q (F0 m pc ls (.int z :: .int y :: .int x :: .ref (ma 0) :: rest)) :=
  h_cl (runV (C := R_M) (T := F_M) (N := 26) X (c_M_plan l D t A g ma tv σ x y z hMx hV) (tbm 638 (by decide +kernel)) (tbm 639 (by decide +kernel)) (tbm 640 (by decide +kernel)) (tbm 23 (by decide +kernel)) (tbm 641 (by decide +kernel)) rfl (n := 3) (by decide +kernel) hR hf hP he9 hS hls rfl rfl hW hdg) hS kk

set_option maxHeartbeats 4000000 in
set_option maxRecDepth 100000 in
theorem c_M_blocked (l : Launch) (D : va_G) (t : Nat → ClassId) (A : Nat → Prop) (g : hG) (ma : Nat → Nat) (tv : Int32) (σ : SS) (x : Int32) (hMx : RMx t ma tv σ g) (hV : Inv σ) : Met l y_M_blocked (Cond.code y_M_blocked b_M_blocked 2 (some .boolean) :: TB) ({ frames := 2, cells := 0, slots := 0, locals := 45 } : Room) (va_Pc [.ref (ma 0), .int x] (hI D vwCl (tyL t) EX A g)) (va_Qi (fun r u => r = bi (spBlk σ x) ∧ RMx t ma 0 σ u ∧ Keep (mF ma) g u) (fun u v => hw D vwCl A u v.heap) A) 0 0 A := by
  refine Met.ofH (cc := b_M_blocked) (maxL := 2) (ret := (some .boolean)) (lv := [(0, .ref (ma 0)), (1, .int x)]) (by decide) (Nat.le_of_ble_eq_true rfl) rfl ?_
  intro p e s m below meth c ls X hP hS hl
  obtain ⟨hx, hb, hml, hr, hts, hown, hlocks, hK, hEs, hA, hnm⟩ := id X
  obtain ⟨fm, fj, hM, hR1, hR2, hR3, hR6, hR20, hR11⟩ := id hMx
  have m0 := hM.1
  have hinj := hM.2.2
  have hn1 := hV.1.1
  have hn2 := hV.1.2.1
  have hn3 := hV.1.2.2.1
  have hn4 := hV.1.2.2.2
  have hRr : MRel fm fj σ := ⟨hR1, hR2, hR3, hR6, hR20, hR11⟩
  refine lv_aload_n hx hb d_M_blocked_0 rfl (lv_at hl 0 rfl) ?_
  refine lv_iconst (v := 0) hx hb d_M_blocked_1 (by decide) ?_
  refine p_M_76 X hb hP hS m0 (Nat.le_of_ble_eq_true rfl) d_M_blocked_2 (fun H locs hP hS => ?_)
  have he_1 := va_up_self g (ma 0) (some (.inr (6, [.int 0, .int (nI (sNR σ)), .int (nI (sNL σ)), .int (nI (sND σ)), .int (nI (sNC σ)), .ref (ma 1), .ref (ma 2), .ref (ma 3), .ref (ma 4), .ref (ma 5), .ref (ma 6), .ref (ma 7), .ref (ma 8), .ref (ma 9), .ref (ma 10), .ref (ma 11), .ref (ma 12), .ref (ma 13), .ref (ma 14), .ref (ma 15), .ref (ma 16), .ref (ma 17), .ref (ma 18), .ref (ma 19), .ref (ma 20), .int (sTH σ)]) : va_E))
  have hP : hw D vwCl A (va_up g (ma 0) (some (.inr (6, [.int 0, .int (nI (sNR σ)), .int (nI (sNL σ)), .int (nI (sND σ)), .int (nI (sNC σ)), .ref (ma 1), .ref (ma 2), .ref (ma 3), .ref (ma 4), .ref (ma 5), .ref (ma 6), .ref (ma 7), .ref (ma 8), .ref (ma 9), .ref (ma 10), .ref (ma 11), .ref (ma 12), .ref (ma 13), .ref (ma 14), .ref (ma 15), .ref (ma 16), .ref (ma 17), .ref (ma 18), .ref (ma 19), .ref (ma 20), .int (sTH σ)])))) H := hP
  have hM1 : MC t (va_up g (ma 0) (some (mOb ma 0 (nI (sNR σ)) (nI (sNL σ)) (nI (sND σ)) (nI (sNC σ)) (sTH σ)))) ma 0 (nI (sNR σ)) (nI (sNL σ)) (nI (sND σ)) (nI (sNC σ)) (sTH σ) fm fj := MC.put hM 0 _ _ _ _ _
  have hK1 : Keep (mF ma) g (va_up g (ma 0) (some (mOb ma 0 (nI (sNR σ)) (nI (sNL σ)) (nI (sND σ)) (nI (sNC σ)) (sTH σ)))) := Keep.up Keep.rf (Or.inl (mF_i ma 0 (by decide)))
  have hP : hw D vwCl A (va_up g (ma 0) (some (mOb ma 0 (nI (sNR σ)) (nI (sNL σ)) (nI (sND σ)) (nI (sNC σ)) (sTH σ)))) H := hP
  generalize va_up g (ma 0) (some (mOb ma 0 (nI (sNR σ)) (nI (sNL σ)) (nI (sND σ)) (nI (sNC σ)) (sTH σ))) = G at hM1 hK1 hP
  have hX1 : RMx t ma 0 σ G := ⟨fm, fj, hM1, hRr⟩
  have w0 := hM1.1
  have w20 : G (ma 20) = some (arJ t 30 (fj 20)) := hM1.2.1 20 (by decide) (by decide)
  refine lv_iload_n hx hb d_M_blocked_5 rfl (lv_at hl 1 rfl) ?_
  refine lv_i2l hx hb d_M_blocked_6 rfl ?_
  refine lv_lconst (v := 0) hx hb d_M_blocked_7 (by decide) ?_
  refine lv_ldc2 (v := 29) hx hb hown (hts _ (tbm 570 (by decide +kernel))) d_M_blocked_8 ?_
  refine k_M_81 X ⟨Nat.le_of_ble_eq_true rfl, Nat.le_of_ble_eq_true rfl⟩ ⟨Nat.le_of_ble_eq_true rfl, Nat.le_of_ble_eq_true rfl⟩ hl.1 hP hS (by exact Nat.le_of_ble_eq_true rfl) d_M_blocked_11 (fun r_2 H locs er_2 hP hS => ?_)
  refine lv_if_eq (tgt := 42) hx hb d_M_blocked_14 (by decide) (fun c_3 => ?_) (fun c_3 => ?_)
  · have t_2 := bi_0.mp (er_2 ▸ c_3)
    refine lv_iconst (v := 0) hx hb d_M_blocked_42 (by decide) ?_
    have tw0 : wi x 0 29 = false := by rw [← wl_i]; exact t_2
    exact h_zret hx hb hr hlocks (rfl) (Nat.le_of_ble_eq_true rfl) (Nat.le_of_ble_eq_true rfl) hP hS (⟨by simp [spBlk, bi, tw0], hX1, hK1⟩) d_M_blocked_43
  · have t_2 := bi_n0.mp (er_2 ▸ c_3)
    have hwx : wi x 0 29 = true := by rw [← wl_i]; exact t_2
    obtain ⟨j, hj, rfl⟩ := wi_pl (n := 29) rfl (by decide) hwx
    refine lv_aload_n hx hb d_M_blocked_17 rfl (lv_at hl 0 rfl) ?_
    refine lv_iload_n hx hb d_M_blocked_18 rfl (lv_at hl 1 rfl) ?_
    refine k_M_148 X ⟨Nat.le_of_ble_eq_true rfl, Nat.le_of_ble_eq_true rfl⟩ ⟨Nat.le_of_ble_eq_true rfl, Nat.le_of_ble_eq_true rfl⟩ hl.1 hP hS w0 hX1 hV (by exact Nat.le_of_ble_eq_true rfl) d_M_blocked_19 (fun r_4 H locs er_4 hP hS => ?_)
    refine lv_aload_n hx hb d_M_blocked_22 rfl (lv_at hl 0 rfl) ?_
    refine g_M_69 X hb hP w0 rfl d_M_blocked_23 ?_
    refine lv_iload_n hx hb d_M_blocked_26 rfl (lv_at hl 1 rfl) ?_
    refine n_lald X hb hP w20 ⟨hj, by decide⟩ d_M_blocked_27 ?_
    refine lv_lsub hx hb d_M_blocked_28 ?_
    refine lv_aload_n hx hb d_M_blocked_29 rfl (lv_at hl 0 rfl) ?_
    refine g_M_72 X hb hP w0 rfl d_M_blocked_30 ?_
    refine lv_i2l hx hb d_M_blocked_33 rfl ?_
    refine W.lcmp hx hb d_M_blocked_34 ?_
    refine lv_if_lt (tgt := 42) hx hb d_M_blocked_35 (by decide) (fun c_5 => ?_) (fun c_5 => ?_)
    · rw [lg_cmp_lt] at c_5
      refine lv_iconst (v := 0) hx hb d_M_blocked_42 (by decide) ?_
      have hbal : balS σ (nI j) = sumL σ (nI j) (sND σ) - fj 20 j := by rw [balS, nI_k0 (by omega), hR20]
      exact h_zret hx hb hr hlocks (rfl) (Nat.le_of_ble_eq_true rfl) (Nat.le_of_ble_eq_true rfl) hP hS (⟨by rw [er_4, ← hbal] at c_5; simp [spBlk, bi, hwx, Int64.not_le.mpr c_5], hX1, hK1⟩) d_M_blocked_43
    · rw [lg_cmp_lt] at c_5
      refine lv_iconst (v := 1) hx hb d_M_blocked_38 (by decide) ?_
      refine lv_goto (tgt := 43) hx hb d_M_blocked_39 (by decide) ?_
      have hbal : balS σ (nI j) = sumL σ (nI j) (sND σ) - fj 20 j := by rw [balS, nI_k0 (by omega), hR20]
      exact h_zret hx hb hr hlocks (rfl) (Nat.le_of_ble_eq_true rfl) (Nat.le_of_ble_eq_true rfl) hP hS (⟨by rw [er_4, ← hbal] at c_5; simp [spBlk, bi, hwx, Int64.not_lt.mp c_5], hX1, hK1⟩) d_M_blocked_43
theorem k_W_92 {p : Program} {l : Launch} {e : Env} {R : Room} {s : State} {m : MethodId} {args : Array Value} {below : List Frame} {meth : Method} {c : Code} {H : Heap} {locs : List Loc} {cells slots : Nat} {Q : State → Prop} {cc : ByteArray} {pc : Nat} {ls : Array Slot} {rest : List Value} {D : va_G} {A : Nat → Prop} {t : Nat → ClassId} {g : hG} {nL : Nat} {ret0 : Option FieldType} {nm : String} (X : Cx p s m args meth c R_W cc nL ret0 TB D vwCl (tyL t) EX A nm) (hR : 2 + 1 ≤ R.frames ∧ 8 + (2 + 11) + 45 ≤ R.locals) (hf : cells + 0 ≤ R.cells ∧ slots + 0 ≤ R.slots) (hls : ls.size = nL) (hP : hw D vwCl A g H) (hS : va_S A s.heap H locs) {ma : Nat → Nat} {tv : Int32} {σ : SS} {x : Int32} {fs9 : List Value} (he9 : g (ma 0) = some (.inr (6, fs9))) (hMx : RMx t ma tv σ g) (hV : Inv σ)  (hW : (rest.map fun v => v.category).sum ≤ 8) (hdg : decode cc pc = .ok (.invokevirtual 92, 3)) (kk : ∀ (r : Int32) (u : hG) (H1 : Heap) (locs1 : List Loc), ((fun r u => r = bi (spBlk σ x) ∧ RMx t ma 0 σ u ∧ Keep (mF ma) g u) r u) → hw D vwCl A u H1 → va_S A s.heap H1 locs1 → W p l e R s m args below meth c H1 locs1 (cells + 0) (slots + 0) Q (F0 m (pc + 3) ls (.int r :: rest))) : W p l e R s m args below meth c H locs cells slots Q (F0 m pc ls (.int x :: .ref (ma 0) :: rest)) :=
  h_ci (runV (C := R_M) (T := F_M) (N := 26) X (c_M_blocked l D t A g ma tv σ x hMx hV) (tbm 647 (by decide +kernel)) (tbm 648 (by decide +kernel)) (tbm 649 (by decide +kernel)) (tbm 23 (by decide +kernel)) (tbm 650 (by decide +kernel)) rfl (n := 1) (by decide +kernel) hR hf hP he9 hS hls rfl rfl hW hdg) hS kk

set_option maxHeartbeats 4000000 in
set_option maxRecDepth 100000 in
theorem c_M_share (l : Launch) (D : va_G) (t : Nat → ClassId) (A : Nat → Prop) (g : hG) (ma : Nat → Nat) (tv : Int32) (σ : SS) (x y z : Int32) (hMx : RMx t ma tv σ g) (hV : Inv σ) : Met l y_M_share (Cond.code y_M_share b_M_share 4 (some .long) :: TB) ({ frames := 2, cells := 0, slots := 0, locals := 46 } : Room) (va_Pc [.ref (ma 0), .int x, .int y, .int z] (hI D vwCl (tyL t) EX A g)) (va_Ql (fun r u => r = spShare σ x y z ∧ RMx t ma 0 σ u ∧ Keep (mF ma) g u) (fun u v => hw D vwCl A u v.heap) A) 0 0 A := by
  refine Met.ofH (cc := b_M_share) (maxL := 4) (ret := (some .long)) (lv := [(0, .ref (ma 0)), (1, .int x), (2, .int y), (3, .int z)]) (by decide) (Nat.le_of_ble_eq_true rfl) rfl ?_
  intro p e s m below meth c ls X hP hS hl
  obtain ⟨hx, hb, hml, hr, hts, hown, hlocks, hK, hEs, hA, hnm⟩ := id X
  obtain ⟨fm, fj, hM, hR1, hR2, hR3, hR6, hR20, hR11⟩ := id hMx
  have m0 := hM.1
  have hinj := hM.2.2
  have hn1 := hV.1.1
  have hn2 := hV.1.2.1
  have hn3 := hV.1.2.2.1
  have hn4 := hV.1.2.2.2
  have hRr : MRel fm fj σ := ⟨hR1, hR2, hR3, hR6, hR20, hR11⟩
  refine lv_aload_n hx hb d_M_share_0 rfl (lv_at hl 0 rfl) ?_
  refine lv_iconst (v := 0) hx hb d_M_share_1 (by decide) ?_
  refine p_M_76 X hb hP hS m0 (Nat.le_of_ble_eq_true rfl) d_M_share_2 (fun H locs hP hS => ?_)
  have he_1 := va_up_self g (ma 0) (some (.inr (6, [.int 0, .int (nI (sNR σ)), .int (nI (sNL σ)), .int (nI (sND σ)), .int (nI (sNC σ)), .ref (ma 1), .ref (ma 2), .ref (ma 3), .ref (ma 4), .ref (ma 5), .ref (ma 6), .ref (ma 7), .ref (ma 8), .ref (ma 9), .ref (ma 10), .ref (ma 11), .ref (ma 12), .ref (ma 13), .ref (ma 14), .ref (ma 15), .ref (ma 16), .ref (ma 17), .ref (ma 18), .ref (ma 19), .ref (ma 20), .int (sTH σ)]) : va_E))
  have hP : hw D vwCl A (va_up g (ma 0) (some (.inr (6, [.int 0, .int (nI (sNR σ)), .int (nI (sNL σ)), .int (nI (sND σ)), .int (nI (sNC σ)), .ref (ma 1), .ref (ma 2), .ref (ma 3), .ref (ma 4), .ref (ma 5), .ref (ma 6), .ref (ma 7), .ref (ma 8), .ref (ma 9), .ref (ma 10), .ref (ma 11), .ref (ma 12), .ref (ma 13), .ref (ma 14), .ref (ma 15), .ref (ma 16), .ref (ma 17), .ref (ma 18), .ref (ma 19), .ref (ma 20), .int (sTH σ)])))) H := hP
  have hM1 : MC t (va_up g (ma 0) (some (mOb ma 0 (nI (sNR σ)) (nI (sNL σ)) (nI (sND σ)) (nI (sNC σ)) (sTH σ)))) ma 0 (nI (sNR σ)) (nI (sNL σ)) (nI (sND σ)) (nI (sNC σ)) (sTH σ) fm fj := MC.put hM 0 _ _ _ _ _
  have hK1 : Keep (mF ma) g (va_up g (ma 0) (some (mOb ma 0 (nI (sNR σ)) (nI (sNL σ)) (nI (sND σ)) (nI (sNC σ)) (sTH σ)))) := Keep.up Keep.rf (Or.inl (mF_i ma 0 (by decide)))
  have hP : hw D vwCl A (va_up g (ma 0) (some (mOb ma 0 (nI (sNR σ)) (nI (sNL σ)) (nI (sND σ)) (nI (sNC σ)) (sTH σ)))) H := hP
  generalize va_up g (ma 0) (some (mOb ma 0 (nI (sNR σ)) (nI (sNL σ)) (nI (sND σ)) (nI (sNC σ)) (sTH σ))) = G at hM1 hK1 hP
  have hX1 : RMx t ma 0 σ G := ⟨fm, fj, hM1, hRr⟩
  have w0 := hM1.1
  have w14 : G (ma 14) = some (arI t 201 (fm 14)) := hM1.2.1 14 (by decide) (by decide)
  refine lv_aload_n hx hb d_M_share_5 rfl (lv_at hl 0 rfl) ?_
  refine lv_iload_n hx hb d_M_share_6 rfl (lv_at hl 1 rfl) ?_
  refine k_M_141 X ⟨Nat.le_of_ble_eq_true rfl, Nat.le_of_ble_eq_true rfl⟩ ⟨Nat.le_of_ble_eq_true rfl, Nat.le_of_ble_eq_true rfl⟩ hl.1 hP hS w0 hX1 hV (by exact Nat.le_of_ble_eq_true rfl) d_M_share_7 (fun r_2 H locs er_2 hP hS => ?_)
  refine lv_if_eq (tgt := 58) hx hb d_M_share_10 (by decide) (fun c_3 => ?_) (fun c_3 => ?_)
  · have t_2 := bi_0.mp (er_2 ▸ c_3)
    refine lv_ldc2 (v := (-1)) hx hb hown (hts _ (tbm 587 (by decide +kernel))) d_M_share_58 ?_
    exact h_lret hx hb hr hlocks (Nat.le_of_ble_eq_true rfl) (Nat.le_of_ble_eq_true rfl) hP hS (⟨by simp [spShare, dbtN_none t_2], hX1, hK1⟩) d_M_share_61
  · have t_2 := bi_n0.mp (er_2 ▸ c_3)
    have hwx := t_2
    obtain ⟨j, hj, rfl⟩ := wi_num (by omega) hwx
    have hdN := dbtN_some hV hj
    obtain ⟨d1, d2, d3, d4, d5, d6⟩ := hR3 j hj
    have hdv := hV.2.2.2.1 j hj
    refine lv_iload_n hx hb d_M_share_13 rfl (lv_at hl 2 rfl) ?_
    refine lv_i2l hx hb d_M_share_14 rfl ?_
    refine lv_lconst (v := 1) hx hb d_M_share_15 (by decide) ?_
    refine lv_ldc2 (v := 1000) hx hb hown (hts _ (tbm 551 (by decide +kernel))) d_M_share_16 ?_
    refine k_M_81 X ⟨Nat.le_of_ble_eq_true rfl, Nat.le_of_ble_eq_true rfl⟩ ⟨Nat.le_of_ble_eq_true rfl, Nat.le_of_ble_eq_true rfl⟩ hl.1 hP hS (by exact Nat.le_of_ble_eq_true rfl) d_M_share_19 (fun r_4 H locs er_4 hP hS => ?_)
    refine lv_if_eq (tgt := 58) hx hb d_M_share_22 (by decide) (fun c_5 => ?_) (fun c_5 => ?_)
    · have t_4 := bi_0.mp (er_4 ▸ c_5)
      refine lv_ldc2 (v := (-1)) hx hb hown (hts _ (tbm 587 (by decide +kernel))) d_M_share_58 ?_
      have tw1 : wi y 1 1000 = false := by rw [← wl_i]; exact t_4
      exact h_lret hx hb hr hlocks (Nat.le_of_ble_eq_true rfl) (Nat.le_of_ble_eq_true rfl) hP hS (⟨by simp only [spShare, hdN, sh_n tw1]; rfl, hX1, hK1⟩) d_M_share_61
    · have t_4 := bi_n0.mp (er_4 ▸ c_5)
      refine lv_iload_n hx hb d_M_share_25 rfl (lv_at hl 3 rfl) ?_
      refine lv_i2l hx hb d_M_share_26 rfl ?_
      refine lv_lconst (v := 1) hx hb d_M_share_27 (by decide) ?_
      refine lv_ldc2 (v := 1000) hx hb hown (hts _ (tbm 551 (by decide +kernel))) d_M_share_28 ?_
      refine k_M_81 X ⟨Nat.le_of_ble_eq_true rfl, Nat.le_of_ble_eq_true rfl⟩ ⟨Nat.le_of_ble_eq_true rfl, Nat.le_of_ble_eq_true rfl⟩ hl.1 hP hS (by exact Nat.le_of_ble_eq_true rfl) d_M_share_31 (fun r_6 H locs er_6 hP hS => ?_)
      refine lv_if_eq (tgt := 58) hx hb d_M_share_34 (by decide) (fun c_7 => ?_) (fun c_7 => ?_)
      · have t_6 := bi_0.mp (er_6 ▸ c_7)
        refine lv_ldc2 (v := (-1)) hx hb hown (hts _ (tbm 587 (by decide +kernel))) d_M_share_58 ?_
        have tw2 : wi z 1 1000 = false := by rw [← wl_i]; exact t_6
        exact h_lret hx hb hr hlocks (Nat.le_of_ble_eq_true rfl) (Nat.le_of_ble_eq_true rfl) hP hS (⟨by simp only [spShare, hdN, tw2]; rfl, hX1, hK1⟩) d_M_share_61
      · have t_6 := bi_n0.mp (er_6 ▸ c_7)
        have twz : wi z 1 1000 = true := by rw [← wl_i]; exact t_6
        refine lv_iload_n hx hb d_M_share_37 rfl (lv_at hl 2 rfl) ?_
        refine lv_iload_n hx hb d_M_share_38 rfl (lv_at hl 3 rfl) ?_
        refine lv_icmp_gt (tgt := 58) hx hb d_M_share_39 (by decide) (fun c_8 => ?_) (fun c_8 => ?_)
        · refine lv_ldc2 (v := (-1)) hx hb hown (hts _ (tbm 587 (by decide +kernel))) d_M_share_58 ?_
          exact h_lret hx hb hr hlocks (Nat.le_of_ble_eq_true rfl) (Nat.le_of_ble_eq_true rfl) hP hS (⟨by simp only [spShare, hdN, wi_f2 c_8, Bool.and_false]; rfl, hX1, hK1⟩) d_M_share_61
        · refine lv_aload_n hx hb d_M_share_42 rfl (lv_at hl 0 rfl) ?_
          refine g_M_50 X hb hP w0 rfl d_M_share_43 ?_
          refine lv_iload_n hx hb d_M_share_46 rfl (lv_at hl 1 rfl) ?_
          refine n_iald X hb hP w14 ⟨by omega, by decide⟩ d_M_share_47 ?_
          refine lv_i2l hx hb d_M_share_48 rfl ?_
          refine lv_iload_n hx hb d_M_share_49 rfl (lv_at hl 2 rfl) ?_
          refine lv_i2l hx hb d_M_share_50 rfl ?_
          refine lv_lmul hx hb d_M_share_51 ?_
          refine lv_iload_n hx hb d_M_share_52 rfl (lv_at hl 3 rfl) ?_
          refine lv_i2l hx hb d_M_share_53 rfl ?_
          refine lv_ldiv hx hb d_M_share_54 (pos_ne0 twz) ?_
          refine lv_goto (tgt := 61) hx hb d_M_share_55 (by decide) ?_
          have tw1 : wi y 1 1000 = true := by rw [← wl_i]; exact t_4
          have tw2 : wi z 1 1000 = true := by rw [← wl_i]; exact t_6
          exact h_lret hx hb hr hlocks (Nat.le_of_ble_eq_true rfl) (Nat.le_of_ble_eq_true rfl) hP hS (⟨by simp only [spShare, hdN]; rw [if_pos (by rw [tw2, wi_t (wi_iff.mp tw1).1 (Int32.not_lt.mp c_8)]; rfl), d2, nI_l (by omega)], hX1, hK1⟩) d_M_share_61
theorem k_W_100 {p : Program} {l : Launch} {e : Env} {R : Room} {s : State} {m : MethodId} {args : Array Value} {below : List Frame} {meth : Method} {c : Code} {H : Heap} {locs : List Loc} {cells slots : Nat} {Q : State → Prop} {cc : ByteArray} {pc : Nat} {ls : Array Slot} {rest : List Value} {D : va_G} {A : Nat → Prop} {t : Nat → ClassId} {g : hG} {nL : Nat} {ret0 : Option FieldType} {nm : String} (X : Cx p s m args meth c R_W cc nL ret0 TB D vwCl (tyL t) EX A nm) (hR : 2 + 1 ≤ R.frames ∧ 8 + (4 + 11) + 46 ≤ R.locals) (hf : cells + 0 ≤ R.cells ∧ slots + 0 ≤ R.slots) (hls : ls.size = nL) (hP : hw D vwCl A g H) (hS : va_S A s.heap H locs) {ma : Nat → Nat} {tv : Int32} {σ : SS} {x y z : Int32} {fs9 : List Value} (he9 : g (ma 0) = some (.inr (6, fs9))) (hMx : RMx t ma tv σ g) (hV : Inv σ)  (hW : (rest.map fun v => v.category).sum ≤ 8) (hdg : decode cc pc = .ok (.invokevirtual 100, 3)) (kk : ∀ (r : Int64) (u : hG) (H1 : Heap) (locs1 : List Loc), ((fun r u => r = spShare σ x y z ∧ RMx t ma 0 σ u ∧ Keep (mF ma) g u) r u) → hw D vwCl A u H1 → va_S A s.heap H1 locs1 → W p l e R s m args below meth c H1 locs1 (cells + 0) (slots + 0) Q (F0 m (pc + 3) ls (.long r :: rest))) : W p l e R s m args below meth c H locs cells slots Q (F0 m pc ls (.int z :: .int y :: .int x :: .ref (ma 0) :: rest)) :=
  h_cl (runV (C := R_M) (T := F_M) (N := 26) X (c_M_share l D t A g ma tv σ x y z hMx hV) (tbm 655 (by decide +kernel)) (tbm 656 (by decide +kernel)) (tbm 657 (by decide +kernel)) (tbm 23 (by decide +kernel)) (tbm 658 (by decide +kernel)) rfl (n := 3) (by decide +kernel) hR hf hP he9 hS hls rfl rfl hW hdg) hS kk

set_option maxHeartbeats 4000000 in
set_option maxRecDepth 100000 in
theorem c_M_debt (l : Launch) (D : va_G) (t : Nat → ClassId) (A : Nat → Prop) (g : hG) (ma : Nat → Nat) (tv : Int32) (σ : SS) (x y : Int32) (hMx : RMx t ma tv σ g) (hV : Inv σ) : Met l y_M_debt (Cond.code y_M_debt b_M_debt 3 (some .long) :: TB) ({ frames := 2, cells := 0, slots := 0, locals := 46 } : Room) (va_Pc [.ref (ma 0), .int x, .int y] (hI D vwCl (tyL t) EX A g)) (va_Ql (fun r u => r = spDebt σ x y ∧ RMx t ma 0 σ u ∧ Keep (mF ma) g u) (fun u v => hw D vwCl A u v.heap) A) 0 0 A := by
  refine Met.ofH (cc := b_M_debt) (maxL := 3) (ret := (some .long)) (lv := [(0, .ref (ma 0)), (1, .int x), (2, .int y)]) (by decide) (Nat.le_of_ble_eq_true rfl) rfl ?_
  intro p e s m below meth c ls X hP hS hl
  obtain ⟨hx, hb, hml, hr, hts, hown, hlocks, hK, hEs, hA, hnm⟩ := id X
  obtain ⟨fm, fj, hM, hR1, hR2, hR3, hR6, hR20, hR11⟩ := id hMx
  have m0 := hM.1
  have hinj := hM.2.2
  have hn1 := hV.1.1
  have hn2 := hV.1.2.1
  have hn3 := hV.1.2.2.1
  have hn4 := hV.1.2.2.2
  have hRr : MRel fm fj σ := ⟨hR1, hR2, hR3, hR6, hR20, hR11⟩
  refine lv_aload_n hx hb d_M_debt_0 rfl (lv_at hl 0 rfl) ?_
  refine lv_iconst (v := 0) hx hb d_M_debt_1 (by decide) ?_
  refine p_M_76 X hb hP hS m0 (Nat.le_of_ble_eq_true rfl) d_M_debt_2 (fun H locs hP hS => ?_)
  have he_1 := va_up_self g (ma 0) (some (.inr (6, [.int 0, .int (nI (sNR σ)), .int (nI (sNL σ)), .int (nI (sND σ)), .int (nI (sNC σ)), .ref (ma 1), .ref (ma 2), .ref (ma 3), .ref (ma 4), .ref (ma 5), .ref (ma 6), .ref (ma 7), .ref (ma 8), .ref (ma 9), .ref (ma 10), .ref (ma 11), .ref (ma 12), .ref (ma 13), .ref (ma 14), .ref (ma 15), .ref (ma 16), .ref (ma 17), .ref (ma 18), .ref (ma 19), .ref (ma 20), .int (sTH σ)]) : va_E))
  have hP : hw D vwCl A (va_up g (ma 0) (some (.inr (6, [.int 0, .int (nI (sNR σ)), .int (nI (sNL σ)), .int (nI (sND σ)), .int (nI (sNC σ)), .ref (ma 1), .ref (ma 2), .ref (ma 3), .ref (ma 4), .ref (ma 5), .ref (ma 6), .ref (ma 7), .ref (ma 8), .ref (ma 9), .ref (ma 10), .ref (ma 11), .ref (ma 12), .ref (ma 13), .ref (ma 14), .ref (ma 15), .ref (ma 16), .ref (ma 17), .ref (ma 18), .ref (ma 19), .ref (ma 20), .int (sTH σ)])))) H := hP
  have hM1 : MC t (va_up g (ma 0) (some (mOb ma 0 (nI (sNR σ)) (nI (sNL σ)) (nI (sND σ)) (nI (sNC σ)) (sTH σ)))) ma 0 (nI (sNR σ)) (nI (sNL σ)) (nI (sND σ)) (nI (sNC σ)) (sTH σ) fm fj := MC.put hM 0 _ _ _ _ _
  have hK1 : Keep (mF ma) g (va_up g (ma 0) (some (mOb ma 0 (nI (sNR σ)) (nI (sNL σ)) (nI (sND σ)) (nI (sNC σ)) (sTH σ)))) := Keep.up Keep.rf (Or.inl (mF_i ma 0 (by decide)))
  have hP : hw D vwCl A (va_up g (ma 0) (some (mOb ma 0 (nI (sNR σ)) (nI (sNL σ)) (nI (sND σ)) (nI (sNC σ)) (sTH σ)))) H := hP
  generalize va_up g (ma 0) (some (mOb ma 0 (nI (sNR σ)) (nI (sNL σ)) (nI (sND σ)) (nI (sNC σ)) (sTH σ))) = G at hM1 hK1 hP
  have hX1 : RMx t ma 0 σ G := ⟨fm, fj, hM1, hRr⟩
  have w0 := hM1.1
  have w14 : G (ma 14) = some (arI t 201 (fm 14)) := hM1.2.1 14 (by decide) (by decide)
  have w15 : G (ma 15) = some (arI t 201 (fm 15)) := hM1.2.1 15 (by decide) (by decide)
  have w17 : G (ma 17) = some (arI t 201 (fm 17)) := hM1.2.1 17 (by decide) (by decide)
  have w18 : G (ma 18) = some (arJ t 201 (fj 18)) := hM1.2.1 18 (by decide) (by decide)
  refine lv_aload_n hx hb d_M_debt_5 rfl (lv_at hl 0 rfl) ?_
  refine lv_iload_n hx hb d_M_debt_6 rfl (lv_at hl 1 rfl) ?_
  refine k_M_141 X ⟨Nat.le_of_ble_eq_true rfl, Nat.le_of_ble_eq_true rfl⟩ ⟨Nat.le_of_ble_eq_true rfl, Nat.le_of_ble_eq_true rfl⟩ hl.1 hP hS w0 hX1 hV (by exact Nat.le_of_ble_eq_true rfl) d_M_debt_7 (fun r_2 H locs er_2 hP hS => ?_)
  refine lv_if_ne (tgt := 17) hx hb d_M_debt_10 (by decide) (fun c_3 => ?_) (fun c_3 => ?_)
  · have t_2 := bi_n0.mp (er_2 ▸ c_3)
    have hwx := t_2
    obtain ⟨j, hj, rfl⟩ := wi_num (by omega) hwx
    have hdN := dbtN_some hV hj
    obtain ⟨d1, d2, d3, d4, d5, d6⟩ := hR3 j hj
    have hdv := hV.2.2.2.1 j hj
    refine lv_iload_n hx hb d_M_debt_17 rfl (lv_at hl 2 rfl) ?_
    by_cases s_4 : y = 0
    · subst s_4
      refine lv_tableIn (off := 38) (tgt := 56) hx hb d_M_debt_18 (by decide) (by decide) rfl (by decide) ?_
      refine lv_aload_n hx hb d_M_debt_56 rfl (lv_at hl 0 rfl) ?_
      refine lv_iload_n hx hb d_M_debt_57 rfl (lv_at hl 1 rfl) ?_
      refine k_M_135 X ⟨Nat.le_of_ble_eq_true rfl, Nat.le_of_ble_eq_true rfl⟩ ⟨Nat.le_of_ble_eq_true rfl, Nat.le_of_ble_eq_true rfl⟩ hl.1 hP hS w0 hX1 hV hj (by exact Nat.le_of_ble_eq_true rfl) d_M_debt_58 (fun r_5 H locs er_5 hP hS => ?_)
      refine lv_i2l hx hb d_M_debt_61 rfl ?_
      exact h_lret hx hb hr hlocks (Nat.le_of_ble_eq_true rfl) (Nat.le_of_ble_eq_true rfl) hP hS (⟨by rw [er_5]; simp [spDebt, hdN], hX1, hK1⟩) d_M_debt_62
    by_cases s_6 : y = 1
    · subst s_6
      refine lv_tableIn (off := 45) (tgt := 63) hx hb d_M_debt_18 (by decide) (by decide) rfl (by decide) ?_
      refine lv_aload_n hx hb d_M_debt_63 rfl (lv_at hl 0 rfl) ?_
      refine g_M_50 X hb hP w0 rfl d_M_debt_64 ?_
      refine lv_iload_n hx hb d_M_debt_67 rfl (lv_at hl 1 rfl) ?_
      refine n_iald X hb hP w14 ⟨by omega, by decide⟩ d_M_debt_68 ?_
      refine lv_i2l hx hb d_M_debt_69 rfl ?_
      exact h_lret hx hb hr hlocks (Nat.le_of_ble_eq_true rfl) (Nat.le_of_ble_eq_true rfl) hP hS (⟨by rw [d2, nI_l (by omega)]; simp [spDebt, hdN], hX1, hK1⟩) d_M_debt_70
    by_cases s_7 : y = 2
    · subst s_7
      refine lv_tableIn (off := 53) (tgt := 71) hx hb d_M_debt_18 (by decide) (by decide) rfl (by decide) ?_
      refine lv_aload_n hx hb d_M_debt_71 rfl (lv_at hl 0 rfl) ?_
      refine g_M_53 X hb hP w0 rfl d_M_debt_72 ?_
      refine lv_iload_n hx hb d_M_debt_75 rfl (lv_at hl 1 rfl) ?_
      refine n_iald X hb hP w15 ⟨by omega, by decide⟩ d_M_debt_76 ?_
      refine lv_i2l hx hb d_M_debt_77 rfl ?_
      exact h_lret hx hb hr hlocks (Nat.le_of_ble_eq_true rfl) (Nat.le_of_ble_eq_true rfl) hP hS (⟨by rw [d3, nI_l (by omega)]; simp [spDebt, hdN], hX1, hK1⟩) d_M_debt_78
    by_cases s_8 : y = 3
    · subst s_8
      refine lv_tableIn (off := 61) (tgt := 79) hx hb d_M_debt_18 (by decide) (by decide) rfl (by decide) ?_
      refine lv_aload_n hx hb d_M_debt_79 rfl (lv_at hl 0 rfl) ?_
      refine g_M_62 X hb hP w0 rfl d_M_debt_80 ?_
      refine lv_iload_n hx hb d_M_debt_83 rfl (lv_at hl 1 rfl) ?_
      refine n_lald X hb hP w18 ⟨by omega, by decide⟩ d_M_debt_84 ?_
      exact h_lret hx hb hr hlocks (Nat.le_of_ble_eq_true rfl) (Nat.le_of_ble_eq_true rfl) hP hS (⟨by rw [d6]; simp [spDebt, hdN], hX1, hK1⟩) d_M_debt_85
    by_cases s_9 : y = 4
    · subst s_9
      refine lv_tableIn (off := 68) (tgt := 86) hx hb d_M_debt_18 (by decide) (by decide) rfl (by decide) ?_
      refine lv_aload_n hx hb d_M_debt_86 rfl (lv_at hl 0 rfl) ?_
      refine g_M_59 X hb hP w0 rfl d_M_debt_87 ?_
      refine lv_iload_n hx hb d_M_debt_90 rfl (lv_at hl 1 rfl) ?_
      refine n_iald X hb hP w17 ⟨by omega, by decide⟩ d_M_debt_91 ?_
      refine lv_i2l hx hb d_M_debt_92 rfl ?_
      exact h_lret hx hb hr hlocks (Nat.le_of_ble_eq_true rfl) (Nat.le_of_ble_eq_true rfl) hP hS (⟨by rw [d5]; simp [spDebt, hdN], hX1, hK1⟩) d_M_debt_93
    by_cases s_10 : y = 5
    · subst s_10
      refine lv_tableIn (off := 76) (tgt := 94) hx hb d_M_debt_18 (by decide) (by decide) rfl (by decide) ?_
      refine lv_aload_n hx hb d_M_debt_94 rfl (lv_at hl 0 rfl) ?_
      refine lv_iload_n hx hb d_M_debt_95 rfl (lv_at hl 1 rfl) ?_
      refine lv_aload_n hx hb d_M_debt_96 rfl (lv_at hl 0 rfl) ?_
      refine g_M_62 X hb hP w0 rfl d_M_debt_97 ?_
      refine lv_iload_n hx hb d_M_debt_100 rfl (lv_at hl 1 rfl) ?_
      refine n_lald X hb hP w18 ⟨by omega, by decide⟩ d_M_debt_101 ?_
      refine lv_ldc2 (v := 30) hx hb hown (hts _ (tbm 637 (by decide +kernel))) d_M_debt_102 ?_
      refine lv_ladd hx hb d_M_debt_105 ?_
      refine k_M_152 X ⟨Nat.le_of_ble_eq_true rfl, Nat.le_of_ble_eq_true rfl⟩ ⟨Nat.le_of_ble_eq_true rfl, Nat.le_of_ble_eq_true rfl⟩ hl.1 hP hS w0 hX1 hV hj (by exact Nat.le_of_ble_eq_true rfl) d_M_debt_106 (fun r_11 H locs er_11 hP hS => ?_)
      exact h_lret hx hb hr hlocks (Nat.le_of_ble_eq_true rfl) (Nat.le_of_ble_eq_true rfl) hP hS (⟨by rw [er_11]; simp [spDebt, hdN, d6], hX1, hK1⟩) d_M_debt_109
    refine lv_tableOut (tgt := 110) hx hb d_M_debt_18 (by have n0 := lv_neT s_4 (k := 0) (a := 0) rfl; have n1 := lv_neT s_6 (k := 1) (a := 1) rfl; have n2 := lv_neT s_7 (k := 2) (a := 2) rfl; have n3 := lv_neT s_8 (k := 3) (a := 3) rfl; have n4 := lv_neT s_9 (k := 4) (a := 4) rfl; have n5 := lv_neT s_10 (k := 5) (a := 5) rfl; omega) (by decide) ?_
    refine lv_ldc2 (v := (-1)) hx hb hown (hts _ (tbm 587 (by decide +kernel))) d_M_debt_110 ?_
    exact h_lret hx hb hr hlocks (Nat.le_of_ble_eq_true rfl) (Nat.le_of_ble_eq_true rfl) hP hS (⟨by simp [spDebt, hdN, s_4, s_6, s_7, s_8, s_9, s_10], hX1, hK1⟩) d_M_debt_113
  · have t_2 := bi_0.mp (er_2 ▸ c_3)
    refine lv_ldc2 (v := (-1)) hx hb hown (hts _ (tbm 587 (by decide +kernel))) d_M_debt_13 ?_
    exact h_lret hx hb hr hlocks (Nat.le_of_ble_eq_true rfl) (Nat.le_of_ble_eq_true rfl) hP hS (⟨by simp [spDebt, dbtN_none t_2], hX1, hK1⟩) d_M_debt_16
theorem k_W_96 {p : Program} {l : Launch} {e : Env} {R : Room} {s : State} {m : MethodId} {args : Array Value} {below : List Frame} {meth : Method} {c : Code} {H : Heap} {locs : List Loc} {cells slots : Nat} {Q : State → Prop} {cc : ByteArray} {pc : Nat} {ls : Array Slot} {rest : List Value} {D : va_G} {A : Nat → Prop} {t : Nat → ClassId} {g : hG} {nL : Nat} {ret0 : Option FieldType} {nm : String} (X : Cx p s m args meth c R_W cc nL ret0 TB D vwCl (tyL t) EX A nm) (hR : 2 + 1 ≤ R.frames ∧ 8 + (3 + 11) + 46 ≤ R.locals) (hf : cells + 0 ≤ R.cells ∧ slots + 0 ≤ R.slots) (hls : ls.size = nL) (hP : hw D vwCl A g H) (hS : va_S A s.heap H locs) {ma : Nat → Nat} {tv : Int32} {σ : SS} {x y : Int32} {fs9 : List Value} (he9 : g (ma 0) = some (.inr (6, fs9))) (hMx : RMx t ma tv σ g) (hV : Inv σ)  (hW : (rest.map fun v => v.category).sum ≤ 8) (hdg : decode cc pc = .ok (.invokevirtual 96, 3)) (kk : ∀ (r : Int64) (u : hG) (H1 : Heap) (locs1 : List Loc), ((fun r u => r = spDebt σ x y ∧ RMx t ma 0 σ u ∧ Keep (mF ma) g u) r u) → hw D vwCl A u H1 → va_S A s.heap H1 locs1 → W p l e R s m args below meth c H1 locs1 (cells + 0) (slots + 0) Q (F0 m (pc + 3) ls (.long r :: rest))) : W p l e R s m args below meth c H locs cells slots Q (F0 m pc ls (.int y :: .int x :: .ref (ma 0) :: rest)) :=
  h_cl (runV (C := R_M) (T := F_M) (N := 26) X (c_M_debt l D t A g ma tv σ x y hMx hV) (tbm 651 (by decide +kernel)) (tbm 652 (by decide +kernel)) (tbm 653 (by decide +kernel)) (tbm 23 (by decide +kernel)) (tbm 654 (by decide +kernel)) rfl (n := 2) (by decide +kernel) hR hf hP he9 hS hls rfl rfl hW hdg) hS kk

set_option maxHeartbeats 4000000 in
set_option maxRecDepth 100000 in
theorem lp_M_owes {p : Program} {l : Launch} {e : Env} {s : State} {m : MethodId} {below : List Frame} {meth : Method} {c : Code} {D : va_G} {t : Nat → ClassId} {A : Nat → Prop} (g : hG) (ma : Nat → Nat) (tv : Int32) (σ : SS) (fm : Nat → Nat → Int32) (fj : Nat → Nat → Int64) (x : Int32) (d : Int64) (g0 : hG) (hM : MC t g ma tv (nI (sNR σ)) (nI (sNL σ)) (nI (sND σ)) (nI (sNC σ)) (sTH σ) fm fj) (hR : MRel fm fj σ) (hV : Inv σ) (hwx : wi x 0 29 = true) (hK1 : Keep (mF ma) g0 g) (X : Cx p s m ([.ref (ma 0), .int x, .long d] : List Value).toArray meth c R_M b_M_owes 7 (some .long) TB D vwCl (tyL t) EX A "owes") : ∀ (k : Nat) (i : Nat) (b : Int64) (H : Heap) (locs : List Loc) (ls : Array Slot) (_ : i ≤ sND σ) (_ : sND σ + 1 ≤ i + k) (_ : ¬ d < 0 → b = balS σ x + sumI σ x (mnJ d 1000000) i) (_ : d < 0 → b = balS σ x) (_ : hw D vwCl A g H) (_ : va_S A s.heap H locs) (_ : lv_has ls 7 [(6, .int (nI (i + 1))), (4, .long b), (0, .ref (ma 0)), (1, .int x), (2, .long d)]), W p l e ({ frames := 2, cells := 0, slots := 0, locals := 45 } : Room) s m ([.ref (ma 0), .int x, .long d] : List Value).toArray below meth c H locs 0 0 (MQ below (va_Ql (fun r u => r = spOwes σ x d ∧ RMx t ma tv σ u ∧ Keep (mF ma) g0 u) (fun u v => hw D vwCl A u v.heap) A) ([.ref (ma 0), .int x, .long d] : List Value).toArray s 0 0 A) (F0 m 38 ls []) := by
  obtain ⟨hx, hb, hml, hr, hts, hown, hlocks, hK, hEs, hA, hnm⟩ := id X
  intro k
  induction k with
  | zero => exact fun i b H locs ls h1 h2 => absurd h2 (by omega)
  | succ k ih =>
    intro i b H locs ls hi hk hbt hbn hP hS hl
    obtain ⟨hR1, hR2, hR3, hR6, hR20, hR11⟩ := id hR
    have m0 := hM.1
    have hinj := hM.2.2
    have m15 : g (ma 15) = some (arI t 201 (fm 15)) := hM.2.1 15 (by decide) (by decide)
    have hn1 := hV.1.1
    have hn2 := hV.1.2.1
    have hn3 := hV.1.2.2.1
    have hn4 := hV.1.2.2.2
    refine lv_iload hx hb d_M_owes_38 (lv_at hl 0 rfl) ?_
    refine lv_aload_n hx hb d_M_owes_40 rfl (lv_at hl 2 rfl) ?_
    refine g_M_128 X hb hP m0 rfl d_M_owes_41 ?_
    refine lv_icmp_gt (tgt := 99) hx hb d_M_owes_44 (by decide) (fun c_1 => ?_) (fun c_1 => ?_)
    · refine lv_lload hx hb d_M_owes_99 (lv_at hl 1 rfl) ?_
      have e8 : b = spOwes σ x d := by
        have ei : i = sND σ := Nat.le_antisymm hi (Nat.le_of_lt_succ ((nI_ltI (by omega) (by omega)).mp c_1))
        rw [spOwes, if_pos hwx]
        split
        · rename_i q; exact hbn q
        · rename_i q; rw [hbt q, ei]
      exact h_lret hx hb hr hlocks (Nat.le_of_ble_eq_true rfl) (Nat.le_of_ble_eq_true rfl) hP hS (⟨e8, ⟨fm, fj, hM, hR⟩, hK1⟩) d_M_owes_101
    · have hlt : i < sND σ := Nat.lt_of_not_le (fun z => c_1 (nI_lt (by omega) (by omega)))
      refine lv_lload_n hx hb d_M_owes_47 rfl (lv_at hl 4 rfl) ?_
      refine lv_lconst (v := 0) hx hb d_M_owes_48 (by decide) ?_
      refine W.lcmp hx hb d_M_owes_49 ?_
      refine lv_if_lt (tgt := 99) hx hb d_M_owes_50 (by decide) (fun c_2 => ?_) (fun c_2 => ?_)
      · rw [lg_cmp_lt] at c_2
        refine lv_lload hx hb d_M_owes_99 (lv_at hl 1 rfl) ?_
        exact h_lret hx hb hr hlocks (Nat.le_of_ble_eq_true rfl) (Nat.le_of_ble_eq_true rfl) hP hS (⟨by rw [spOwes, if_pos hwx, if_pos c_2]; exact hbn c_2, ⟨fm, fj, hM, hR⟩, hK1⟩) d_M_owes_101
      · rw [lg_cmp_lt] at c_2
        refine lv_lload hx hb d_M_owes_53 (lv_at hl 1 rfl) ?_
        refine lv_aload_n hx hb d_M_owes_55 rfl (lv_at hl 2 rfl) ?_
        refine lv_iload hx hb d_M_owes_56 (lv_at hl 0 rfl) ?_
        refine k_M_135 X ⟨Nat.le_of_ble_eq_true rfl, Nat.le_of_ble_eq_true rfl⟩ ⟨Nat.le_of_ble_eq_true rfl, Nat.le_of_ble_eq_true rfl⟩ hl.1 hP hS m0 ⟨fm, fj, hM, hR⟩ hV hlt (by exact Nat.le_of_ble_eq_true rfl) d_M_owes_58 (fun r_3 H locs er_3 hP hS => ?_)
        refine lv_iload_n hx hb d_M_owes_61 rfl (lv_at hl 3 rfl) ?_
        refine lv_icmp_ne (tgt := 89) hx hb d_M_owes_62 (by decide) (fun c_4 => ?_) (fun c_4 => ?_)
        · refine lv_lconst (v := 0) hx hb d_M_owes_89 (by decide) ?_
          refine lv_ladd hx hb d_M_owes_90 ?_
          refine lv_topl (fun x_5 ex_5 => ?_)
          refine lv_lstore (lv' := [(4, .long x_5), (6, .int (nI (i + 1))), (0, .ref (ma 0)), (1, .int x), (2, .long d)]) hx hb d_M_owes_91 hl (by decide) rfl (fun ls hl => ?_)
          obtain ⟨x_6, ex_6⟩ : ∃ z : Int32, z = (nI (i + 1)) + 1 := ⟨_, rfl⟩
          refine lv_iinc (v := x_6) (lv' := [(6, .int x_6), (4, .long x_5), (0, .ref (ma 0)), (1, .int x), (2, .long d)]) hx hb d_M_owes_93 hl (k := 1) rfl (by rw [ex_6]; rfl) (by decide) rfl (fun ls hl => ?_)
          refine lv_goto (tgt := 38) hx hb d_M_owes_96 (by decide) ?_
          obtain rfl : x_6 = nI (i + 1 + 1) := by rw [ex_6]; exact nI_1 _
          exact ih (i + 1) x_5 H locs ls (by omega) (by omega) (fun q => by rw [ex_5, hbt q, sumI, if_neg (by rw [← er_3]; exact c_4)]; simp) (fun q => absurd q c_2) hP hS (lv_sub hl [0, 1, 2, 3, 4] rfl)
        · refine lv_aload_n hx hb d_M_owes_65 rfl (lv_at hl 2 rfl) ?_
          refine lv_iload hx hb d_M_owes_66 (lv_at hl 0 rfl) ?_
          refine lv_lload_n hx hb d_M_owes_68 rfl (lv_at hl 4 rfl) ?_
          refine lv_ldc2 (v := 1000000) hx hb hown (hts _ (tbm 552 (by decide +kernel))) d_M_owes_69 ?_
          refine W.lcmp hx hb d_M_owes_72 ?_
          refine lv_if_le (tgt := 82) hx hb d_M_owes_73 (by decide) (fun c_7 => ?_) (fun c_7 => ?_)
          · rw [lg_cmp_le] at c_7
            refine lv_lload_n hx hb d_M_owes_82 rfl (lv_at hl 4 rfl) ?_
            refine k_M_152 X ⟨Nat.le_of_ble_eq_true rfl, Nat.le_of_ble_eq_true rfl⟩ ⟨Nat.le_of_ble_eq_true rfl, Nat.le_of_ble_eq_true rfl⟩ hl.1 hP hS m0 ⟨fm, fj, hM, hR⟩ hV hlt (by exact Nat.le_of_ble_eq_true rfl) d_M_owes_83 (fun r_8 H locs er_8 hP hS => ?_)
            refine lv_goto (tgt := 90) hx hb d_M_owes_86 (by decide) ?_
            refine lv_ladd hx hb d_M_owes_90 ?_
            refine lv_topl (fun x_9 ex_9 => ?_)
            refine lv_lstore (lv' := [(4, .long x_9), (6, .int (nI (i + 1))), (0, .ref (ma 0)), (1, .int x), (2, .long d)]) hx hb d_M_owes_91 hl (by decide) rfl (fun ls hl => ?_)
            obtain ⟨x_10, ex_10⟩ : ∃ z : Int32, z = (nI (i + 1)) + 1 := ⟨_, rfl⟩
            refine lv_iinc (v := x_10) (lv' := [(6, .int x_10), (4, .long x_9), (0, .ref (ma 0)), (1, .int x), (2, .long d)]) hx hb d_M_owes_93 hl (k := 1) rfl (by rw [ex_10]; rfl) (by decide) rfl (fun ls hl => ?_)
            refine lv_goto (tgt := 38) hx hb d_M_owes_96 (by decide) ?_
            obtain rfl : x_10 = nI (i + 1 + 1) := by rw [ex_10]; exact nI_1 _
            have hmn : r_8 = intD σ i (mnJ d 1000000) := by rw [er_8]; exact congrArg (intD σ i) (show d = mnJ d 1000000 from (if_neg (Int64.not_lt.mpr c_7)).symm)
            exact ih (i + 1) x_9 H locs ls (by omega) (by omega) (fun q => by rw [ex_9, hbt q, sumI, if_pos (by rw [← er_3]; exact c_4), hmn, Int64.add_assoc]) (fun q => absurd q c_2) hP hS (lv_sub hl [0, 1, 2, 3, 4] rfl)
          · rw [lg_cmp_le] at c_7
            refine lv_ldc2 (v := 1000000) hx hb hown (hts _ (tbm 552 (by decide +kernel))) d_M_owes_76 ?_
            refine lv_goto (tgt := 83) hx hb d_M_owes_79 (by decide) ?_
            refine k_M_152 X ⟨Nat.le_of_ble_eq_true rfl, Nat.le_of_ble_eq_true rfl⟩ ⟨Nat.le_of_ble_eq_true rfl, Nat.le_of_ble_eq_true rfl⟩ hl.1 hP hS m0 ⟨fm, fj, hM, hR⟩ hV hlt (by exact Nat.le_of_ble_eq_true rfl) d_M_owes_83 (fun r_11 H locs er_11 hP hS => ?_)
            refine lv_goto (tgt := 90) hx hb d_M_owes_86 (by decide) ?_
            refine lv_ladd hx hb d_M_owes_90 ?_
            refine lv_topl (fun x_12 ex_12 => ?_)
            refine lv_lstore (lv' := [(4, .long x_12), (6, .int (nI (i + 1))), (0, .ref (ma 0)), (1, .int x), (2, .long d)]) hx hb d_M_owes_91 hl (by decide) rfl (fun ls hl => ?_)
            obtain ⟨x_13, ex_13⟩ : ∃ z : Int32, z = (nI (i + 1)) + 1 := ⟨_, rfl⟩
            refine lv_iinc (v := x_13) (lv' := [(6, .int x_13), (4, .long x_12), (0, .ref (ma 0)), (1, .int x), (2, .long d)]) hx hb d_M_owes_93 hl (k := 1) rfl (by rw [ex_13]; rfl) (by decide) rfl (fun ls hl => ?_)
            refine lv_goto (tgt := 38) hx hb d_M_owes_96 (by decide) ?_
            obtain rfl : x_13 = nI (i + 1 + 1) := by rw [ex_13]; exact nI_1 _
            have hmn : r_11 = intD σ i (mnJ d 1000000) := by rw [er_11]; exact congrArg (intD σ i) (show (1000000 : Int64) = mnJ d 1000000 from (if_pos (Int64.not_le.mp c_7)).symm)
            exact ih (i + 1) x_12 H locs ls (by omega) (by omega) (fun q => by rw [ex_12, hbt q, sumI, if_pos (by rw [← er_3]; exact c_4), hmn, Int64.add_assoc]) (fun q => absurd q c_2) hP hS (lv_sub hl [0, 1, 2, 3, 4] rfl)

set_option maxHeartbeats 4000000 in
set_option maxRecDepth 100000 in
theorem c_M_owes (l : Launch) (D : va_G) (t : Nat → ClassId) (A : Nat → Prop) (g : hG) (ma : Nat → Nat) (tv : Int32) (σ : SS) (x : Int32) (d : Int64) (hMx : RMx t ma tv σ g) (hV : Inv σ) : Met l y_M_owes (Cond.code y_M_owes b_M_owes 7 (some .long) :: TB) ({ frames := 2, cells := 0, slots := 0, locals := 45 } : Room) (va_Pc [.ref (ma 0), .int x, .long d] (hI D vwCl (tyL t) EX A g)) (va_Ql (fun r u => r = spOwes σ x d ∧ RMx t ma 0 σ u ∧ Keep (mF ma) g u) (fun u v => hw D vwCl A u v.heap) A) 0 0 A := by
  refine Met.ofH (cc := b_M_owes) (maxL := 7) (ret := (some .long)) (lv := [(0, .ref (ma 0)), (1, .int x), (2, .long d)]) (by decide) (Nat.le_of_ble_eq_true rfl) rfl ?_
  intro p e s m below meth c ls X hP hS hl
  obtain ⟨hx, hb, hml, hr, hts, hown, hlocks, hK, hEs, hA, hnm⟩ := id X
  obtain ⟨fm, fj, hM, hR1, hR2, hR3, hR6, hR20, hR11⟩ := id hMx
  have m0 := hM.1
  have hinj := hM.2.2
  have hn1 := hV.1.1
  have hn2 := hV.1.2.1
  have hn3 := hV.1.2.2.1
  have hn4 := hV.1.2.2.2
  have hRr : MRel fm fj σ := ⟨hR1, hR2, hR3, hR6, hR20, hR11⟩
  refine lv_aload_n hx hb d_M_owes_0 rfl (lv_at hl 0 rfl) ?_
  refine lv_iconst (v := 0) hx hb d_M_owes_1 (by decide) ?_
  refine p_M_76 X hb hP hS m0 (Nat.le_of_ble_eq_true rfl) d_M_owes_2 (fun H locs hP hS => ?_)
  have he_1 := va_up_self g (ma 0) (some (.inr (6, [.int 0, .int (nI (sNR σ)), .int (nI (sNL σ)), .int (nI (sND σ)), .int (nI (sNC σ)), .ref (ma 1), .ref (ma 2), .ref (ma 3), .ref (ma 4), .ref (ma 5), .ref (ma 6), .ref (ma 7), .ref (ma 8), .ref (ma 9), .ref (ma 10), .ref (ma 11), .ref (ma 12), .ref (ma 13), .ref (ma 14), .ref (ma 15), .ref (ma 16), .ref (ma 17), .ref (ma 18), .ref (ma 19), .ref (ma 20), .int (sTH σ)]) : va_E))
  have hP : hw D vwCl A (va_up g (ma 0) (some (.inr (6, [.int 0, .int (nI (sNR σ)), .int (nI (sNL σ)), .int (nI (sND σ)), .int (nI (sNC σ)), .ref (ma 1), .ref (ma 2), .ref (ma 3), .ref (ma 4), .ref (ma 5), .ref (ma 6), .ref (ma 7), .ref (ma 8), .ref (ma 9), .ref (ma 10), .ref (ma 11), .ref (ma 12), .ref (ma 13), .ref (ma 14), .ref (ma 15), .ref (ma 16), .ref (ma 17), .ref (ma 18), .ref (ma 19), .ref (ma 20), .int (sTH σ)])))) H := hP
  have hM1 : MC t (va_up g (ma 0) (some (mOb ma 0 (nI (sNR σ)) (nI (sNL σ)) (nI (sND σ)) (nI (sNC σ)) (sTH σ)))) ma 0 (nI (sNR σ)) (nI (sNL σ)) (nI (sND σ)) (nI (sNC σ)) (sTH σ) fm fj := MC.put hM 0 _ _ _ _ _
  have hK1 : Keep (mF ma) g (va_up g (ma 0) (some (mOb ma 0 (nI (sNR σ)) (nI (sNL σ)) (nI (sND σ)) (nI (sNC σ)) (sTH σ)))) := Keep.up Keep.rf (Or.inl (mF_i ma 0 (by decide)))
  have hP : hw D vwCl A (va_up g (ma 0) (some (mOb ma 0 (nI (sNR σ)) (nI (sNL σ)) (nI (sND σ)) (nI (sNC σ)) (sTH σ)))) H := hP
  generalize va_up g (ma 0) (some (mOb ma 0 (nI (sNR σ)) (nI (sNL σ)) (nI (sND σ)) (nI (sNC σ)) (sTH σ))) = G at hM1 hK1 hP
  have hX1 : RMx t ma 0 σ G := ⟨fm, fj, hM1, hRr⟩
  have w0 := hM1.1
  have w20 : G (ma 20) = some (arJ t 30 (fj 20)) := hM1.2.1 20 (by decide) (by decide)
  refine lv_iload_n hx hb d_M_owes_5 rfl (lv_at hl 1 rfl) ?_
  refine lv_i2l hx hb d_M_owes_6 rfl ?_
  refine lv_lconst (v := 0) hx hb d_M_owes_7 (by decide) ?_
  refine lv_ldc2 (v := 29) hx hb hown (hts _ (tbm 570 (by decide +kernel))) d_M_owes_8 ?_
  refine k_M_81 X ⟨Nat.le_of_ble_eq_true rfl, Nat.le_of_ble_eq_true rfl⟩ ⟨Nat.le_of_ble_eq_true rfl, Nat.le_of_ble_eq_true rfl⟩ hl.1 hP hS (by exact Nat.le_of_ble_eq_true rfl) d_M_owes_11 (fun r_2 H locs er_2 hP hS => ?_)
  refine lv_if_ne (tgt := 21) hx hb d_M_owes_14 (by decide) (fun c_3 => ?_) (fun c_3 => ?_)
  · have t_2 := bi_n0.mp (er_2 ▸ c_3)
    have hwx : wi x 0 29 = true := by rw [← wl_i]; exact t_2
    obtain ⟨j, hj, rfl⟩ := wi_pl (n := 29) rfl (by decide) hwx
    refine lv_aload_n hx hb d_M_owes_21 rfl (lv_at hl 0 rfl) ?_
    refine lv_iload_n hx hb d_M_owes_22 rfl (lv_at hl 1 rfl) ?_
    refine k_M_148 X ⟨Nat.le_of_ble_eq_true rfl, Nat.le_of_ble_eq_true rfl⟩ ⟨Nat.le_of_ble_eq_true rfl, Nat.le_of_ble_eq_true rfl⟩ hl.1 hP hS w0 hX1 hV (by exact Nat.le_of_ble_eq_true rfl) d_M_owes_23 (fun r_4 H locs er_4 hP hS => ?_)
    refine lv_aload_n hx hb d_M_owes_26 rfl (lv_at hl 0 rfl) ?_
    refine g_M_69 X hb hP w0 rfl d_M_owes_27 ?_
    refine lv_iload_n hx hb d_M_owes_30 rfl (lv_at hl 1 rfl) ?_
    refine n_lald X hb hP w20 ⟨hj, by decide⟩ d_M_owes_31 ?_
    refine lv_lsub hx hb d_M_owes_32 ?_
    refine lv_topl (fun x_5 ex_5 => ?_)
    refine lv_lstore (lv' := [(4, .long x_5), (0, .ref (ma 0)), (1, .int (nI j)), (2, .long d)]) hx hb d_M_owes_33 hl (by decide) rfl (fun ls hl => ?_)
    refine lv_iconst (v := 1) hx hb d_M_owes_35 (by decide) ?_
    refine lv_istore (lv' := [(6, .int 1), (4, .long x_5), (0, .ref (ma 0)), (1, .int (nI j)), (2, .long d)]) hx hb d_M_owes_36 hl (by decide) rfl (fun ls hl => ?_)
    have hb8 : x_5 = balS σ (nI j) := by rw [ex_5, er_4, balS, nI_k0 (by omega), hR20]
    exact lp_M_owes G ma 0 σ fm fj (nI j) d g hM1 hRr hV hwx hK1 X (sND σ + 1) 0 x_5 _ _ ls (Nat.zero_le _) (by omega) (fun _ => by rw [hb8, sumI]; simp) (fun _ => hb8) hP hS (lv_sub hl [0, 1, 2, 3, 4] rfl)
  · have t_2 := bi_0.mp (er_2 ▸ c_3)
    refine lv_ldc2 (v := (-1000000000000001)) hx hb hown (hts _ (tbm 628 (by decide +kernel))) d_M_owes_17 ?_
    have tw0 : wi x 0 29 = false := by rw [← wl_i]; exact t_2
    exact h_lret hx hb hr hlocks (Nat.le_of_ble_eq_true rfl) (Nat.le_of_ble_eq_true rfl) hP hS (⟨by simp [spOwes, tw0], hX1, hK1⟩) d_M_owes_20
theorem k_W_77 {p : Program} {l : Launch} {e : Env} {R : Room} {s : State} {m : MethodId} {args : Array Value} {below : List Frame} {meth : Method} {c : Code} {H : Heap} {locs : List Loc} {cells slots : Nat} {Q : State → Prop} {cc : ByteArray} {pc : Nat} {ls : Array Slot} {rest : List Value} {D : va_G} {A : Nat → Prop} {t : Nat → ClassId} {g : hG} {nL : Nat} {ret0 : Option FieldType} {nm : String} (X : Cx p s m args meth c R_W cc nL ret0 TB D vwCl (tyL t) EX A nm) (hR : 2 + 1 ≤ R.frames ∧ 8 + (7 + 11) + 45 ≤ R.locals) (hf : cells + 0 ≤ R.cells ∧ slots + 0 ≤ R.slots) (hls : ls.size = nL) (hP : hw D vwCl A g H) (hS : va_S A s.heap H locs) {ma : Nat → Nat} {tv : Int32} {σ : SS} {x : Int32} {d : Int64} {fs9 : List Value} (he9 : g (ma 0) = some (.inr (6, fs9))) (hMx : RMx t ma tv σ g) (hV : Inv σ)  (hW : (rest.map fun v => v.category).sum ≤ 8) (hdg : decode cc pc = .ok (.invokevirtual 77, 3)) (kk : ∀ (r : Int64) (u : hG) (H1 : Heap) (locs1 : List Loc), ((fun r u => r = spOwes σ x d ∧ RMx t ma 0 σ u ∧ Keep (mF ma) g u) r u) → hw D vwCl A u H1 → va_S A s.heap H1 locs1 → W p l e R s m args below meth c H1 locs1 (cells + 0) (slots + 0) Q (F0 m (pc + 3) ls (.long r :: rest))) : W p l e R s m args below meth c H locs cells slots Q (F0 m pc ls (.long d :: .int x :: .ref (ma 0) :: rest)) :=
  h_cl (runV (C := R_M) (T := F_M) (N := 26) X (c_M_owes l D t A g ma tv σ x d hMx hV) (tbm 624 (by decide +kernel)) (tbm 625 (by decide +kernel)) (tbm 626 (by decide +kernel)) (tbm 23 (by decide +kernel)) (tbm 627 (by decide +kernel)) rfl (n := 2) (by decide +kernel) hR hf hP he9 hS hls rfl rfl hW hdg) hS kk
