set_option maxHeartbeats 4000000 in
set_option maxRecDepth 100000 in
theorem c_M_threshold (l : Launch) (D : va_G) (t : Nat → ClassId) (A : Nat → Prop) (g : hG) (ma : Nat → Nat) (tv : Int32) (σ : SS) (x : Int32) (hMx : RMx t ma tv σ g) (hV : Inv σ) : Met l y_M_threshold (Cond.code y_M_threshold b_M_threshold 3 (some .int) :: TB) ({ frames := 1, cells := 0, slots := 0, locals := 25 } : Room) (va_Pc [.ref (ma 0), .int x] (hI D vwCl (tyL t) EX A g)) (va_Qi (fun r u => r = (spTh σ x).1 ∧ RMx t ma 0 (spTh σ x).2 u ∧ Keep (mF ma) g u) (fun u v => hw D vwCl A u v.heap) A) 0 0 A := by
  refine Met.ofH (cc := b_M_threshold) (maxL := 3) (ret := (some .int)) (lv := [(0, .ref (ma 0)), (1, .int x)]) (by decide) (Nat.le_of_ble_eq_true rfl) rfl ?_
  intro p e s m below meth c ls X hP hS hl
  obtain ⟨hx, hb, hml, hr, hts, hown, hlocks, hK, hEs, hA, hnm⟩ := id X
  obtain ⟨fm, fj, hM, hR1, hR2, hR3, hR6, hR20, hR11⟩ := id hMx
  have m0 := hM.1
  have hinj := hM.2.2
  have hn1 := hV.1.1
  have hn2 := hV.1.2.1
  have hn3 := hV.1.2.2.1
  have hn4 := hV.1.2.2.2
  have hRr : MRel fm fj σ := ⟨hR1, hR2, hR3, hR6, hR20, hR11⟩
  refine lv_aload_n hx hb d_M_threshold_0 rfl (lv_at hl 0 rfl) ?_
  refine lv_iconst (v := 0) hx hb d_M_threshold_1 (by decide) ?_
  refine p_M_76 X hb hP hS m0 (Nat.le_of_ble_eq_true rfl) d_M_threshold_2 (fun H locs hP hS => ?_)
  have he_1 := va_up_self g (ma 0) (some (.inr (6, [.int 0, .int (nI (sNR σ)), .int (nI (sNL σ)), .int (nI (sND σ)), .int (nI (sNC σ)), .ref (ma 1), .ref (ma 2), .ref (ma 3), .ref (ma 4), .ref (ma 5), .ref (ma 6), .ref (ma 7), .ref (ma 8), .ref (ma 9), .ref (ma 10), .ref (ma 11), .ref (ma 12), .ref (ma 13), .ref (ma 14), .ref (ma 15), .ref (ma 16), .ref (ma 17), .ref (ma 18), .ref (ma 19), .ref (ma 20), .int (sTH σ)]) : va_E))
  have hP : hw D vwCl A (va_up g (ma 0) (some (.inr (6, [.int 0, .int (nI (sNR σ)), .int (nI (sNL σ)), .int (nI (sND σ)), .int (nI (sNC σ)), .ref (ma 1), .ref (ma 2), .ref (ma 3), .ref (ma 4), .ref (ma 5), .ref (ma 6), .ref (ma 7), .ref (ma 8), .ref (ma 9), .ref (ma 10), .ref (ma 11), .ref (ma 12), .ref (ma 13), .ref (ma 14), .ref (ma 15), .ref (ma 16), .ref (ma 17), .ref (ma 18), .ref (ma 19), .ref (ma 20), .int (sTH σ)])))) H := hP
  have hM1 : MC t (va_up g (ma 0) (some (mOb ma 0 (nI (sNR σ)) (nI (sNL σ)) (nI (sND σ)) (nI (sNC σ)) (sTH σ)))) ma 0 (nI (sNR σ)) (nI (sNL σ)) (nI (sND σ)) (nI (sNC σ)) (sTH σ) fm fj := MC.put hM 0 _ _ _ _ _
  have hK1 : Keep (mF ma) g (va_up g (ma 0) (some (mOb ma 0 (nI (sNR σ)) (nI (sNL σ)) (nI (sND σ)) (nI (sNC σ)) (sTH σ)))) := Keep.up Keep.rf (Or.inl (mF_i ma 0 (by decide)))
  have hP : hw D vwCl A (va_up g (ma 0) (some (mOb ma 0 (nI (sNR σ)) (nI (sNL σ)) (nI (sND σ)) (nI (sNC σ)) (sTH σ)))) H := hP
  generalize va_up g (ma 0) (some (mOb ma 0 (nI (sNR σ)) (nI (sNL σ)) (nI (sND σ)) (nI (sNC σ)) (sTH σ))) = G at hM1 hK1 hP
  have hX1 : RMx t ma 0 σ G := ⟨fm, fj, hM1, hRr⟩
  have w0 := hM1.1
  refine lv_iload_n hx hb d_M_threshold_5 rfl (lv_at hl 1 rfl) ?_
  refine lv_i2l hx hb d_M_threshold_6 rfl ?_
  refine lv_lconst (v := 1) hx hb d_M_threshold_7 (by decide) ?_
  refine lv_ldc2 (v := 1000000) hx hb hown (hts _ (tbm 552 (by decide +kernel))) d_M_threshold_8 ?_
  refine k_M_81 X ⟨Nat.le_of_ble_eq_true rfl, Nat.le_of_ble_eq_true rfl⟩ ⟨Nat.le_of_ble_eq_true rfl, Nat.le_of_ble_eq_true rfl⟩ hl.1 hP hS (by exact Nat.le_of_ble_eq_true rfl) d_M_threshold_11 (fun r_2 H locs er_2 hP hS => ?_)
  refine lv_if_ne (tgt := 19) hx hb d_M_threshold_14 (by decide) (fun c_3 => ?_) (fun c_3 => ?_)
  · have t_2 := bi_n0.mp (er_2 ▸ c_3)
    refine lv_aload_n hx hb d_M_threshold_19 rfl (lv_at hl 0 rfl) ?_
    refine g_M_72 X hb hP w0 rfl d_M_threshold_20 ?_
    refine lv_topi (fun x_4 ex_4 => ?_)
    refine lv_istore_n (lv' := [(2, .int x_4), (0, .ref (ma 0)), (1, .int x)]) hx hb d_M_threshold_23 rfl hl (by decide) rfl (fun ls hl => ?_)
    refine lv_aload_n hx hb d_M_threshold_24 rfl (lv_at hl 1 rfl) ?_
    refine lv_iload_n hx hb d_M_threshold_25 rfl (lv_at hl 2 rfl) ?_
    refine p_M_72 X hb hP hS w0 (Nat.le_of_ble_eq_true rfl) d_M_threshold_26 (fun H locs hP hS => ?_)
    have he_5 := va_up_self G (ma 0) (some (.inr (6, [.int 0, .int (nI (sNR σ)), .int (nI (sNL σ)), .int (nI (sND σ)), .int (nI (sNC σ)), .ref (ma 1), .ref (ma 2), .ref (ma 3), .ref (ma 4), .ref (ma 5), .ref (ma 6), .ref (ma 7), .ref (ma 8), .ref (ma 9), .ref (ma 10), .ref (ma 11), .ref (ma 12), .ref (ma 13), .ref (ma 14), .ref (ma 15), .ref (ma 16), .ref (ma 17), .ref (ma 18), .ref (ma 19), .ref (ma 20), .int x]) : va_E))
    have hP : hw D vwCl A (va_up G (ma 0) (some (.inr (6, [.int 0, .int (nI (sNR σ)), .int (nI (sNL σ)), .int (nI (sND σ)), .int (nI (sNC σ)), .ref (ma 1), .ref (ma 2), .ref (ma 3), .ref (ma 4), .ref (ma 5), .ref (ma 6), .ref (ma 7), .ref (ma 8), .ref (ma 9), .ref (ma 10), .ref (ma 11), .ref (ma 12), .ref (ma 13), .ref (ma 14), .ref (ma 15), .ref (ma 16), .ref (ma 17), .ref (ma 18), .ref (ma 19), .ref (ma 20), .int x])))) H := hP
    refine lv_iload_n hx hb d_M_threshold_29 rfl (lv_at hl 0 rfl) ?_
    have tw : wi x 1 1000000 = true := by rw [← wl_i]; exact t_2
    have e9 : spTh σ x = (sTH σ, (σ.1, σ.2.1, σ.2.2.1, σ.2.2.2.1, σ.2.2.2.2.1, x, σ.2.2.2.2.2.2)) := by simp [spTh, tw]
    exact h_iret hx hb hr hlocks (Nat.le_of_ble_eq_true rfl) (Nat.le_of_ble_eq_true rfl) hP hS (⟨by rw [e9, ex_4], by rw [e9]; exact ⟨fm, fj, MC.put (hM1) 0 (nI (sNR σ)) (nI (sNL σ)) (nI (sND σ)) (nI (sNC σ)) x, hRr⟩, Keep.up (hK1) (Or.inl (mF_i ma 0 (by decide)))⟩) d_M_threshold_30
  · have t_2 := bi_0.mp (er_2 ▸ c_3)
    refine lv_iconst (v := (-1)) hx hb d_M_threshold_17 (by decide) ?_
    have tw : wi x 1 1000000 = false := by rw [← wl_i]; exact t_2
    have e9 : spTh σ x = (-1, σ) := by simp [spTh, tw]
    exact h_iret hx hb hr hlocks (Nat.le_of_ble_eq_true rfl) (Nat.le_of_ble_eq_true rfl) hP hS (⟨by rw [e9], by rw [e9]; exact hX1, hK1⟩) d_M_threshold_18
theorem k_W_87 {p : Program} {l : Launch} {e : Env} {R : Room} {s : State} {m : MethodId} {args : Array Value} {below : List Frame} {meth : Method} {c : Code} {H : Heap} {locs : List Loc} {cells slots : Nat} {Q : State → Prop} {cc : ByteArray} {pc : Nat} {ls : Array Slot} {rest : List Value} {D : va_G} {A : Nat → Prop} {t : Nat → ClassId} {g : hG} {nL : Nat} {ret0 : Option FieldType} {nm : String} (X : Cx p s m args meth c R_W cc nL ret0 TB D vwCl (tyL t) EX A nm) (hR : 1 + 1 ≤ R.frames ∧ 8 + (3 + 11) + 25 ≤ R.locals) (hf : cells + 0 ≤ R.cells ∧ slots + 0 ≤ R.slots) (hls : ls.size = nL) (hP : hw D vwCl A g H) (hS : va_S A s.heap H locs) {ma : Nat → Nat} {tv : Int32} {σ : SS} {x : Int32} {fs9 : List Value} (he9 : g (ma 0) = some (.inr (6, fs9))) (hMx : RMx t ma tv σ g) (hV : Inv σ)  (hW : (rest.map fun v => v.category).sum ≤ 8) (hdg : decode cc pc = .ok (.invokevirtual 87, 3)) (kk : ∀ (r : Int32) (u : hG) (H1 : Heap) (locs1 : List Loc), ((fun r u => r = (spTh σ x).1 ∧ RMx t ma 0 (spTh σ x).2 u ∧ Keep (mF ma) g u) r u) → hw D vwCl A u H1 → va_S A s.heap H1 locs1 → W p l e R s m args below meth c H1 locs1 (cells + 0) (slots + 0) Q (F0 m (pc + 3) ls (.int r :: rest))) : W p l e R s m args below meth c H locs cells slots Q (F0 m pc ls (.int x :: .ref (ma 0) :: rest)) :=
  h_ci (runV (C := R_M) (T := F_M) (N := 26) X (c_M_threshold l D t A g ma tv σ x hMx hV) (tbm 643 (by decide +kernel)) (tbm 644 (by decide +kernel)) (tbm 645 (by decide +kernel)) (tbm 23 (by decide +kernel)) (tbm 646 (by decide +kernel)) rfl (n := 1) (by decide +kernel) hR hf hP he9 hS hls rfl rfl hW hdg) hS kk

set_option maxHeartbeats 4000000 in
set_option maxRecDepth 100000 in
theorem c_M_rule (l : Launch) (D : va_G) (t : Nat → ClassId) (A : Nat → Prop) (g : hG) (ma : Nat → Nat) (tv : Int32) (σ : SS) (x y z : Int32) (hMx : RMx t ma tv σ g) (hV : Inv σ) : Met l y_M_rule (Cond.code y_M_rule b_M_rule 4 (some .int) :: TB) ({ frames := 1, cells := 0, slots := 0, locals := 25 } : Room) (va_Pc [.ref (ma 0), .int x, .int y, .int z] (hI D vwCl (tyL t) EX A g)) (va_Qi (fun r u => r = (spRule σ x y z).1 ∧ RMx t ma 0 (spRule σ x y z).2 u ∧ Keep (mF ma) g u) (fun u v => hw D vwCl A u v.heap) A) 0 0 A := by
  refine Met.ofH (cc := b_M_rule) (maxL := 4) (ret := (some .int)) (lv := [(0, .ref (ma 0)), (1, .int x), (2, .int y), (3, .int z)]) (by decide) (Nat.le_of_ble_eq_true rfl) rfl ?_
  intro p e s m below meth c ls X hP hS hl
  obtain ⟨hx, hb, hml, hr, hts, hown, hlocks, hK, hEs, hA, hnm⟩ := id X
  obtain ⟨fm, fj, hM, hR1, hR2, hR3, hR6, hR20, hR11⟩ := id hMx
  have m0 := hM.1
  have hinj := hM.2.2
  have hn1 := hV.1.1
  have hn2 := hV.1.2.1
  have hn3 := hV.1.2.2.1
  have hn4 := hV.1.2.2.2
  have hRr : MRel fm fj σ := ⟨hR1, hR2, hR3, hR6, hR20, hR11⟩
  refine lv_aload_n hx hb d_M_rule_0 rfl (lv_at hl 0 rfl) ?_
  refine lv_iconst (v := 0) hx hb d_M_rule_1 (by decide) ?_
  refine p_M_76 X hb hP hS m0 (Nat.le_of_ble_eq_true rfl) d_M_rule_2 (fun H locs hP hS => ?_)
  have he_1 := va_up_self g (ma 0) (some (.inr (6, [.int 0, .int (nI (sNR σ)), .int (nI (sNL σ)), .int (nI (sND σ)), .int (nI (sNC σ)), .ref (ma 1), .ref (ma 2), .ref (ma 3), .ref (ma 4), .ref (ma 5), .ref (ma 6), .ref (ma 7), .ref (ma 8), .ref (ma 9), .ref (ma 10), .ref (ma 11), .ref (ma 12), .ref (ma 13), .ref (ma 14), .ref (ma 15), .ref (ma 16), .ref (ma 17), .ref (ma 18), .ref (ma 19), .ref (ma 20), .int (sTH σ)]) : va_E))
  have hP : hw D vwCl A (va_up g (ma 0) (some (.inr (6, [.int 0, .int (nI (sNR σ)), .int (nI (sNL σ)), .int (nI (sND σ)), .int (nI (sNC σ)), .ref (ma 1), .ref (ma 2), .ref (ma 3), .ref (ma 4), .ref (ma 5), .ref (ma 6), .ref (ma 7), .ref (ma 8), .ref (ma 9), .ref (ma 10), .ref (ma 11), .ref (ma 12), .ref (ma 13), .ref (ma 14), .ref (ma 15), .ref (ma 16), .ref (ma 17), .ref (ma 18), .ref (ma 19), .ref (ma 20), .int (sTH σ)])))) H := hP
  have hM1 : MC t (va_up g (ma 0) (some (mOb ma 0 (nI (sNR σ)) (nI (sNL σ)) (nI (sND σ)) (nI (sNC σ)) (sTH σ)))) ma 0 (nI (sNR σ)) (nI (sNL σ)) (nI (sND σ)) (nI (sNC σ)) (sTH σ) fm fj := MC.put hM 0 _ _ _ _ _
  have hK1 : Keep (mF ma) g (va_up g (ma 0) (some (mOb ma 0 (nI (sNR σ)) (nI (sNL σ)) (nI (sND σ)) (nI (sNC σ)) (sTH σ)))) := Keep.up Keep.rf (Or.inl (mF_i ma 0 (by decide)))
  have hP : hw D vwCl A (va_up g (ma 0) (some (mOb ma 0 (nI (sNR σ)) (nI (sNL σ)) (nI (sND σ)) (nI (sNC σ)) (sTH σ)))) H := hP
  generalize va_up g (ma 0) (some (mOb ma 0 (nI (sNR σ)) (nI (sNL σ)) (nI (sND σ)) (nI (sNC σ)) (sTH σ))) = G at hM1 hK1 hP
  have hX1 : RMx t ma 0 σ G := ⟨fm, fj, hM1, hRr⟩
  have w0 := hM1.1
  have w1 : G (ma 1) = some (arI t 10 (fm 1)) := hM1.2.1 1 (by decide) (by decide)
  have w2 : G (ma 2) = some (arI t 10 (fm 2)) := hM1.2.1 2 (by decide) (by decide)
  have w3 : G (ma 3) = some (arI t 10 (fm 3)) := hM1.2.1 3 (by decide) (by decide)
  have w4 : G (ma 4) = some (arI t 10 (fm 4)) := hM1.2.1 4 (by decide) (by decide)
  have w5 : G (ma 5) = some (arI t 10 (fm 5)) := hM1.2.1 5 (by decide) (by decide)
  refine lv_iload_n hx hb d_M_rule_5 rfl (lv_at hl 1 rfl) ?_
  refine lv_i2l hx hb d_M_rule_6 rfl ?_
  refine lv_lconst (v := 0) hx hb d_M_rule_7 (by decide) ?_
  refine lv_ldc2 (v := 100000) hx hb hown (hts _ (tbm 541 (by decide +kernel))) d_M_rule_8 ?_
  refine k_M_81 X ⟨Nat.le_of_ble_eq_true rfl, Nat.le_of_ble_eq_true rfl⟩ ⟨Nat.le_of_ble_eq_true rfl, Nat.le_of_ble_eq_true rfl⟩ hl.1 hP hS (by exact Nat.le_of_ble_eq_true rfl) d_M_rule_11 (fun r_2 H locs er_2 hP hS => ?_)
  refine lv_if_eq (tgt := 50) hx hb d_M_rule_14 (by decide) (fun c_3 => ?_) (fun c_3 => ?_)
  · have t_2 := bi_0.mp (er_2 ▸ c_3)
    refine lv_iconst (v := (-1)) hx hb d_M_rule_50 (by decide) ?_
    have tw0 : wi x 0 100000 = false := by rw [← wl_i]; exact t_2
    have e9 : spRule σ x y z = (-1, σ) := by simp [spRule, tw0]
    exact h_iret hx hb hr hlocks (Nat.le_of_ble_eq_true rfl) (Nat.le_of_ble_eq_true rfl) hP hS (⟨by rw [e9], by rw [e9]; exact hX1, hK1⟩) d_M_rule_51
  · have t_2 := bi_n0.mp (er_2 ▸ c_3)
    refine lv_iload_n hx hb d_M_rule_17 rfl (lv_at hl 2 rfl) ?_
    refine lv_i2l hx hb d_M_rule_18 rfl ?_
    refine lv_lconst (v := 0) hx hb d_M_rule_19 (by decide) ?_
    refine lv_ldc2 (v := 10000000) hx hb hown (hts _ (tbm 545 (by decide +kernel))) d_M_rule_20 ?_
    refine k_M_81 X ⟨Nat.le_of_ble_eq_true rfl, Nat.le_of_ble_eq_true rfl⟩ ⟨Nat.le_of_ble_eq_true rfl, Nat.le_of_ble_eq_true rfl⟩ hl.1 hP hS (by exact Nat.le_of_ble_eq_true rfl) d_M_rule_23 (fun r_4 H locs er_4 hP hS => ?_)
    refine lv_if_eq (tgt := 50) hx hb d_M_rule_26 (by decide) (fun c_5 => ?_) (fun c_5 => ?_)
    · have t_4 := bi_0.mp (er_4 ▸ c_5)
      refine lv_iconst (v := (-1)) hx hb d_M_rule_50 (by decide) ?_
      have tw0 : wi x 0 100000 = true := by rw [← wl_i]; exact t_2
      have tw1 : wi y 0 10000000 = false := by rw [← wl_i]; exact t_4
      have e9 : spRule σ x y z = (-1, σ) := by simp [spRule, tw0, tw1]
      exact h_iret hx hb hr hlocks (Nat.le_of_ble_eq_true rfl) (Nat.le_of_ble_eq_true rfl) hP hS (⟨by rw [e9], by rw [e9]; exact hX1, hK1⟩) d_M_rule_51
    · have t_4 := bi_n0.mp (er_4 ▸ c_5)
      refine lv_iload_n hx hb d_M_rule_29 rfl (lv_at hl 3 rfl) ?_
      refine lv_i2l hx hb d_M_rule_30 rfl ?_
      refine lv_lconst (v := 0) hx hb d_M_rule_31 (by decide) ?_
      refine lv_ldc2 (v := 365) hx hb hown (hts _ (tbm 546 (by decide +kernel))) d_M_rule_32 ?_
      refine k_M_81 X ⟨Nat.le_of_ble_eq_true rfl, Nat.le_of_ble_eq_true rfl⟩ ⟨Nat.le_of_ble_eq_true rfl, Nat.le_of_ble_eq_true rfl⟩ hl.1 hP hS (by exact Nat.le_of_ble_eq_true rfl) d_M_rule_35 (fun r_6 H locs er_6 hP hS => ?_)
      refine lv_if_eq (tgt := 50) hx hb d_M_rule_38 (by decide) (fun c_7 => ?_) (fun c_7 => ?_)
      · have t_6 := bi_0.mp (er_6 ▸ c_7)
        refine lv_iconst (v := (-1)) hx hb d_M_rule_50 (by decide) ?_
        have tw0 : wi x 0 100000 = true := by rw [← wl_i]; exact t_2
        have tw1 : wi y 0 10000000 = true := by rw [← wl_i]; exact t_4
        have tw2 : wi z 0 365 = false := by rw [← wl_i]; exact t_6
        have e9 : spRule σ x y z = (-1, σ) := by simp [spRule, tw0, tw1, tw2]
        exact h_iret hx hb hr hlocks (Nat.le_of_ble_eq_true rfl) (Nat.le_of_ble_eq_true rfl) hP hS (⟨by rw [e9], by rw [e9]; exact hX1, hK1⟩) d_M_rule_51
      · have t_6 := bi_n0.mp (er_6 ▸ c_7)
        refine lv_aload_n hx hb d_M_rule_41 rfl (lv_at hl 0 rfl) ?_
        refine g_M_91 X hb hP w0 rfl d_M_rule_42 ?_
        refine lv_bipush (v := 10) hx hb d_M_rule_45 (by decide) ?_
        refine lv_icmp_ne (tgt := 52) hx hb d_M_rule_47 (by decide) (fun c_8 => ?_) (fun c_8 => ?_)
        · have hlt : sNR σ < 10 := by have h9 : ¬ sNR σ = 10 := fun z => c_8 (by rw [z]; rfl); omega
          refine lv_aload_n hx hb d_M_rule_52 rfl (lv_at hl 0 rfl) ?_
          refine g_M_7 X hb hP w0 rfl d_M_rule_53 ?_
          refine lv_aload_n hx hb d_M_rule_56 rfl (lv_at hl 0 rfl) ?_
          refine g_M_91 X hb hP w0 rfl d_M_rule_57 ?_
          refine lv_iload_n hx hb d_M_rule_60 rfl (lv_at hl 1 rfl) ?_
          refine n_iast X hb hP hS w1 ⟨hlt, by decide⟩ d_M_rule_61 (fun H locs hP hS => ?_)
          have he_9 := up_at (o := some (arI t 10 (va_up (fm 1) (sNR σ) x))) w0 (mne hinj 0 1 (by decide) (by decide) (by decide))
          have he_10 := up_at (o := some (arI t 10 (va_up (fm 1) (sNR σ) x))) w2 (mne hinj 2 1 (by decide) (by decide) (by decide))
          have he_11 := up_at (o := some (arI t 10 (va_up (fm 1) (sNR σ) x))) w3 (mne hinj 3 1 (by decide) (by decide) (by decide))
          have he_12 := up_at (o := some (arI t 10 (va_up (fm 1) (sNR σ) x))) w4 (mne hinj 4 1 (by decide) (by decide) (by decide))
          have he_13 := up_at (o := some (arI t 10 (va_up (fm 1) (sNR σ) x))) w5 (mne hinj 5 1 (by decide) (by decide) (by decide))
          have he_14 := va_up_self G (ma 1) (some (arI t 10 (va_up (fm 1) (sNR σ) x) : va_E))
          have hP : hw D vwCl A (va_up G (ma 1) (some (arI t 10 (va_up (fm 1) (sNR σ) x)))) H := hP
          refine lv_aload_n hx hb d_M_rule_62 rfl (lv_at hl 0 rfl) ?_
          refine g_M_13 X hb hP he_9 rfl d_M_rule_63 ?_
          refine lv_aload_n hx hb d_M_rule_66 rfl (lv_at hl 0 rfl) ?_
          refine g_M_91 X hb hP he_9 rfl d_M_rule_67 ?_
          refine lv_iload_n hx hb d_M_rule_70 rfl (lv_at hl 2 rfl) ?_
          refine n_iast X hb hP hS he_10 ⟨hlt, by decide⟩ d_M_rule_71 (fun H locs hP hS => ?_)
          have he_15 := up_at (o := some (arI t 10 (va_up (fm 2) (sNR σ) y))) he_9 (mne hinj 0 2 (by decide) (by decide) (by decide))
          have he_16 := up_at (o := some (arI t 10 (va_up (fm 2) (sNR σ) y))) he_11 (mne hinj 3 2 (by decide) (by decide) (by decide))
          have he_17 := up_at (o := some (arI t 10 (va_up (fm 2) (sNR σ) y))) he_12 (mne hinj 4 2 (by decide) (by decide) (by decide))
          have he_18 := up_at (o := some (arI t 10 (va_up (fm 2) (sNR σ) y))) he_13 (mne hinj 5 2 (by decide) (by decide) (by decide))
          have he_19 := up_at (o := some (arI t 10 (va_up (fm 2) (sNR σ) y))) he_14 (mne hinj 1 2 (by decide) (by decide) (by decide))
          have he_20 := va_up_self (va_up G (ma 1) (some (arI t 10 (va_up (fm 1) (sNR σ) x)))) (ma 2) (some (arI t 10 (va_up (fm 2) (sNR σ) y) : va_E))
          have hP : hw D vwCl A (va_up (va_up G (ma 1) (some (arI t 10 (va_up (fm 1) (sNR σ) x)))) (ma 2) (some (arI t 10 (va_up (fm 2) (sNR σ) y)))) H := hP
          refine lv_aload_n hx hb d_M_rule_72 rfl (lv_at hl 0 rfl) ?_
          refine g_M_16 X hb hP he_15 rfl d_M_rule_73 ?_
          refine lv_aload_n hx hb d_M_rule_76 rfl (lv_at hl 0 rfl) ?_
          refine g_M_91 X hb hP he_15 rfl d_M_rule_77 ?_
          refine lv_iload_n hx hb d_M_rule_80 rfl (lv_at hl 3 rfl) ?_
          refine n_iast X hb hP hS he_16 ⟨hlt, by decide⟩ d_M_rule_81 (fun H locs hP hS => ?_)
          have he_21 := up_at (o := some (arI t 10 (va_up (fm 3) (sNR σ) z))) he_15 (mne hinj 0 3 (by decide) (by decide) (by decide))
          have he_22 := up_at (o := some (arI t 10 (va_up (fm 3) (sNR σ) z))) he_17 (mne hinj 4 3 (by decide) (by decide) (by decide))
          have he_23 := up_at (o := some (arI t 10 (va_up (fm 3) (sNR σ) z))) he_18 (mne hinj 5 3 (by decide) (by decide) (by decide))
          have he_24 := up_at (o := some (arI t 10 (va_up (fm 3) (sNR σ) z))) he_19 (mne hinj 1 3 (by decide) (by decide) (by decide))
          have he_25 := up_at (o := some (arI t 10 (va_up (fm 3) (sNR σ) z))) he_20 (mne hinj 2 3 (by decide) (by decide) (by decide))
          have he_26 := va_up_self (va_up (va_up G (ma 1) (some (arI t 10 (va_up (fm 1) (sNR σ) x)))) (ma 2) (some (arI t 10 (va_up (fm 2) (sNR σ) y)))) (ma 3) (some (arI t 10 (va_up (fm 3) (sNR σ) z) : va_E))
          have hP : hw D vwCl A (va_up (va_up (va_up G (ma 1) (some (arI t 10 (va_up (fm 1) (sNR σ) x)))) (ma 2) (some (arI t 10 (va_up (fm 2) (sNR σ) y)))) (ma 3) (some (arI t 10 (va_up (fm 3) (sNR σ) z)))) H := hP
          refine lv_aload_n hx hb d_M_rule_82 rfl (lv_at hl 0 rfl) ?_
          refine g_M_19 X hb hP he_21 rfl d_M_rule_83 ?_
          refine lv_aload_n hx hb d_M_rule_86 rfl (lv_at hl 0 rfl) ?_
          refine g_M_91 X hb hP he_21 rfl d_M_rule_87 ?_
          refine lv_iconst (v := 0) hx hb d_M_rule_90 (by decide) ?_
          refine n_iast X hb hP hS he_22 ⟨hlt, by decide⟩ d_M_rule_91 (fun H locs hP hS => ?_)
          have he_27 := up_at (o := some (arI t 10 (va_up (fm 4) (sNR σ) 0))) he_21 (mne hinj 0 4 (by decide) (by decide) (by decide))
          have he_28 := up_at (o := some (arI t 10 (va_up (fm 4) (sNR σ) 0))) he_23 (mne hinj 5 4 (by decide) (by decide) (by decide))
          have he_29 := up_at (o := some (arI t 10 (va_up (fm 4) (sNR σ) 0))) he_24 (mne hinj 1 4 (by decide) (by decide) (by decide))
          have he_30 := up_at (o := some (arI t 10 (va_up (fm 4) (sNR σ) 0))) he_25 (mne hinj 2 4 (by decide) (by decide) (by decide))
          have he_31 := up_at (o := some (arI t 10 (va_up (fm 4) (sNR σ) 0))) he_26 (mne hinj 3 4 (by decide) (by decide) (by decide))
          have he_32 := va_up_self (va_up (va_up (va_up G (ma 1) (some (arI t 10 (va_up (fm 1) (sNR σ) x)))) (ma 2) (some (arI t 10 (va_up (fm 2) (sNR σ) y)))) (ma 3) (some (arI t 10 (va_up (fm 3) (sNR σ) z)))) (ma 4) (some (arI t 10 (va_up (fm 4) (sNR σ) 0) : va_E))
          have hP : hw D vwCl A (va_up (va_up (va_up (va_up G (ma 1) (some (arI t 10 (va_up (fm 1) (sNR σ) x)))) (ma 2) (some (arI t 10 (va_up (fm 2) (sNR σ) y)))) (ma 3) (some (arI t 10 (va_up (fm 3) (sNR σ) z)))) (ma 4) (some (arI t 10 (va_up (fm 4) (sNR σ) 0)))) H := hP
          refine lv_aload_n hx hb d_M_rule_92 rfl (lv_at hl 0 rfl) ?_
          refine g_M_22 X hb hP he_27 rfl d_M_rule_93 ?_
          refine lv_aload_n hx hb d_M_rule_96 rfl (lv_at hl 0 rfl) ?_
          refine g_M_91 X hb hP he_27 rfl d_M_rule_97 ?_
          refine lv_iconst (v := 1) hx hb d_M_rule_100 (by decide) ?_
          refine n_iast X hb hP hS he_28 ⟨hlt, by decide⟩ d_M_rule_101 (fun H locs hP hS => ?_)
          have he_33 := up_at (o := some (arI t 10 (va_up (fm 5) (sNR σ) 1))) he_27 (mne hinj 0 5 (by decide) (by decide) (by decide))
          have he_34 := up_at (o := some (arI t 10 (va_up (fm 5) (sNR σ) 1))) he_29 (mne hinj 1 5 (by decide) (by decide) (by decide))
          have he_35 := up_at (o := some (arI t 10 (va_up (fm 5) (sNR σ) 1))) he_30 (mne hinj 2 5 (by decide) (by decide) (by decide))
          have he_36 := up_at (o := some (arI t 10 (va_up (fm 5) (sNR σ) 1))) he_31 (mne hinj 3 5 (by decide) (by decide) (by decide))
          have he_37 := up_at (o := some (arI t 10 (va_up (fm 5) (sNR σ) 1))) he_32 (mne hinj 4 5 (by decide) (by decide) (by decide))
          have he_38 := va_up_self (va_up (va_up (va_up (va_up G (ma 1) (some (arI t 10 (va_up (fm 1) (sNR σ) x)))) (ma 2) (some (arI t 10 (va_up (fm 2) (sNR σ) y)))) (ma 3) (some (arI t 10 (va_up (fm 3) (sNR σ) z)))) (ma 4) (some (arI t 10 (va_up (fm 4) (sNR σ) 0)))) (ma 5) (some (arI t 10 (va_up (fm 5) (sNR σ) 1) : va_E))
          have hP : hw D vwCl A (va_up (va_up (va_up (va_up (va_up G (ma 1) (some (arI t 10 (va_up (fm 1) (sNR σ) x)))) (ma 2) (some (arI t 10 (va_up (fm 2) (sNR σ) y)))) (ma 3) (some (arI t 10 (va_up (fm 3) (sNR σ) z)))) (ma 4) (some (arI t 10 (va_up (fm 4) (sNR σ) 0)))) (ma 5) (some (arI t 10 (va_up (fm 5) (sNR σ) 1)))) H := hP
          refine lv_aload_n hx hb d_M_rule_102 rfl (lv_at hl 0 rfl) ?_
          refine lv_dup hx hb d_M_rule_103 rfl ?_
          refine g_M_91 X hb hP he_33 rfl d_M_rule_104 ?_
          refine lv_iconst (v := 1) hx hb d_M_rule_107 (by decide) ?_
          refine lv_iadd hx hb d_M_rule_108 ?_
          refine lv_topi (fun x_39 ex_39 => ?_)
          refine p_M_91 X hb hP hS he_33 (Nat.le_of_ble_eq_true rfl) d_M_rule_109 (fun H locs hP hS => ?_)
          have he_40 := up_at (o := some (.inr (6, [.int 0, .int x_39, .int (nI (sNL σ)), .int (nI (sND σ)), .int (nI (sNC σ)), .ref (ma 1), .ref (ma 2), .ref (ma 3), .ref (ma 4), .ref (ma 5), .ref (ma 6), .ref (ma 7), .ref (ma 8), .ref (ma 9), .ref (ma 10), .ref (ma 11), .ref (ma 12), .ref (ma 13), .ref (ma 14), .ref (ma 15), .ref (ma 16), .ref (ma 17), .ref (ma 18), .ref (ma 19), .ref (ma 20), .int (sTH σ)]))) he_34 (mne hinj 1 0 (by decide) (by decide) (by decide))
          have he_41 := up_at (o := some (.inr (6, [.int 0, .int x_39, .int (nI (sNL σ)), .int (nI (sND σ)), .int (nI (sNC σ)), .ref (ma 1), .ref (ma 2), .ref (ma 3), .ref (ma 4), .ref (ma 5), .ref (ma 6), .ref (ma 7), .ref (ma 8), .ref (ma 9), .ref (ma 10), .ref (ma 11), .ref (ma 12), .ref (ma 13), .ref (ma 14), .ref (ma 15), .ref (ma 16), .ref (ma 17), .ref (ma 18), .ref (ma 19), .ref (ma 20), .int (sTH σ)]))) he_35 (mne hinj 2 0 (by decide) (by decide) (by decide))
          have he_42 := up_at (o := some (.inr (6, [.int 0, .int x_39, .int (nI (sNL σ)), .int (nI (sND σ)), .int (nI (sNC σ)), .ref (ma 1), .ref (ma 2), .ref (ma 3), .ref (ma 4), .ref (ma 5), .ref (ma 6), .ref (ma 7), .ref (ma 8), .ref (ma 9), .ref (ma 10), .ref (ma 11), .ref (ma 12), .ref (ma 13), .ref (ma 14), .ref (ma 15), .ref (ma 16), .ref (ma 17), .ref (ma 18), .ref (ma 19), .ref (ma 20), .int (sTH σ)]))) he_36 (mne hinj 3 0 (by decide) (by decide) (by decide))
          have he_43 := up_at (o := some (.inr (6, [.int 0, .int x_39, .int (nI (sNL σ)), .int (nI (sND σ)), .int (nI (sNC σ)), .ref (ma 1), .ref (ma 2), .ref (ma 3), .ref (ma 4), .ref (ma 5), .ref (ma 6), .ref (ma 7), .ref (ma 8), .ref (ma 9), .ref (ma 10), .ref (ma 11), .ref (ma 12), .ref (ma 13), .ref (ma 14), .ref (ma 15), .ref (ma 16), .ref (ma 17), .ref (ma 18), .ref (ma 19), .ref (ma 20), .int (sTH σ)]))) he_37 (mne hinj 4 0 (by decide) (by decide) (by decide))
          have he_44 := up_at (o := some (.inr (6, [.int 0, .int x_39, .int (nI (sNL σ)), .int (nI (sND σ)), .int (nI (sNC σ)), .ref (ma 1), .ref (ma 2), .ref (ma 3), .ref (ma 4), .ref (ma 5), .ref (ma 6), .ref (ma 7), .ref (ma 8), .ref (ma 9), .ref (ma 10), .ref (ma 11), .ref (ma 12), .ref (ma 13), .ref (ma 14), .ref (ma 15), .ref (ma 16), .ref (ma 17), .ref (ma 18), .ref (ma 19), .ref (ma 20), .int (sTH σ)]))) he_38 (mne hinj 5 0 (by decide) (by decide) (by decide))
          have he_45 := va_up_self (va_up (va_up (va_up (va_up (va_up G (ma 1) (some (arI t 10 (va_up (fm 1) (sNR σ) x)))) (ma 2) (some (arI t 10 (va_up (fm 2) (sNR σ) y)))) (ma 3) (some (arI t 10 (va_up (fm 3) (sNR σ) z)))) (ma 4) (some (arI t 10 (va_up (fm 4) (sNR σ) 0)))) (ma 5) (some (arI t 10 (va_up (fm 5) (sNR σ) 1)))) (ma 0) (some (.inr (6, [.int 0, .int x_39, .int (nI (sNL σ)), .int (nI (sND σ)), .int (nI (sNC σ)), .ref (ma 1), .ref (ma 2), .ref (ma 3), .ref (ma 4), .ref (ma 5), .ref (ma 6), .ref (ma 7), .ref (ma 8), .ref (ma 9), .ref (ma 10), .ref (ma 11), .ref (ma 12), .ref (ma 13), .ref (ma 14), .ref (ma 15), .ref (ma 16), .ref (ma 17), .ref (ma 18), .ref (ma 19), .ref (ma 20), .int (sTH σ)]) : va_E))
          have hP : hw D vwCl A (va_up (va_up (va_up (va_up (va_up (va_up G (ma 1) (some (arI t 10 (va_up (fm 1) (sNR σ) x)))) (ma 2) (some (arI t 10 (va_up (fm 2) (sNR σ) y)))) (ma 3) (some (arI t 10 (va_up (fm 3) (sNR σ) z)))) (ma 4) (some (arI t 10 (va_up (fm 4) (sNR σ) 0)))) (ma 5) (some (arI t 10 (va_up (fm 5) (sNR σ) 1)))) (ma 0) (some (.inr (6, [.int 0, .int x_39, .int (nI (sNL σ)), .int (nI (sND σ)), .int (nI (sNC σ)), .ref (ma 1), .ref (ma 2), .ref (ma 3), .ref (ma 4), .ref (ma 5), .ref (ma 6), .ref (ma 7), .ref (ma 8), .ref (ma 9), .ref (ma 10), .ref (ma 11), .ref (ma 12), .ref (ma 13), .ref (ma 14), .ref (ma 15), .ref (ma 16), .ref (ma 17), .ref (ma 18), .ref (ma 19), .ref (ma 20), .int (sTH σ)])))) H := hP
          obtain rfl : x_39 = nI (sNR σ + 1) := by rw [ex_39]; exact nI_1 _
          refine lv_aload_n hx hb d_M_rule_112 rfl (lv_at hl 0 rfl) ?_
          refine g_M_91 X hb hP he_45 rfl d_M_rule_113 ?_
          refine lv_iconst (v := 1) hx hb d_M_rule_116 (by decide) ?_
          refine lv_isub hx hb d_M_rule_117 ?_
          have tw0 : wi x 0 100000 = true := by rw [← wl_i]; exact t_2
          have tw1 : wi y 0 10000000 = true := by rw [← wl_i]; exact t_4
          have tw2 : wi z 0 365 = true := by rw [← wl_i]; exact t_6
          have e9 : spRule σ x y z = (nI (sNR σ), ((sNR σ + 1, va_up (sRV σ) (sNR σ) (x, y, z, 0, 0)), σ.2)) := by simp [spRule, hlt, tw0, tw1, tw2]
          exact h_iret hx hb hr hlocks (Nat.le_of_ble_eq_true rfl) (Nat.le_of_ble_eq_true rfl) hP hS (⟨by rw [e9, nI_pred], by rw [e9]; exact ⟨_, _, MC.put (MC.ai (MC.ai (MC.ai (MC.ai (MC.ai (hM1) 1 ⟨by decide, by decide⟩ (sNR σ) x) 2 ⟨by decide, by decide⟩ (sNR σ) y) 3 ⟨by decide, by decide⟩ (sNR σ) z) 4 ⟨by decide, by decide⟩ (sNR σ) 0) 5 ⟨by decide, by decide⟩ (sNR σ) 1) 0 (nI (sNR σ + 1)) (nI (sNL σ)) (nI (sND σ)) (nI (sNC σ)) (sTH σ), MRel_rule hRr x y z⟩, Keep.up (Keep.up (Keep.up (Keep.up (Keep.up (Keep.up (hK1) (Or.inl (mF_i ma 1 (by decide)))) (Or.inl (mF_i ma 2 (by decide)))) (Or.inl (mF_i ma 3 (by decide)))) (Or.inl (mF_i ma 4 (by decide)))) (Or.inl (mF_i ma 5 (by decide)))) (Or.inl (mF_i ma 0 (by decide)))⟩) d_M_rule_118
        · refine lv_iconst (v := (-1)) hx hb d_M_rule_50 (by decide) ?_
          have tw0 : wi x 0 100000 = true := by rw [← wl_i]; exact t_2
          have tw1 : wi y 0 10000000 = true := by rw [← wl_i]; exact t_4
          have tw2 : wi z 0 365 = true := by rw [← wl_i]; exact t_6
          have hlt : ¬ sNR σ < 10 := by have h9 := (nI_small (by omega) (b := 10) (by decide)).mp c_8; omega
          have e9 : spRule σ x y z = (-1, σ) := by simp [spRule, tw0, tw1, tw2, hlt]
          exact h_iret hx hb hr hlocks (Nat.le_of_ble_eq_true rfl) (Nat.le_of_ble_eq_true rfl) hP hS (⟨by rw [e9], by rw [e9]; exact hX1, hK1⟩) d_M_rule_51
theorem k_W_22 {p : Program} {l : Launch} {e : Env} {R : Room} {s : State} {m : MethodId} {args : Array Value} {below : List Frame} {meth : Method} {c : Code} {H : Heap} {locs : List Loc} {cells slots : Nat} {Q : State → Prop} {cc : ByteArray} {pc : Nat} {ls : Array Slot} {rest : List Value} {D : va_G} {A : Nat → Prop} {t : Nat → ClassId} {g : hG} {nL : Nat} {ret0 : Option FieldType} {nm : String} (X : Cx p s m args meth c R_W cc nL ret0 TB D vwCl (tyL t) EX A nm) (hR : 1 + 1 ≤ R.frames ∧ 8 + (4 + 11) + 25 ≤ R.locals) (hf : cells + 0 ≤ R.cells ∧ slots + 0 ≤ R.slots) (hls : ls.size = nL) (hP : hw D vwCl A g H) (hS : va_S A s.heap H locs) {ma : Nat → Nat} {tv : Int32} {σ : SS} {x y z : Int32} {fs9 : List Value} (he9 : g (ma 0) = some (.inr (6, fs9))) (hMx : RMx t ma tv σ g) (hV : Inv σ)  (hW : (rest.map fun v => v.category).sum ≤ 8) (hdg : decode cc pc = .ok (.invokevirtual 22, 3)) (kk : ∀ (r : Int32) (u : hG) (H1 : Heap) (locs1 : List Loc), ((fun r u => r = (spRule σ x y z).1 ∧ RMx t ma 0 (spRule σ x y z).2 u ∧ Keep (mF ma) g u) r u) → hw D vwCl A u H1 → va_S A s.heap H1 locs1 → W p l e R s m args below meth c H1 locs1 (cells + 0) (slots + 0) Q (F0 m (pc + 3) ls (.int r :: rest))) : W p l e R s m args below meth c H locs cells slots Q (F0 m pc ls (.int z :: .int y :: .int x :: .ref (ma 0) :: rest)) :=
  h_ci (runV (C := R_M) (T := F_M) (N := 26) X (c_M_rule l D t A g ma tv σ x y z hMx hV) (tbm 537 (by decide +kernel)) (tbm 538 (by decide +kernel)) (tbm 539 (by decide +kernel)) (tbm 23 (by decide +kernel)) (tbm 540 (by decide +kernel)) rfl (n := 3) (by decide +kernel) hR hf hP he9 hS hls rfl rfl hW hdg) hS kk

theorem cadd_cl (f : Nat → Int64) (x : Int64) (n : Nat) (hn : n ≤ 100) (hx : wd x = true) : clB f x n = !decide (cB f (x - 1) x n ≤ 0) := by
  have hd : 0 ≤ x ∧ x ≤ 1000000 := by simpa [wd] using hx
  have e1 : (x - 1).toInt = x.toInt - 1 := by
    obtain ⟨h1, h2⟩ := hd
    rw [Int64.le_iff_toInt_le] at h1 h2
    have e0 : (0 : Int64).toInt = 0 := by decide
    have e6 : (1000000 : Int64).toInt = 1000000 := by decide
    have e3 : (1 : Int64).toInt = 1 := by decide
    rw [Int64.toInt_sub, e3]
    exact Int.bmod_eq_of_le (by omega) (by omega)
  have key : ∀ k, (x - 1 < f k ∧ f k ≤ x) ↔ f k = x := fun k => by
    rw [Int64.lt_iff_toInt_lt, Int64.le_iff_toInt_le, ← Int64.toInt_inj, e1]
    omega
  have main : ∀ n, ∃ m, m ≤ n ∧ cB f (x - 1) x n = nI m ∧ clB f x n = decide (0 < m) := by
    intro n
    induction n with
    | zero => exact ⟨0, Nat.le_refl 0, rfl, rfl⟩
    | succ n ih =>
      obtain ⟨m, h1, h2, h3⟩ := ih
      by_cases e : f n = x
      · refine ⟨m + 1, by omega, ?_, ?_⟩
        · rw [cB, if_pos ((key n).mpr e), h2, nI_1]
        · simp [clB, e]
      · refine ⟨m, by omega, ?_, ?_⟩
        · rw [cB, if_neg (fun q => e ((key n).mp q)), h2]
        · simp [clB, e, h3]
  obtain ⟨m, h1, h2, h3⟩ := main n
  rw [h2, h3]
  by_cases e : m = 0
  · subst e; rfl
  · have h4 : ¬ nI m ≤ 0 := fun q => e (by have := (nI_leI (a := m) (b := 0) (by omega) (by omega)).mp q; omega)
    simp [h4, Nat.pos_of_ne_zero e]
theorem cadd_n {f : Nat → Int64} {x : Int64} {n : Nat} (hn : n ≤ 100) (hx : wd x = true) (h : clB f x n = true) : cadd f n x = false := by
  rw [cadd_cl f x n hn hx] at h
  have h9 : decide (cB f (x - 1) x n ≤ 0) = false := by simpa using h
  simp [cadd, h9]
theorem cadd_y {f : Nat → Int64} {x : Int64} {n : Nat} (hn : n < 100) (hx : wd x = true) (h : clB f x n = false) : cadd f n x = true := by
  rw [cadd_cl f x n (Nat.le_of_lt hn) hx] at h
  have h9 : decide (cB f (x - 1) x n ≤ 0) = true := by simpa using h
  simp [cadd, h9, hn]
set_option maxHeartbeats 4000000 in
set_option maxRecDepth 100000 in
theorem c_M_closed (l : Launch) (D : va_G) (t : Nat → ClassId) (A : Nat → Prop) (g : hG) (ma : Nat → Nat) (tv : Int32) (σ : SS) (x : Int64) (hMx : RMx t ma tv σ g) (hV : Inv σ) : Met l y_M_closed (Cond.code y_M_closed b_M_closed 3 (some .int) :: TB) ({ frames := 2, cells := 0, slots := 0, locals := 46 } : Room) (va_Pc [.ref (ma 0), .long x] (hI D vwCl (tyL t) EX A g)) (va_Qi (fun r u => r = (spClosed σ x).1 ∧ RMx t ma 0 (spClosed σ x).2 u ∧ Keep (mF ma) g u) (fun u v => hw D vwCl A u v.heap) A) 0 0 A := by
  refine Met.ofH (cc := b_M_closed) (maxL := 3) (ret := (some .int)) (lv := [(0, .ref (ma 0)), (1, .long x)]) (by decide) (Nat.le_of_ble_eq_true rfl) rfl ?_
  intro p e s m below meth c ls X hP hS hl
  obtain ⟨hx, hb, hml, hr, hts, hown, hlocks, hK, hEs, hA, hnm⟩ := id X
  obtain ⟨fm, fj, hM, hR1, hR2, hR3, hR6, hR20, hR11⟩ := id hMx
  have m0 := hM.1
  have hinj := hM.2.2
  have hn1 := hV.1.1
  have hn2 := hV.1.2.1
  have hn3 := hV.1.2.2.1
  have hn4 := hV.1.2.2.2
  have hRr : MRel fm fj σ := ⟨hR1, hR2, hR3, hR6, hR20, hR11⟩
  refine lv_aload_n hx hb d_M_closed_0 rfl (lv_at hl 0 rfl) ?_
  refine lv_iconst (v := 0) hx hb d_M_closed_1 (by decide) ?_
  refine p_M_76 X hb hP hS m0 (Nat.le_of_ble_eq_true rfl) d_M_closed_2 (fun H locs hP hS => ?_)
  have he_1 := va_up_self g (ma 0) (some (.inr (6, [.int 0, .int (nI (sNR σ)), .int (nI (sNL σ)), .int (nI (sND σ)), .int (nI (sNC σ)), .ref (ma 1), .ref (ma 2), .ref (ma 3), .ref (ma 4), .ref (ma 5), .ref (ma 6), .ref (ma 7), .ref (ma 8), .ref (ma 9), .ref (ma 10), .ref (ma 11), .ref (ma 12), .ref (ma 13), .ref (ma 14), .ref (ma 15), .ref (ma 16), .ref (ma 17), .ref (ma 18), .ref (ma 19), .ref (ma 20), .int (sTH σ)]) : va_E))
  have hP : hw D vwCl A (va_up g (ma 0) (some (.inr (6, [.int 0, .int (nI (sNR σ)), .int (nI (sNL σ)), .int (nI (sND σ)), .int (nI (sNC σ)), .ref (ma 1), .ref (ma 2), .ref (ma 3), .ref (ma 4), .ref (ma 5), .ref (ma 6), .ref (ma 7), .ref (ma 8), .ref (ma 9), .ref (ma 10), .ref (ma 11), .ref (ma 12), .ref (ma 13), .ref (ma 14), .ref (ma 15), .ref (ma 16), .ref (ma 17), .ref (ma 18), .ref (ma 19), .ref (ma 20), .int (sTH σ)])))) H := hP
  have hM1 : MC t (va_up g (ma 0) (some (mOb ma 0 (nI (sNR σ)) (nI (sNL σ)) (nI (sND σ)) (nI (sNC σ)) (sTH σ)))) ma 0 (nI (sNR σ)) (nI (sNL σ)) (nI (sND σ)) (nI (sNC σ)) (sTH σ) fm fj := MC.put hM 0 _ _ _ _ _
  have hK1 : Keep (mF ma) g (va_up g (ma 0) (some (mOb ma 0 (nI (sNR σ)) (nI (sNL σ)) (nI (sND σ)) (nI (sNC σ)) (sTH σ)))) := Keep.up Keep.rf (Or.inl (mF_i ma 0 (by decide)))
  have hP : hw D vwCl A (va_up g (ma 0) (some (mOb ma 0 (nI (sNR σ)) (nI (sNL σ)) (nI (sND σ)) (nI (sNC σ)) (sTH σ)))) H := hP
  generalize va_up g (ma 0) (some (mOb ma 0 (nI (sNR σ)) (nI (sNL σ)) (nI (sND σ)) (nI (sNC σ)) (sTH σ))) = G at hM1 hK1 hP
  have hX1 : RMx t ma 0 σ G := ⟨fm, fj, hM1, hRr⟩
  have w0 := hM1.1
  have w6 : G (ma 6) = some (arJ t 100 (fj 6)) := hM1.2.1 6 (by decide) (by decide)
  refine lv_lload_n hx hb d_M_closed_5 rfl (lv_at hl 1 rfl) ?_
  refine k_M_100 X ⟨Nat.le_of_ble_eq_true rfl, Nat.le_of_ble_eq_true rfl⟩ ⟨Nat.le_of_ble_eq_true rfl, Nat.le_of_ble_eq_true rfl⟩ hl.1 hP hS (by exact Nat.le_of_ble_eq_true rfl) d_M_closed_6 (fun r_2 H locs er_2 hP hS => ?_)
  refine lv_if_eq (tgt := 29) hx hb d_M_closed_9 (by decide) (fun c_3 => ?_) (fun c_3 => ?_)
  · have t_2 := bi_0.mp (er_2 ▸ c_3)
    refine lv_iconst (v := 0) hx hb d_M_closed_29 (by decide) ?_
    have e9 : spClosed σ x = (0, σ) := by simp [spClosed, t_2]
    exact h_iret hx hb hr hlocks (Nat.le_of_ble_eq_true rfl) (Nat.le_of_ble_eq_true rfl) hP hS (⟨by rw [e9], by rw [e9]; exact hX1, hK1⟩) d_M_closed_30
  · have t_2 := bi_n0.mp (er_2 ▸ c_3)
    refine lv_aload_n hx hb d_M_closed_12 rfl (lv_at hl 0 rfl) ?_
    refine lv_lload_n hx hb d_M_closed_13 rfl (lv_at hl 1 rfl) ?_
    refine k_M_104 X ⟨Nat.le_of_ble_eq_true rfl, Nat.le_of_ble_eq_true rfl⟩ ⟨Nat.le_of_ble_eq_true rfl, Nat.le_of_ble_eq_true rfl⟩ hl.1 hP hS w0 hX1 hV (by exact Nat.le_of_ble_eq_true rfl) d_M_closed_14 (fun r_4 H locs er_4 hP hS => ?_)
    refine lv_if_ne (tgt := 29) hx hb d_M_closed_17 (by decide) (fun c_5 => ?_) (fun c_5 => ?_)
    · have t_4 := bi_n0.mp (er_4 ▸ c_5)
      refine lv_iconst (v := 0) hx hb d_M_closed_29 (by decide) ?_
      have e9 : spClosed σ x = (0, σ) := by simp [spClosed, t_2, cadd_n hV.1.2.2.2 t_2 t_4]
      exact h_iret hx hb hr hlocks (Nat.le_of_ble_eq_true rfl) (Nat.le_of_ble_eq_true rfl) hP hS (⟨by rw [e9], by rw [e9]; exact hX1, hK1⟩) d_M_closed_30
    · have t_4 := bi_0.mp (er_4 ▸ c_5)
      refine lv_aload_n hx hb d_M_closed_20 rfl (lv_at hl 0 rfl) ?_
      refine g_M_97 X hb hP w0 rfl d_M_closed_21 ?_
      refine lv_bipush (v := 100) hx hb d_M_closed_24 (by decide) ?_
      refine lv_icmp_ne (tgt := 31) hx hb d_M_closed_26 (by decide) (fun c_6 => ?_) (fun c_6 => ?_)
      · have hlt : sNC σ < 100 := by have h9 : ¬ sNC σ = 100 := fun z => c_6 (by rw [z]; rfl); omega
        refine lv_aload_n hx hb d_M_closed_31 rfl (lv_at hl 0 rfl) ?_
        refine g_M_25 X hb hP w0 rfl d_M_closed_32 ?_
        refine lv_aload_n hx hb d_M_closed_35 rfl (lv_at hl 0 rfl) ?_
        refine g_M_97 X hb hP w0 rfl d_M_closed_36 ?_
        refine lv_lload_n hx hb d_M_closed_39 rfl (lv_at hl 1 rfl) ?_
        refine n_last X hb hP hS w6 ⟨hlt, by decide⟩ d_M_closed_40 (fun H locs hP hS => ?_)
        have he_7 := up_at (o := some (arJ t 100 (va_up (fj 6) (sNC σ) x))) w0 (mne hinj 0 6 (by decide) (by decide) (by decide))
        have he_8 := va_up_self G (ma 6) (some (arJ t 100 (va_up (fj 6) (sNC σ) x) : va_E))
        have hP : hw D vwCl A (va_up G (ma 6) (some (arJ t 100 (va_up (fj 6) (sNC σ) x)))) H := hP
        refine lv_aload_n hx hb d_M_closed_41 rfl (lv_at hl 0 rfl) ?_
        refine lv_dup hx hb d_M_closed_42 rfl ?_
        refine g_M_97 X hb hP he_7 rfl d_M_closed_43 ?_
        refine lv_iconst (v := 1) hx hb d_M_closed_46 (by decide) ?_
        refine lv_iadd hx hb d_M_closed_47 ?_
        refine lv_topi (fun x_9 ex_9 => ?_)
        refine p_M_97 X hb hP hS he_7 (Nat.le_of_ble_eq_true rfl) d_M_closed_48 (fun H locs hP hS => ?_)
        have he_10 := up_at (o := some (.inr (6, [.int 0, .int (nI (sNR σ)), .int (nI (sNL σ)), .int (nI (sND σ)), .int x_9, .ref (ma 1), .ref (ma 2), .ref (ma 3), .ref (ma 4), .ref (ma 5), .ref (ma 6), .ref (ma 7), .ref (ma 8), .ref (ma 9), .ref (ma 10), .ref (ma 11), .ref (ma 12), .ref (ma 13), .ref (ma 14), .ref (ma 15), .ref (ma 16), .ref (ma 17), .ref (ma 18), .ref (ma 19), .ref (ma 20), .int (sTH σ)]))) he_8 (mne hinj 6 0 (by decide) (by decide) (by decide))
        have he_11 := va_up_self (va_up G (ma 6) (some (arJ t 100 (va_up (fj 6) (sNC σ) x)))) (ma 0) (some (.inr (6, [.int 0, .int (nI (sNR σ)), .int (nI (sNL σ)), .int (nI (sND σ)), .int x_9, .ref (ma 1), .ref (ma 2), .ref (ma 3), .ref (ma 4), .ref (ma 5), .ref (ma 6), .ref (ma 7), .ref (ma 8), .ref (ma 9), .ref (ma 10), .ref (ma 11), .ref (ma 12), .ref (ma 13), .ref (ma 14), .ref (ma 15), .ref (ma 16), .ref (ma 17), .ref (ma 18), .ref (ma 19), .ref (ma 20), .int (sTH σ)]) : va_E))
        have hP : hw D vwCl A (va_up (va_up G (ma 6) (some (arJ t 100 (va_up (fj 6) (sNC σ) x)))) (ma 0) (some (.inr (6, [.int 0, .int (nI (sNR σ)), .int (nI (sNL σ)), .int (nI (sND σ)), .int x_9, .ref (ma 1), .ref (ma 2), .ref (ma 3), .ref (ma 4), .ref (ma 5), .ref (ma 6), .ref (ma 7), .ref (ma 8), .ref (ma 9), .ref (ma 10), .ref (ma 11), .ref (ma 12), .ref (ma 13), .ref (ma 14), .ref (ma 15), .ref (ma 16), .ref (ma 17), .ref (ma 18), .ref (ma 19), .ref (ma 20), .int (sTH σ)])))) H := hP
        obtain rfl : x_9 = nI (sNC σ + 1) := by rw [ex_9]; exact nI_1 _
        refine lv_aload_n hx hb d_M_closed_51 rfl (lv_at hl 0 rfl) ?_
        refine g_M_97 X hb hP he_11 rfl d_M_closed_52 ?_
        have e9 : spClosed σ x = (nI (sNC σ + 1), (σ.1, σ.2.1, σ.2.2.1, (sNC σ + 1, va_up (sCD σ) (sNC σ) x), σ.2.2.2.2)) := by simp [spClosed, t_2, cadd_y hlt t_2 t_4]
        exact h_iret hx hb hr hlocks (Nat.le_of_ble_eq_true rfl) (Nat.le_of_ble_eq_true rfl) hP hS (⟨by rw [e9], by rw [e9]; exact ⟨_, _, MC.put (MC.aj (hM1) 6 ⟨by decide, by decide⟩ (sNC σ) x) 0 (nI (sNR σ)) (nI (sNL σ)) (nI (sND σ)) (nI (sNC σ + 1)) (sTH σ), MRel_closed hRr x⟩, Keep.up (Keep.up (hK1) (Or.inl (mF_i ma 6 (by decide)))) (Or.inl (mF_i ma 0 (by decide)))⟩) d_M_closed_55
      · refine lv_iconst (v := 0) hx hb d_M_closed_29 (by decide) ?_
        have e9 : spClosed σ x = (0, σ) := by have h9 := (nI_small (by omega) (b := 100) (by decide)).mp c_6; simp [spClosed, t_2, cadd, h9]
        exact h_iret hx hb hr hlocks (Nat.le_of_ble_eq_true rfl) (Nat.le_of_ble_eq_true rfl) hP hS (⟨by rw [e9], by rw [e9]; exact hX1, hK1⟩) d_M_closed_30
theorem k_W_39 {p : Program} {l : Launch} {e : Env} {R : Room} {s : State} {m : MethodId} {args : Array Value} {below : List Frame} {meth : Method} {c : Code} {H : Heap} {locs : List Loc} {cells slots : Nat} {Q : State → Prop} {cc : ByteArray} {pc : Nat} {ls : Array Slot} {rest : List Value} {D : va_G} {A : Nat → Prop} {t : Nat → ClassId} {g : hG} {nL : Nat} {ret0 : Option FieldType} {nm : String} (X : Cx p s m args meth c R_W cc nL ret0 TB D vwCl (tyL t) EX A nm) (hR : 2 + 1 ≤ R.frames ∧ 8 + (3 + 11) + 46 ≤ R.locals) (hf : cells + 0 ≤ R.cells ∧ slots + 0 ≤ R.slots) (hls : ls.size = nL) (hP : hw D vwCl A g H) (hS : va_S A s.heap H locs) {ma : Nat → Nat} {tv : Int32} {σ : SS} {x : Int64} {fs9 : List Value} (he9 : g (ma 0) = some (.inr (6, fs9))) (hMx : RMx t ma tv σ g) (hV : Inv σ)  (hW : (rest.map fun v => v.category).sum ≤ 8) (hdg : decode cc pc = .ok (.invokevirtual 39, 3)) (kk : ∀ (r : Int32) (u : hG) (H1 : Heap) (locs1 : List Loc), ((fun r u => r = (spClosed σ x).1 ∧ RMx t ma 0 (spClosed σ x).2 u ∧ Keep (mF ma) g u) r u) → hw D vwCl A u H1 → va_S A s.heap H1 locs1 → W p l e R s m args below meth c H1 locs1 (cells + 0) (slots + 0) Q (F0 m (pc + 3) ls (.int r :: rest))) : W p l e R s m args below meth c H locs cells slots Q (F0 m pc ls (.long x :: .ref (ma 0) :: rest)) :=
  h_ci (runV (C := R_M) (T := F_M) (N := 26) X (c_M_closed l D t A g ma tv σ x hMx hV) (tbm 554 (by decide +kernel)) (tbm 555 (by decide +kernel)) (tbm 556 (by decide +kernel)) (tbm 23 (by decide +kernel)) (tbm 557 (by decide +kernel)) rfl (n := 1) (by decide +kernel) hR hf hP he9 hS hls rfl rfl hW hdg) hS kk
