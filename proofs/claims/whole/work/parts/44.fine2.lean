set_option maxHeartbeats 4000000 in
set_option maxRecDepth 100000 in
theorem c_F_threshold (l : Launch) (D : va_G) (t : Nat → ClassId) (A : Nat → Prop) (g : hG) (F : Nat → Prop) (ad : Nat → Nat) (σ : SS) (x : Int32) (hRx : RCx F t ad σ g) (hV : Inv σ) : Met l y_F_threshold (Cond.code y_F_threshold b_F_threshold 3 (some .int) :: TB) ({ frames := 1, cells := 0, slots := 0, locals := 22 } : Room) (va_Pc [.ref (ad 0), .int x] (hI D vwCl (tyL t) EX A g)) (va_Qi (fun r u => r = (spTh σ x).1 ∧ RCx (gr F g) t ad (spTh σ x).2 u ∧ Keep F g u) (fun u v => hw D vwCl A u v.heap) A) 0 0 A := by
  refine Met.ofH (cc := b_F_threshold) (maxL := 3) (ret := (some .int)) (lv := [(0, .ref (ad 0)), (1, .int x)]) (by decide) (Nat.le_of_ble_eq_true rfl) rfl ?_
  intro p e s m below meth c ls X hP hS hl
  obtain ⟨hx, hb, hml, hr, hts, hown, hlocks, hK, hEs, hA, hnm⟩ := id X
  obtain ⟨aR, aL, aD, fR, fL, fI, fN, fB, hRc⟩ := id hRx
  obtain ⟨h0, ⟨h1, h1f⟩, ⟨h2, h2f⟩, ⟨h3, h3f⟩, h4, h5, h6, ⟨h7, h7f⟩, ⟨h8, h8f⟩, h9, hRr, hLl, hDd, h78, ⟨iR, iL, iD⟩, f0, f1, f2, f3⟩ := id hRc
  have hn1 := hV.1.1
  have hn2 := hV.1.2.1
  have hn3 := hV.1.2.2.1
  have hn4 := hV.1.2.2.2
  refine lv_iload_n hx hb d_F_threshold_0 rfl (lv_at hl 1 rfl) ?_
  refine lv_iconst (v := 1) hx hb d_F_threshold_1 (by decide) ?_
  refine lv_ldc (v := 1000000) hx hb hown (hts _ (tbm 357 (by decide +kernel))) d_F_threshold_2 ?_
  refine k_F_47 X ⟨Nat.le_of_ble_eq_true rfl, Nat.le_of_ble_eq_true rfl⟩ ⟨Nat.le_of_ble_eq_true rfl, Nat.le_of_ble_eq_true rfl⟩ hl.1 hP hS (by exact Nat.le_of_ble_eq_true rfl) d_F_threshold_4 (fun r_1 H locs er_1 hP hS => ?_)
  refine lv_if_ne (tgt := 12) hx hb d_F_threshold_7 (by decide) (fun c_2 => ?_) (fun c_2 => ?_)
  · have t_1 := bi_n0.mp (er_1 ▸ c_2)
    refine lv_aload_n hx hb d_F_threshold_12 rfl (lv_at hl 0 rfl) ?_
    refine g_F_42 X hb hP h0 rfl d_F_threshold_13 ?_
    refine lv_topi (fun x_3 ex_3 => ?_)
    refine lv_istore_n (lv' := [(2, .int x_3), (0, .ref (ad 0)), (1, .int x)]) hx hb d_F_threshold_16 rfl hl (by decide) rfl (fun ls hl => ?_)
    refine lv_aload_n hx hb d_F_threshold_17 rfl (lv_at hl 1 rfl) ?_
    refine lv_iload_n hx hb d_F_threshold_18 rfl (lv_at hl 2 rfl) ?_
    refine p_F_42 X hb hP hS h0 (Nat.le_of_ble_eq_true rfl) d_F_threshold_19 (fun H locs hP hS => ?_)
    have he_4 := va_up_self g (ad 0) (some (.inr (0, [.ref (ad 1), .int (nI (sNR σ)), .ref (ad 2), .int (nI (sNL σ)), .ref (ad 3), .ref (ad 4), .ref (ad 5), .ref (ad 6), .int x]) : va_E))
    have hP : hw D vwCl A (va_up g (ad 0) (some (.inr (0, [.ref (ad 1), .int (nI (sNR σ)), .ref (ad 2), .int (nI (sNL σ)), .ref (ad 3), .ref (ad 4), .ref (ad 5), .ref (ad 6), .int x])))) H := hP
    refine lv_iload_n hx hb d_F_threshold_22 rfl (lv_at hl 0 rfl) ?_
    have e9 : spTh σ x = (sTH σ, (σ.1, σ.2.1, σ.2.2.1, σ.2.2.2.1, σ.2.2.2.2.1, x, σ.2.2.2.2.2.2)) := by simp [spTh, t_1]
    exact h_iret hx hb hr hlocks (Nat.le_of_ble_eq_true rfl) (Nat.le_of_ble_eq_true rfl) hP hS (⟨by rw [e9, ex_3], by rw [e9]; exact ⟨_, _, _, _, _, _, _, _, (RC.th hRc x).mono (fun _ h => Or.inl h)⟩, Keep.up Keep.rf (Or.inl (f0 0 (by decide)))⟩) d_F_threshold_23
  · have t_1 := bi_0.mp (er_1 ▸ c_2)
    refine lv_iconst (v := (-1)) hx hb d_F_threshold_10 (by decide) ?_
    have e9 : spTh σ x = (-1, σ) := by simp [spTh, t_1]
    exact h_iret hx hb hr hlocks (Nat.le_of_ble_eq_true rfl) (Nat.le_of_ble_eq_true rfl) hP hS (⟨by rw [e9], by rw [e9]; exact hRx.mono (fun _ h => Or.inl h), Keep.rf⟩) d_F_threshold_11
theorem k_W_83 {p : Program} {l : Launch} {e : Env} {R : Room} {s : State} {m : MethodId} {args : Array Value} {below : List Frame} {meth : Method} {c : Code} {H : Heap} {locs : List Loc} {cells slots : Nat} {Q : State → Prop} {cc : ByteArray} {pc : Nat} {ls : Array Slot} {rest : List Value} {D : va_G} {A : Nat → Prop} {t : Nat → ClassId} {g : hG} {nL : Nat} {ret0 : Option FieldType} {nm : String} (X : Cx p s m args meth c R_W cc nL ret0 TB D vwCl (tyL t) EX A nm) (hR : 1 + 1 ≤ R.frames ∧ 8 + (3 + 11) + 22 ≤ R.locals) (hf : cells + 0 ≤ R.cells ∧ slots + 0 ≤ R.slots) (hls : ls.size = nL) (hP : hw D vwCl A g H) (hS : va_S A s.heap H locs) {F : Nat → Prop} {ad : Nat → Nat} {σ : SS} {x : Int32} {fs9 : List Value} (he9 : g (ad 0) = some (.inr (0, fs9))) (hRx : RCx F t ad σ g) (hV : Inv σ) (hW : (rest.map fun v => v.category).sum ≤ 8) (hdg : decode cc pc = .ok (.invokevirtual 83, 3)) (kk : ∀ (r : Int32) (u : hG) (H1 : Heap) (locs1 : List Loc), ((fun r u => r = (spTh σ x).1 ∧ RCx (gr F g) t ad (spTh σ x).2 u ∧ Keep F g u) r u) → hw D vwCl A u H1 → va_S A s.heap H1 locs1 → W p l e R s m args below meth c H1 locs1 (cells + 0) (slots + 0) Q (F0 m (pc + 3) ls (.int r :: rest))) : W p l e R s m args below meth c H locs cells slots Q (F0 m pc ls (.int x :: .ref (ad 0) :: rest)) :=
  h_ci (runV (C := R_F) (T := F_F) (N := 9) X (c_F_threshold l D t A g F ad σ x hRx hV) (tbm 353 (by decide +kernel)) (tbm 354 (by decide +kernel)) (tbm 355 (by decide +kernel)) (tbm 20 (by decide +kernel)) (tbm 356 (by decide +kernel)) rfl (n := 1) (by decide +kernel) hR hf hP he9 hS hls rfl rfl hW hdg) hS kk

set_option maxHeartbeats 4000000 in
set_option maxRecDepth 100000 in
theorem c_F_rule (l : Launch) (D : va_G) (t : Nat → ClassId) (A : Nat → Prop) (g : hG) (F : Nat → Prop) (ad : Nat → Nat) (σ : SS) (x y z : Int32) (hRx : RCx F t ad σ g) (hV : Inv σ) : Met l y_F_rule (Cond.code y_F_rule b_F_rule 5 (some .int) :: TB) ({ frames := 2, cells := 1, slots := 5, locals := 47 } : Room) (va_Pc [.ref (ad 0), .int x, .int y, .int z] (hI D vwCl (tyL t) EX A g)) (va_Qi (fun r u => r = (spRule σ x y z).1 ∧ RCx (gr F g) t ad (spRule σ x y z).2 u ∧ Keep F g u) (fun u v => hw D vwCl A u v.heap) A) 1 5 A := by
  refine Met.ofH (cc := b_F_rule) (maxL := 5) (ret := (some .int)) (lv := [(0, .ref (ad 0)), (1, .int x), (2, .int y), (3, .int z)]) (by decide) (Nat.le_of_ble_eq_true rfl) rfl ?_
  intro p e s m below meth c ls X hP hS hl
  obtain ⟨hx, hb, hml, hr, hts, hown, hlocks, hK, hEs, hA, hnm⟩ := id X
  obtain ⟨aR, aL, aD, fR, fL, fI, fN, fB, hRc⟩ := id hRx
  obtain ⟨h0, ⟨h1, h1f⟩, ⟨h2, h2f⟩, ⟨h3, h3f⟩, h4, h5, h6, ⟨h7, h7f⟩, ⟨h8, h8f⟩, h9, hRr, hLl, hDd, h78, ⟨iR, iL, iD⟩, f0, f1, f2, f3⟩ := id hRc
  have hn1 := hV.1.1
  have hn2 := hV.1.2.1
  have hn3 := hV.1.2.2.1
  have hn4 := hV.1.2.2.2
  refine lv_iload_n hx hb d_F_rule_0 rfl (lv_at hl 1 rfl) ?_
  refine lv_iconst (v := 0) hx hb d_F_rule_1 (by decide) ?_
  refine lv_ldc (v := 100000) hx hb hown (hts _ (tbm 110 (by decide +kernel))) d_F_rule_2 ?_
  refine k_F_47 X ⟨Nat.le_of_ble_eq_true rfl, Nat.le_of_ble_eq_true rfl⟩ ⟨Nat.le_of_ble_eq_true rfl, Nat.le_of_ble_eq_true rfl⟩ hl.1 hP hS (by exact Nat.le_of_ble_eq_true rfl) d_F_rule_4 (fun r_1 H locs er_1 hP hS => ?_)
  refine lv_if_eq (tgt := 40) hx hb d_F_rule_7 (by decide) (fun c_2 => ?_) (fun c_2 => ?_)
  · have t_1 := bi_0.mp (er_1 ▸ c_2)
    refine lv_iconst (v := (-1)) hx hb d_F_rule_40 (by decide) ?_
    have e9 : spRule σ x y z = (-1, σ) := by simp [spRule, t_1]
    exact h_iret hx hb hr hlocks (Nat.le_of_ble_eq_true rfl) (Nat.le_of_ble_eq_true rfl) hP hS (⟨by rw [e9], by rw [e9]; exact hRx.mono (fun _ h => Or.inl h), Keep.rf⟩) d_F_rule_41
  · have t_1 := bi_n0.mp (er_1 ▸ c_2)
    refine lv_iload_n hx hb d_F_rule_10 rfl (lv_at hl 2 rfl) ?_
    refine lv_iconst (v := 0) hx hb d_F_rule_11 (by decide) ?_
    refine lv_ldc (v := 10000000) hx hb hown (hts _ (tbm 114 (by decide +kernel))) d_F_rule_12 ?_
    refine k_F_47 X ⟨Nat.le_of_ble_eq_true rfl, Nat.le_of_ble_eq_true rfl⟩ ⟨Nat.le_of_ble_eq_true rfl, Nat.le_of_ble_eq_true rfl⟩ hl.1 hP hS (by exact Nat.le_of_ble_eq_true rfl) d_F_rule_14 (fun r_3 H locs er_3 hP hS => ?_)
    refine lv_if_eq (tgt := 40) hx hb d_F_rule_17 (by decide) (fun c_4 => ?_) (fun c_4 => ?_)
    · have t_3 := bi_0.mp (er_3 ▸ c_4)
      refine lv_iconst (v := (-1)) hx hb d_F_rule_40 (by decide) ?_
      have e9 : spRule σ x y z = (-1, σ) := by simp [spRule, t_1, t_3]
      exact h_iret hx hb hr hlocks (Nat.le_of_ble_eq_true rfl) (Nat.le_of_ble_eq_true rfl) hP hS (⟨by rw [e9], by rw [e9]; exact hRx.mono (fun _ h => Or.inl h), Keep.rf⟩) d_F_rule_41
    · have t_3 := bi_n0.mp (er_3 ▸ c_4)
      refine lv_iload_n hx hb d_F_rule_20 rfl (lv_at hl 3 rfl) ?_
      refine lv_iconst (v := 0) hx hb d_F_rule_21 (by decide) ?_
      refine lv_sipush (v := 365) hx hb d_F_rule_22 (by decide) ?_
      refine k_F_47 X ⟨Nat.le_of_ble_eq_true rfl, Nat.le_of_ble_eq_true rfl⟩ ⟨Nat.le_of_ble_eq_true rfl, Nat.le_of_ble_eq_true rfl⟩ hl.1 hP hS (by exact Nat.le_of_ble_eq_true rfl) d_F_rule_25 (fun r_5 H locs er_5 hP hS => ?_)
      refine lv_if_eq (tgt := 40) hx hb d_F_rule_28 (by decide) (fun c_6 => ?_) (fun c_6 => ?_)
      · have t_5 := bi_0.mp (er_5 ▸ c_6)
        refine lv_iconst (v := (-1)) hx hb d_F_rule_40 (by decide) ?_
        have e9 : spRule σ x y z = (-1, σ) := by simp [spRule, t_1, t_3, t_5]
        exact h_iret hx hb hr hlocks (Nat.le_of_ble_eq_true rfl) (Nat.le_of_ble_eq_true rfl) hP hS (⟨by rw [e9], by rw [e9]; exact hRx.mono (fun _ h => Or.inl h), Keep.rf⟩) d_F_rule_41
      · have t_5 := bi_n0.mp (er_5 ▸ c_6)
        refine lv_aload_n hx hb d_F_rule_31 rfl (lv_at hl 0 rfl) ?_
        refine g_F_52 X hb hP h0 rfl d_F_rule_32 ?_
        refine lv_bipush (v := 10) hx hb d_F_rule_35 (by decide) ?_
        refine lv_icmp_lt (tgt := 42) hx hb d_F_rule_37 (by decide) (fun c_7 => ?_) (fun c_7 => ?_)
        · have hlt : sNR σ < 10 := (nI_ltI (b := 10) (by omega) (by decide)).mp c_7
          refine lv_aload_n hx hb d_F_rule_42 rfl (lv_at hl 0 rfl) ?_
          refine g_F_52 X hb hP h0 rfl d_F_rule_43 ?_
          refine lv_istore (lv' := [(4, .int (nI (sNR σ))), (0, .ref (ad 0)), (1, .int x), (2, .int y), (3, .int z)]) hx hb d_F_rule_46 hl (by decide) rfl (fun ls hl => ?_)
          refine lv_aload_n hx hb d_F_rule_48 rfl (lv_at hl 1 rfl) ?_
          refine g_F_11 X hb hP h0 rfl d_F_rule_49 ?_
          refine lv_iload hx hb d_F_rule_52 (lv_at hl 0 rfl) ?_
          refine nw_F_9 X hb hP hS ⟨Nat.le_of_ble_eq_true rfl, Nat.le_of_ble_eq_true rfl⟩ d_F_rule_54 (fun q_8 H hq_8 hP hS => ?_)
          have he_9 := up_at (o := some (.inr (5, [.int 0, .int 0, .int 0, .int 0, .int 0]))) h0 (hw_new h0 hq_8)
          have he_10 := up_at (o := some (.inr (5, [.int 0, .int 0, .int 0, .int 0, .int 0]))) h1 (hw_new h1 hq_8)
          have he_11 := va_up_self g q_8 (some (.inr (5, [.int 0, .int 0, .int 0, .int 0, .int 0]) : va_E))
          have hP : hw D vwCl A (va_up g q_8 (some (.inr (5, [.int 0, .int 0, .int 0, .int 0, .int 0])))) H := hP
          refine lv_dup hx hb d_F_rule_57 rfl ?_
          refine lv_iload_n hx hb d_F_rule_58 rfl (lv_at hl 2 rfl) ?_
          refine lv_iload_n hx hb d_F_rule_59 rfl (lv_at hl 3 rfl) ?_
          refine lv_iload_n hx hb d_F_rule_60 rfl (lv_at hl 4 rfl) ?_
          refine k_F_55 X ⟨Nat.le_of_ble_eq_true rfl, Nat.le_of_ble_eq_true rfl⟩ ⟨Nat.le_of_ble_eq_true rfl, Nat.le_of_ble_eq_true rfl⟩ hl.1 hP hS he_11 (by exact Nat.le_of_ble_eq_true rfl) d_F_rule_61 (fun H locs hP hS => ?_)
          rw [bx_uu] at hP
          have he_13 := up_at (o := some (cRu (x, y, z, 0, 0))) h0 (hw_new h0 hq_8)
          have he_14 := up_at (o := some (cRu (x, y, z, 0, 0))) h1 (hw_new h1 hq_8)
          have he_15 := va_up_self g q_8 (some (cRu (x, y, z, 0, 0) : va_E))
          have hP : hw D vwCl A (va_up g q_8 (some (cRu (x, y, z, 0, 0)))) H := hP
          refine n_aast X hb hP hS 3 5 he_14 rfl he_15 rfl ⟨hlt, by decide⟩ d_F_rule_64 (fun H locs hP hS => ?_)
          have he_16 := up_at (o := some (arQ t 3 10 (va_up fR (sNR σ) (some q_8)))) he_13 (hw_kd he_13 he_14 rfl)
          have he_17 := up_at (o := some (arQ t 3 10 (va_up fR (sNR σ) (some q_8)))) he_15 (hw_kd he_15 he_14 rfl)
          have he_18 := va_up_self (va_up g q_8 (some (cRu (x, y, z, 0, 0)))) (ad 1) (some (arQ t 3 10 (va_up fR (sNR σ) (some q_8)) : va_E))
          have hP : hw D vwCl A (va_up (va_up g q_8 (some (cRu (x, y, z, 0, 0)))) (ad 1) (some (arQ t 3 10 (va_up fR (sNR σ) (some q_8))))) H := hP
          refine lv_aload_n hx hb d_F_rule_65 rfl (lv_at hl 1 rfl) ?_
          refine lv_dup hx hb d_F_rule_66 rfl ?_
          refine g_F_52 X hb hP he_16 rfl d_F_rule_67 ?_
          refine lv_iconst (v := 1) hx hb d_F_rule_70 (by decide) ?_
          refine lv_iadd hx hb d_F_rule_71 ?_
          refine lv_topi (fun x_19 ex_19 => ?_)
          refine p_F_52 X hb hP hS he_16 (Nat.le_of_ble_eq_true rfl) d_F_rule_72 (fun H locs hP hS => ?_)
          have he_20 := up_at (o := some (.inr (0, [.ref (ad 1), .int x_19, .ref (ad 2), .int (nI (sNL σ)), .ref (ad 3), .ref (ad 4), .ref (ad 5), .ref (ad 6), .int (sTH σ)]))) he_17 (hw_kd he_17 he_16 rfl)
          have he_21 := up_at (o := some (.inr (0, [.ref (ad 1), .int x_19, .ref (ad 2), .int (nI (sNL σ)), .ref (ad 3), .ref (ad 4), .ref (ad 5), .ref (ad 6), .int (sTH σ)]))) he_18 (hw_kd he_18 he_16 rfl)
          have he_22 := va_up_self (va_up (va_up g q_8 (some (cRu (x, y, z, 0, 0)))) (ad 1) (some (arQ t 3 10 (va_up fR (sNR σ) (some q_8))))) (ad 0) (some (.inr (0, [.ref (ad 1), .int x_19, .ref (ad 2), .int (nI (sNL σ)), .ref (ad 3), .ref (ad 4), .ref (ad 5), .ref (ad 6), .int (sTH σ)]) : va_E))
          have hP : hw D vwCl A (va_up (va_up (va_up g q_8 (some (cRu (x, y, z, 0, 0)))) (ad 1) (some (arQ t 3 10 (va_up fR (sNR σ) (some q_8))))) (ad 0) (some (.inr (0, [.ref (ad 1), .int x_19, .ref (ad 2), .int (nI (sNL σ)), .ref (ad 3), .ref (ad 4), .ref (ad 5), .ref (ad 6), .int (sTH σ)])))) H := hP
          obtain rfl : x_19 = nI (sNR σ + 1) := by rw [ex_19]; exact nI_1 _
          refine lv_iload hx hb d_F_rule_75 (lv_at hl 0 rfl) ?_
          have e9 : spRule σ x y z = (nI (sNR σ), ((sNR σ + 1, va_up (sRV σ) (sNR σ) (x, y, z, 0, 0)), σ.2)) := by simp [spRule, t_1, t_3, t_5, hlt]
          exact h_iret hx hb hr hlocks (Nat.le_of_ble_eq_true rfl) (Nat.le_of_ble_eq_true rfl) hP hS (⟨by rw [e9], by rw [e9]; exact ⟨_, _, _, _, _, _, _, _, RC.ruleNew hRc q_8 (x, y, z, 0, 0) hq_8 hV⟩, Keep.up (Keep.up (Keep.up Keep.rf (Or.inr hq_8)) (Or.inl (f0 1 (by decide)))) (Or.inl (f0 0 (by decide)))⟩) d_F_rule_77
        · have hlt : ¬ sNR σ < 10 := fun q => c_7 (nI_lt (b := 10) q (by decide))
          refine lv_iconst (v := (-1)) hx hb d_F_rule_40 (by decide) ?_
          have e9 : spRule σ x y z = (-1, σ) := by simp [spRule, t_1, t_3, t_5, hlt]
          exact h_iret hx hb hr hlocks (Nat.le_of_ble_eq_true rfl) (Nat.le_of_ble_eq_true rfl) hP hS (⟨by rw [e9], by rw [e9]; exact hRx.mono (fun _ h => Or.inl h), Keep.rf⟩) d_F_rule_41
theorem k_W_19 {p : Program} {l : Launch} {e : Env} {R : Room} {s : State} {m : MethodId} {args : Array Value} {below : List Frame} {meth : Method} {c : Code} {H : Heap} {locs : List Loc} {cells slots : Nat} {Q : State → Prop} {cc : ByteArray} {pc : Nat} {ls : Array Slot} {rest : List Value} {D : va_G} {A : Nat → Prop} {t : Nat → ClassId} {g : hG} {nL : Nat} {ret0 : Option FieldType} {nm : String} (X : Cx p s m args meth c R_W cc nL ret0 TB D vwCl (tyL t) EX A nm) (hR : 2 + 1 ≤ R.frames ∧ 8 + (5 + 11) + 47 ≤ R.locals) (hf : cells + 1 ≤ R.cells ∧ slots + 5 ≤ R.slots) (hls : ls.size = nL) (hP : hw D vwCl A g H) (hS : va_S A s.heap H locs) {F : Nat → Prop} {ad : Nat → Nat} {σ : SS} {x y z : Int32} {fs9 : List Value} (he9 : g (ad 0) = some (.inr (0, fs9))) (hRx : RCx F t ad σ g) (hV : Inv σ) (hW : (rest.map fun v => v.category).sum ≤ 8) (hdg : decode cc pc = .ok (.invokevirtual 19, 3)) (kk : ∀ (r : Int32) (u : hG) (H1 : Heap) (locs1 : List Loc), ((fun r u => r = (spRule σ x y z).1 ∧ RCx (gr F g) t ad (spRule σ x y z).2 u ∧ Keep F g u) r u) → hw D vwCl A u H1 → va_S A s.heap H1 locs1 → W p l e R s m args below meth c H1 locs1 (cells + 1) (slots + 5) Q (F0 m (pc + 3) ls (.int r :: rest))) : W p l e R s m args below meth c H locs cells slots Q (F0 m pc ls (.int z :: .int y :: .int x :: .ref (ad 0) :: rest)) :=
  h_ci (runV (C := R_F) (T := F_F) (N := 9) X (c_F_rule l D t A g F ad σ x y z hRx hV) (tbm 106 (by decide +kernel)) (tbm 107 (by decide +kernel)) (tbm 108 (by decide +kernel)) (tbm 20 (by decide +kernel)) (tbm 109 (by decide +kernel)) rfl (n := 3) (by decide +kernel) hR hf hP he9 hS hls rfl rfl hW hdg) hS kk
