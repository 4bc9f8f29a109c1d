set_option maxHeartbeats 4000000 in
set_option maxRecDepth 100000 in
theorem c_F_interest (l : Launch) (D : va_G) (t : Nat → ClassId) (A : Nat → Prop) (g : hG) (F : Nat → Prop) (ad : Nat → Nat) (σ : SS) (x y z : Int32) (hRx : RCx F t ad σ g) (hV : Inv σ) (hnt : ¬ (okInt σ x y z = true ∧ z = 0)) : Met l y_F_interest (Cond.code y_F_interest b_F_interest 5 (some .int) :: TB) ({ frames := 2, cells := 0, slots := 0, locals := 43 } : Room) (va_Pc [.ref (ad 0), .int x, .int y, .int z] (hI D vwCl (tyL t) EX A g)) (va_Qi (fun r u => r = (spInt σ x y z).1 ∧ RCx (gr F g) t ad (spInt σ x y z).2 u ∧ Keep F g u) (fun u v => hw D vwCl A u v.heap) A) 0 0 A := by
  refine Met.ofH (cc := b_F_interest) (maxL := 5) (ret := (some .int)) (lv := [(0, .ref (ad 0)), (1, .int x), (2, .int y), (3, .int z)]) (by decide) (Nat.le_of_ble_eq_true rfl) rfl ?_
  intro p e s m below meth c ls X hP hS hl
  obtain ⟨hx, hb, hml, hr, hts, hown, hlocks, hK, hEs, hA, hnm⟩ := id X
  obtain ⟨aR, aL, aD, fR, fL, fI, fN, fB, hRc⟩ := id hRx
  obtain ⟨h0, ⟨h1, h1f⟩, ⟨h2, h2f⟩, ⟨h3, h3f⟩, h4, h5, h6, ⟨h7, h7f⟩, ⟨h8, h8f⟩, h9, hRr, hLl, hDd, h78, ⟨iR, iL, iD⟩, f0, f1, f2, f3⟩ := id hRc
  have hn1 := hV.1.1
  have hn2 := hV.1.2.1
  have hn3 := hV.1.2.2.1
  have hn4 := hV.1.2.2.2
  refine lv_aload_n hx hb d_F_interest_0 rfl (lv_at hl 0 rfl) ?_
  refine lv_iload_n hx hb d_F_interest_1 rfl (lv_at hl 1 rfl) ?_
  refine k_F_58 X ⟨Nat.le_of_ble_eq_true rfl, Nat.le_of_ble_eq_true rfl⟩ ⟨Nat.le_of_ble_eq_true rfl, Nat.le_of_ble_eq_true rfl⟩ hl.1 hP hS h0 h0 h1 hn1 (by exact Nat.le_of_ble_eq_true rfl) d_F_interest_2 (fun r_1 H locs er_1 hP hS => ?_)
  refine lv_topq (fun ey_2 => ?_) (fun y_2 ey_2 => ?_)
  · have hN := ordQ_none (by omega) h1f (er_1 ▸ ey_2)
    refine lv_astoreN (lv' := [(4, .null), (0, .ref (ad 0)), (1, .int x), (2, .int y), (3, .int z)]) hx hb d_F_interest_5 hl (by decide) rfl (fun ls hl => ?_)
    refine lv_aloadN hx hb d_F_interest_7 (lv_at hl 0 rfl) ?_
    refine lv_ifnullN (tgt := 33) hx hb d_F_interest_9 (by decide) ?_
    refine lv_iconst (v := (-1)) hx hb d_F_interest_33 (by decide) ?_
    have e9 : spInt σ x y z = (-1, σ) := by simp [spInt, okInt, hN]
    exact h_iret hx hb hr hlocks (Nat.le_of_ble_eq_true rfl) (Nat.le_of_ble_eq_true rfl) hP hS (⟨by rw [e9], by rw [e9]; exact hRx.mono (fun _ h => Or.inl h), Keep.rf⟩) d_F_interest_34
  · obtain ⟨k, hk, rfl, rfl, hwk⟩ := ordQ_some (by omega) h1f (er_1 ▸ ey_2)
    refine lv_astore (lv' := [(4, .ref (aR k)), (0, .ref (ad 0)), (1, .int (nI k)), (2, .int y), (3, .int z)]) hx hb d_F_interest_5 hl (by decide) rfl (fun ls hl => ?_)
    refine lv_aload hx hb d_F_interest_7 (lv_at hl 0 rfl) ?_
    refine lv_ifnull hx hb d_F_interest_9 ?_
    refine lv_iload_n hx hb d_F_interest_12 rfl (lv_at hl 3 rfl) ?_
    refine lv_iconst (v := 0) hx hb d_F_interest_13 (by decide) ?_
    refine lv_sipush (v := 1000) hx hb d_F_interest_14 (by decide) ?_
    refine k_F_47 X ⟨Nat.le_of_ble_eq_true rfl, Nat.le_of_ble_eq_true rfl⟩ ⟨Nat.le_of_ble_eq_true rfl, Nat.le_of_ble_eq_true rfl⟩ hl.1 hP hS (by exact Nat.le_of_ble_eq_true rfl) d_F_interest_17 (fun r_3 H locs er_3 hP hS => ?_)
    refine lv_if_eq (tgt := 33) hx hb d_F_interest_20 (by decide) (fun c_4 => ?_) (fun c_4 => ?_)
    · have t_3 := bi_0.mp (er_3 ▸ c_4)
      refine lv_iconst (v := (-1)) hx hb d_F_interest_33 (by decide) ?_
      have e9 : spInt σ (nI k) y z = (-1, σ) := by simp [spInt, okInt, hwk, t_3]
      exact h_iret hx hb hr hlocks (Nat.le_of_ble_eq_true rfl) (Nat.le_of_ble_eq_true rfl) hP hS (⟨by rw [e9], by rw [e9]; exact hRx.mono (fun _ h => Or.inl h), Keep.rf⟩) d_F_interest_34
    · have t_3 := bi_n0.mp (er_3 ▸ c_4)
      refine lv_iload_n hx hb d_F_interest_23 rfl (lv_at hl 4 rfl) ?_
      refine lv_iconst (v := 0) hx hb d_F_interest_24 (by decide) ?_
      refine lv_ldc (v := 1000000) hx hb hown (hts _ (tbm 357 (by decide +kernel))) d_F_interest_25 ?_
      refine k_F_47 X ⟨Nat.le_of_ble_eq_true rfl, Nat.le_of_ble_eq_true rfl⟩ ⟨Nat.le_of_ble_eq_true rfl, Nat.le_of_ble_eq_true rfl⟩ hl.1 hP hS (by exact Nat.le_of_ble_eq_true rfl) d_F_interest_27 (fun r_5 H locs er_5 hP hS => ?_)
      refine lv_if_ne (tgt := 35) hx hb d_F_interest_30 (by decide) (fun c_6 => ?_) (fun c_6 => ?_)
      · have t_5 := bi_n0.mp (er_5 ▸ c_6)
        refine lv_iload_n hx hb d_F_interest_35 rfl (lv_at hl 4 rfl) ?_
        refine lv_if_ne (tgt := 49) hx hb d_F_interest_36 (by decide) (fun c_7 => ?_) (fun c_7 => ?_)
        · refine lv_aload hx hb d_F_interest_49 (lv_at hl 0 rfl) ?_
          refine lv_iload_n hx hb d_F_interest_51 rfl (lv_at hl 3 rfl) ?_
          refine p_F_70 X hb hP hS (hRr k hk) (Nat.le_of_ble_eq_true rfl) d_F_interest_52 (fun H locs hP hS => ?_)
          have he_8 := up_at (o := some (.inr (5, [.int (sRV σ k).1, .int (sRV σ k).2.1, .int (sRV σ k).2.2.1, .int y, .int (sRV σ k).2.2.2.2]))) h0 (hw_kd h0 (hRr k hk) rfl)
          have he_9 := up_at (o := some (.inr (5, [.int (sRV σ k).1, .int (sRV σ k).2.1, .int (sRV σ k).2.2.1, .int y, .int (sRV σ k).2.2.2.2]))) h1 (hw_kd h1 (hRr k hk) rfl)
          have he_10 := va_up_self g (aR k) (some (.inr (5, [.int (sRV σ k).1, .int (sRV σ k).2.1, .int (sRV σ k).2.2.1, .int y, .int (sRV σ k).2.2.2.2]) : va_E))
          have hP : hw D vwCl A (va_up g (aR k) (some (.inr (5, [.int (sRV σ k).1, .int (sRV σ k).2.1, .int (sRV σ k).2.2.1, .int y, .int (sRV σ k).2.2.2.2])))) H := hP
          refine lv_aload hx hb d_F_interest_55 (lv_at hl 0 rfl) ?_
          refine lv_iload_n hx hb d_F_interest_57 rfl (lv_at hl 4 rfl) ?_
          refine p_F_73 X hb hP hS he_10 (Nat.le_of_ble_eq_true rfl) d_F_interest_58 (fun H locs hP hS => ?_)
          have he_11 := up_at (o := some (.inr (5, [.int (sRV σ k).1, .int (sRV σ k).2.1, .int (sRV σ k).2.2.1, .int y, .int z]))) he_8 (hw_kd he_8 he_10 rfl)
          have he_12 := up_at (o := some (.inr (5, [.int (sRV σ k).1, .int (sRV σ k).2.1, .int (sRV σ k).2.2.1, .int y, .int z]))) he_9 (hw_kd he_9 he_10 rfl)
          have he_13 := va_up_self (va_up g (aR k) (some (.inr (5, [.int (sRV σ k).1, .int (sRV σ k).2.1, .int (sRV σ k).2.2.1, .int y, .int (sRV σ k).2.2.2.2])))) (aR k) (some (.inr (5, [.int (sRV σ k).1, .int (sRV σ k).2.1, .int (sRV σ k).2.2.1, .int y, .int z]) : va_E))
          have hP : hw D vwCl A (va_up (va_up g (aR k) (some (.inr (5, [.int (sRV σ k).1, .int (sRV σ k).2.1, .int (sRV σ k).2.2.1, .int y, .int (sRV σ k).2.2.2.2])))) (aR k) (some (.inr (5, [.int (sRV σ k).1, .int (sRV σ k).2.1, .int (sRV σ k).2.2.1, .int y, .int z])))) H := hP
          refine lv_ldc (v := 100000) hx hb hown (hts _ (tbm 110 (by decide +kernel))) d_F_interest_61 ?_
          refine lv_iload_n hx hb d_F_interest_63 rfl (lv_at hl 3 rfl) ?_
          refine lv_imul hx hb d_F_interest_64 ?_
          refine lv_iload_n hx hb d_F_interest_65 rfl (lv_at hl 4 rfl) ?_
          refine lv_idiv hx hb d_F_interest_66 (by assumption) ?_
          have e9 : spInt σ (nI k) y z = (100000 * y / z, ((sNR σ, va_up (sRV σ) k ((sRV σ k).1, (sRV σ k).2.1, (sRV σ k).2.2.1, y, z)), σ.2)) := by simp [spInt, okInt, hwk, t_3, t_5, c_7, nI_k0 (show k < 1000000 by omega)]
          have e8 := up_up g (aR k) (some (cRu ((sRV σ k).1, (sRV σ k).2.1, (sRV σ k).2.2.1, y, (sRV σ k).2.2.2.2))) (some (cRu ((sRV σ k).1, (sRV σ k).2.1, (sRV σ k).2.2.1, y, z)))
          have hRR : RCx (gr F g) t ad ((sNR σ, va_up (sRV σ) k ((sRV σ k).1, (sRV σ k).2.1, (sRV σ k).2.2.1, y, z)), σ.2) (va_up (va_up g (aR k) (some (.inr (5, [.int (sRV σ k).1, .int (sRV σ k).2.1, .int (sRV σ k).2.2.1, .int y, .int (sRV σ k).2.2.2.2])))) (aR k) (some (.inr (5, [.int (sRV σ k).1, .int (sRV σ k).2.1, .int (sRV σ k).2.2.1, .int y, .int z])))) := by rw [show (va_up (va_up g (aR k) (some (.inr (5, [.int (sRV σ k).1, .int (sRV σ k).2.1, .int (sRV σ k).2.2.1, .int y, .int (sRV σ k).2.2.2.2])))) (aR k) (some (.inr (5, [.int (sRV σ k).1, .int (sRV σ k).2.1, .int (sRV σ k).2.2.1, .int y, .int z]))) : hG) = va_up g (aR k) (some (cRu ((sRV σ k).1, (sRV σ k).2.1, (sRV σ k).2.2.1, y, z))) from e8]; exact ⟨_, _, _, _, _, _, _, _, (RC.rule hRc k ((sRV σ k).1, (sRV σ k).2.1, (sRV σ k).2.2.1, y, z) hk).mono (fun _ h => Or.inl h)⟩
          exact h_iret hx hb hr hlocks (Nat.le_of_ble_eq_true rfl) (Nat.le_of_ble_eq_true rfl) hP hS (⟨by rw [e9], by rw [e9]; exact hRR, Keep.up (Keep.up Keep.rf (Or.inl (f1 k hk))) (Or.inl (f1 k hk))⟩) d_F_interest_67
        · exact absurd ⟨by simp [okInt, hwk, t_3, t_5], c_7⟩ hnt
      · have t_5 := bi_0.mp (er_5 ▸ c_6)
        refine lv_iconst (v := (-1)) hx hb d_F_interest_33 (by decide) ?_
        have e9 : spInt σ (nI k) y z = (-1, σ) := by simp [spInt, okInt, hwk, t_3, t_5]
        exact h_iret hx hb hr hlocks (Nat.le_of_ble_eq_true rfl) (Nat.le_of_ble_eq_true rfl) hP hS (⟨by rw [e9], by rw [e9]; exact hRx.mono (fun _ h => Or.inl h), Keep.rf⟩) d_F_interest_34
theorem k_W_7 {p : Program} {l : Launch} {e : Env} {R : Room} {s : State} {m : MethodId} {args : Array Value} {below : List Frame} {meth : Method} {c : Code} {H : Heap} {locs : List Loc} {cells slots : Nat} {Q : State → Prop} {cc : ByteArray} {pc : Nat} {ls : Array Slot} {rest : List Value} {D : va_G} {A : Nat → Prop} {t : Nat → ClassId} {g : hG} {nL : Nat} {ret0 : Option FieldType} {nm : String} (X : Cx p s m args meth c R_W cc nL ret0 TB D vwCl (tyL t) EX A nm) (hR : 2 + 1 ≤ R.frames ∧ 8 + (5 + 11) + 43 ≤ R.locals) (hf : cells + 0 ≤ R.cells ∧ slots + 0 ≤ R.slots) (hls : ls.size = nL) (hP : hw D vwCl A g H) (hS : va_S A s.heap H locs) {F : Nat → Prop} {ad : Nat → Nat} {σ : SS} {x y z : Int32} {fs9 : List Value} (he9 : g (ad 0) = some (.inr (0, fs9))) (hRx : RCx F t ad σ g) (hV : Inv σ) (hnt : ¬ (okInt σ x y z = true ∧ z = 0)) (hW : (rest.map fun v => v.category).sum ≤ 8) (hdg : decode cc pc = .ok (.invokevirtual 7, 3)) (kk : ∀ (r : Int32) (u : hG) (H1 : Heap) (locs1 : List Loc), ((fun r u => r = (spInt σ x y z).1 ∧ RCx (gr F g) t ad (spInt σ x y z).2 u ∧ Keep F g u) r u) → hw D vwCl A u H1 → va_S A s.heap H1 locs1 → W p l e R s m args below meth c H1 locs1 (cells + 0) (slots + 0) Q (F0 m (pc + 3) ls (.int r :: rest))) : W p l e R s m args below meth c H locs cells slots Q (F0 m pc ls (.int z :: .int y :: .int x :: .ref (ad 0) :: rest)) :=
  h_ci (runV (C := R_F) (T := F_F) (N := 9) X (c_F_interest l D t A g F ad σ x y z hRx hV hnt) (tbm 376 (by decide +kernel)) (tbm 377 (by decide +kernel)) (tbm 378 (by decide +kernel)) (tbm 20 (by decide +kernel)) (tbm 379 (by decide +kernel)) rfl (n := 3) (by decide +kernel) hR hf hP he9 hS hls rfl rfl hW hdg) hS kk
