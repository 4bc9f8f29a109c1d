set_option maxHeartbeats 4000000 in
set_option maxRecDepth 100000 in
theorem c_F_found (l : Launch) (D : va_G) (t : Nat → ClassId) (A : Nat → Prop) (g : hG) (F : Nat → Prop) (ad : Nat → Nat) (σ : SS) (x : Int32) (d : Int64) (hRx : RCx F t ad σ g) (hV : Inv σ) : Met l y_F_found (Cond.code y_F_found b_F_found 10 (some .long) :: TB) ({ frames := 4, cells := 1, slots := 7, locals := 103 } : Room) (va_Pc [.ref (ad 0), .int x, .long d] (hI D vwCl (tyL t) EX A g)) (va_Ql (fun r u => r = (spFound σ x d).1 ∧ RCx (gr F g) t ad (spFound σ x d).2 u ∧ Keep F g u) (fun u v => hw D vwCl A u v.heap) A) 1 7 A := by
  refine Met.ofH (cc := b_F_found) (maxL := 10) (ret := (some .long)) (lv := [(0, .ref (ad 0)), (1, .int x), (2, .long d)]) (by decide) (Nat.le_of_ble_eq_true rfl) rfl ?_
  intro p e s m below meth c ls X hP hS hl
  obtain ⟨hx, hb, hml, hr, hts, hown, hlocks, hK, hEs, hA, hnm⟩ := id X
  obtain ⟨aR, aL, aD, fR, fL, fI, fN, fB, hRc⟩ := id hRx
  obtain ⟨h0, ⟨h1, h1f⟩, ⟨h2, h2f⟩, ⟨h3, h3f⟩, h4, h5, h6, ⟨h7, h7f⟩, ⟨h8, h8f⟩, h9, hRr, hLl, hDd, h78, ⟨iR, iL, iD⟩, f0, f1, f2, f3⟩ := id hRc
  have hn1 := hV.1.1
  have hn2 := hV.1.2.1
  have hn3 := hV.1.2.2.1
  have hn4 := hV.1.2.2.2
  refine lv_iload_n hx hb d_F_found_0 rfl (lv_at hl 1 rfl) ?_
  refine k_F_86 X ⟨Nat.le_of_ble_eq_true rfl, Nat.le_of_ble_eq_true rfl⟩ ⟨Nat.le_of_ble_eq_true rfl, Nat.le_of_ble_eq_true rfl⟩ hl.1 hP hS (by exact Nat.le_of_ble_eq_true rfl) d_F_found_1 (fun r_1 H locs er_1 hP hS => ?_)
  refine lv_if_eq (tgt := 16) hx hb d_F_found_4 (by decide) (fun c_2 => ?_) (fun c_2 => ?_)
  · have t_1 := bi_0.mp (er_1 ▸ c_2)
    refine lv_null hx hb d_F_found_16 ?_
    refine lv_astoreN (lv' := [(4, .null), (0, .ref (ad 0)), (1, .int x), (2, .long d)]) hx hb d_F_found_17 hl (by decide) rfl (fun ls hl => ?_)
    refine lv_aloadN hx hb d_F_found_19 (lv_at hl 0 rfl) ?_
    refine lv_ifnullN (tgt := 32) hx hb d_F_found_21 (by decide) ?_
    refine lv_null hx hb d_F_found_32 ?_
    refine lv_astoreN (lv' := [(5, .null), (4, .null), (0, .ref (ad 0)), (1, .int x), (2, .long d)]) hx hb d_F_found_33 hl (by decide) rfl (fun ls hl => ?_)
    refine lv_aloadN hx hb d_F_found_35 (lv_at hl 1 rfl) ?_
    refine lv_ifnullN (tgt := 52) hx hb d_F_found_37 (by decide) ?_
    refine lv_ldc2 (v := (-1)) hx hb hown (hts _ (tbm 212 (by decide +kernel))) d_F_found_52 ?_
    have hN := lostN_no (σ := σ) t_1
    have e9 : spFound σ (x) d = (-1, σ) := by simp [spFound, hN]
    exact h_lret hx hb hr hlocks (Nat.le_of_ble_eq_true rfl) (Nat.le_of_ble_eq_true rfl) hP hS (⟨by rw [e9], by rw [e9]; exact hRx.mono (fun _ h => Or.inl h), Keep.rf⟩) d_F_found_55
  · have t_1 := bi_n0.mp (er_1 ▸ c_2)
    obtain ⟨i, hi, rfl⟩ := wi_pl (M := 59) (n := 59) rfl (by decide) t_1
    refine lv_aload_n hx hb d_F_found_7 rfl (lv_at hl 0 rfl) ?_
    refine g_F_21 X hb hP h0 rfl d_F_found_8 ?_
    refine lv_iload_n hx hb d_F_found_11 rfl (lv_at hl 1 rfl) ?_
    refine n_aald X hb hP 4 h3 rfl ⟨hi, by decide⟩ d_F_found_12 ?_
    refine lv_goto (tgt := 17) hx hb d_F_found_13 (by decide) ?_
    refine lv_topq (fun ey_3 => ?_) (fun y_3 ey_3 => ?_)
    · have hno : sIT σ i = none := by have h := h3f i hi; rw [ey_3] at h; cases hq : sIT σ i with | none => rfl | some z => (rw [hq] at h; cases h)
      have hN := lostN_it hi hno
      refine lv_astoreN (lv' := [(4, .null), (0, .ref (ad 0)), (1, .int (nI i)), (2, .long d)]) hx hb d_F_found_17 hl (by decide) rfl (fun ls hl => ?_)
      refine lv_aloadN hx hb d_F_found_19 (lv_at hl 0 rfl) ?_
      refine lv_ifnullN (tgt := 32) hx hb d_F_found_21 (by decide) ?_
      refine lv_null hx hb d_F_found_32 ?_
      refine lv_astoreN (lv' := [(5, .null), (4, .null), (0, .ref (ad 0)), (1, .int (nI i)), (2, .long d)]) hx hb d_F_found_33 hl (by decide) rfl (fun ls hl => ?_)
      refine lv_aloadN hx hb d_F_found_35 (lv_at hl 1 rfl) ?_
      refine lv_ifnullN (tgt := 52) hx hb d_F_found_37 (by decide) ?_
      refine lv_ldc2 (v := (-1)) hx hb hown (hts _ (tbm 212 (by decide +kernel))) d_F_found_52 ?_
      have e9 : spFound σ (nI i) d = (-1, σ) := by simp [spFound, hN]
      exact h_lret hx hb hr hlocks (Nat.le_of_ble_eq_true rfl) (Nat.le_of_ble_eq_true rfl) hP hS (⟨by rw [e9], by rw [e9]; exact hRx.mono (fun _ h => Or.inl h), Keep.rf⟩) d_F_found_55
    · obtain ⟨k, hik, rfl⟩ : ∃ k, sIT σ i = some k ∧ y_3 = aL k := by have h := h3f i hi; rw [ey_3] at h; cases hq : sIT σ i with | none => (rw [hq] at h; cases h) | some z => (rw [hq] at h; exact ⟨z, rfl, Option.some.inj h⟩)
      obtain ⟨hk, hitm, hs2⟩ := (hV.2.2.2.2.1 i hi k).mp hik
      refine lv_astore (lv' := [(4, .ref (aL k)), (0, .ref (ad 0)), (1, .int (nI i)), (2, .long d)]) hx hb d_F_found_17 hl (by decide) rfl (fun ls hl => ?_)
      refine lv_aload hx hb d_F_found_19 (lv_at hl 0 rfl) ?_
      refine lv_ifnull hx hb d_F_found_21 ?_
      refine lv_aload hx hb d_F_found_24 (lv_at hl 0 rfl) ?_
      refine g_F_128 X hb hP (hLl k hk) rfl d_F_found_26 ?_
      refine lv_goto (tgt := 33) hx hb d_F_found_29 (by decide) ?_
      refine lv_topq (fun ey_4 => ?_) (fun y_4 ey_4 => ?_)
      · have hl0 : (sLV σ k).2.2.2.2.2 = 0 := by by_cases e : (sLV σ k).2.2.2.2.2 = 0; exact e; exact absurd ey_4 (by simp [lcOf, e])
        have hN : lostN σ (nI i) = none := by rw [lostN_st hi hik, if_neg (fun q => (st_of hV hk hs2).mp q hl0)]
        refine lv_astoreN (lv' := [(5, .null), (4, .ref (aL k)), (0, .ref (ad 0)), (1, .int (nI i)), (2, .long d)]) hx hb d_F_found_33 hl (by decide) rfl (fun ls hl => ?_)
        refine lv_aload hx hb d_F_found_35 (lv_at hl 1 rfl) ?_
        refine lv_ifnull hx hb d_F_found_37 ?_
        refine lv_aloadN hx hb d_F_found_40 (lv_at hl 0 rfl) ?_
        refine lv_ifnullN (tgt := 52) hx hb d_F_found_42 (by decide) ?_
        refine lv_ldc2 (v := (-1)) hx hb hown (hts _ (tbm 212 (by decide +kernel))) d_F_found_52 ?_
        have e9 : spFound σ (nI i) d = (-1, σ) := by simp [spFound, hN]
        exact h_lret hx hb hr hlocks (Nat.le_of_ble_eq_true rfl) (Nat.le_of_ble_eq_true rfl) hP hS (⟨by rw [e9], by rw [e9]; exact hRx.mono (fun _ h => Or.inl h), Keep.rf⟩) d_F_found_55
      · have hl0 : ¬ (sLV σ k).2.2.2.2.2 = 0 := fun e => by simp [lcOf, e] at ey_4
        obtain rfl : y_4 = aD ((sLV σ k).2.2.2.2.2 - 1) := by have h := ey_4; simp [lcOf, hl0] at h; exact h.symm
        have hst : (sLV σ k).2.2.2.2.1 = 3 := (st_of hV hk hs2).mpr hl0
        have hln : lostN σ (nI i) = some k := by rw [lostN_st hi hik, if_pos hst]
        have hdd : ((sLV σ k).2.2.2.2.2 - 1) < sND σ := by have := (hV.2.2.1 k hk).2.2.2.2.1; omega
        refine lv_astore (lv' := [(5, .ref (aD ((sLV σ k).2.2.2.2.2 - 1))), (4, .ref (aL k)), (0, .ref (ad 0)), (1, .int (nI i)), (2, .long d)]) hx hb d_F_found_33 hl (by decide) rfl (fun ls hl => ?_)
        refine lv_aload hx hb d_F_found_35 (lv_at hl 1 rfl) ?_
        refine lv_ifnull hx hb d_F_found_37 ?_
        refine lv_aload hx hb d_F_found_40 (lv_at hl 0 rfl) ?_
        refine lv_ifnull hx hb d_F_found_42 ?_
        refine lv_lload_n hx hb d_F_found_45 rfl (lv_at hl 4 rfl) ?_
        refine k_F_76 X ⟨Nat.le_of_ble_eq_true rfl, Nat.le_of_ble_eq_true rfl⟩ ⟨Nat.le_of_ble_eq_true rfl, Nat.le_of_ble_eq_true rfl⟩ hl.1 hP hS (by exact Nat.le_of_ble_eq_true rfl) d_F_found_46 (fun r_5 H locs er_5 hP hS => ?_)
        refine lv_if_ne (tgt := 56) hx hb d_F_found_49 (by decide) (fun c_6 => ?_) (fun c_6 => ?_)
        · have t_5 := bi_n0.mp (er_5 ▸ c_6)
          refine lv_aload_n hx hb d_F_found_56 rfl (lv_at hl 2 rfl) ?_
          refine lv_aload hx hb d_F_found_57 (lv_at hl 1 rfl) ?_
          refine lv_lload_n hx hb d_F_found_59 rfl (lv_at hl 4 rfl) ?_
          refine k_F_105 X ⟨Nat.le_of_ble_eq_true rfl, Nat.le_of_ble_eq_true rfl⟩ ⟨Nat.le_of_ble_eq_true rfl, Nat.le_of_ble_eq_true rfl⟩ hl.1 hP hS h0 h0 (hLl k hk) (hRr _ (hV.2.2.1 k hk).2.2.1) h5 h9 hn4 (by exact Nat.le_of_ble_eq_true rfl) d_F_found_60 (fun r_7 H locs er_7 hP hS => ?_)
          refine lv_lstore (lv' := [(6, .long r_7), (5, .ref (aD ((sLV σ k).2.2.2.2.2 - 1))), (4, .ref (aL k)), (0, .ref (ad 0)), (1, .int (nI i)), (2, .long d)]) hx hb d_F_found_63 hl (by decide) rfl (fun ls hl => ?_)
          refine lv_lload hx hb d_F_found_65 (lv_at hl 0 rfl) ?_
          refine lv_lconst (v := 0) hx hb d_F_found_67 (by decide) ?_
          refine W.lcmp hx hb d_F_found_68 ?_
          refine lv_if_le (tgt := 86) hx hb d_F_found_69 (by decide) (fun c_8 => ?_) (fun c_8 => ?_)
          · rw [lg_cmp_le] at c_8
            refine lv_aload hx hb d_F_found_86 (lv_at hl 1 rfl) ?_
            refine g_F_132 X hb hP (hDd _ hdd) rfl d_F_found_88 ?_
            refine lv_topl (fun x_9 ex_9 => ?_)
            refine lv_lstore (lv' := [(8, .long x_9), (6, .long r_7), (5, .ref (aD ((sLV σ k).2.2.2.2.2 - 1))), (4, .ref (aL k)), (0, .ref (ad 0)), (1, .int (nI i)), (2, .long d)]) hx hb d_F_found_91 hl (by decide) rfl (fun ls hl => ?_)
            refine lv_aload hx hb d_F_found_93 (lv_at hl 2 rfl) ?_
            refine lv_lconst (v := 0) hx hb d_F_found_95 (by decide) ?_
            refine p_F_138 X hb hP hS (hDd _ hdd) (Nat.le_of_ble_eq_true rfl) d_F_found_96 (fun H locs hP hS => ?_)
            have he_10 := up_at (o := some (.inr (2, [.int (dcOf aR (sLV σ) (sDV σ ((sLV σ k).2.2.2.2.2 - 1))).1, .ref (dcOf aR (sLV σ) (sDV σ ((sLV σ k).2.2.2.2.2 - 1))).2.1, .int (dcOf aR (sLV σ) (sDV σ ((sLV σ k).2.2.2.2.2 - 1))).2.2.1, .long (dcOf aR (sLV σ) (sDV σ ((sLV σ k).2.2.2.2.2 - 1))).2.2.2.1, .long (dcOf aR (sLV σ) (sDV σ ((sLV σ k).2.2.2.2.2 - 1))).2.2.2.2.1, .long 0, .long (dcOf aR (sLV σ) (sDV σ ((sLV σ k).2.2.2.2.2 - 1))).2.2.2.2.2.2]))) h0 (hw_kd h0 (hDd _ hdd) rfl)
            have he_11 := up_at (o := some (.inr (2, [.int (dcOf aR (sLV σ) (sDV σ ((sLV σ k).2.2.2.2.2 - 1))).1, .ref (dcOf aR (sLV σ) (sDV σ ((sLV σ k).2.2.2.2.2 - 1))).2.1, .int (dcOf aR (sLV σ) (sDV σ ((sLV σ k).2.2.2.2.2 - 1))).2.2.1, .long (dcOf aR (sLV σ) (sDV σ ((sLV σ k).2.2.2.2.2 - 1))).2.2.2.1, .long (dcOf aR (sLV σ) (sDV σ ((sLV σ k).2.2.2.2.2 - 1))).2.2.2.2.1, .long 0, .long (dcOf aR (sLV σ) (sDV σ ((sLV σ k).2.2.2.2.2 - 1))).2.2.2.2.2.2]))) h3 (hw_kd h3 (hDd _ hdd) rfl)
            have he_12 := up_at (o := some (.inr (2, [.int (dcOf aR (sLV σ) (sDV σ ((sLV σ k).2.2.2.2.2 - 1))).1, .ref (dcOf aR (sLV σ) (sDV σ ((sLV σ k).2.2.2.2.2 - 1))).2.1, .int (dcOf aR (sLV σ) (sDV σ ((sLV σ k).2.2.2.2.2 - 1))).2.2.1, .long (dcOf aR (sLV σ) (sDV σ ((sLV σ k).2.2.2.2.2 - 1))).2.2.2.1, .long (dcOf aR (sLV σ) (sDV σ ((sLV σ k).2.2.2.2.2 - 1))).2.2.2.2.1, .long 0, .long (dcOf aR (sLV σ) (sDV σ ((sLV σ k).2.2.2.2.2 - 1))).2.2.2.2.2.2]))) h4 (hw_kd h4 (hDd _ hdd) rfl)
            have he_13 := up_at (o := some (.inr (2, [.int (dcOf aR (sLV σ) (sDV σ ((sLV σ k).2.2.2.2.2 - 1))).1, .ref (dcOf aR (sLV σ) (sDV σ ((sLV σ k).2.2.2.2.2 - 1))).2.1, .int (dcOf aR (sLV σ) (sDV σ ((sLV σ k).2.2.2.2.2 - 1))).2.2.1, .long (dcOf aR (sLV σ) (sDV σ ((sLV σ k).2.2.2.2.2 - 1))).2.2.2.1, .long (dcOf aR (sLV σ) (sDV σ ((sLV σ k).2.2.2.2.2 - 1))).2.2.2.2.1, .long 0, .long (dcOf aR (sLV σ) (sDV σ ((sLV σ k).2.2.2.2.2 - 1))).2.2.2.2.2.2]))) (hLl k hk) (hw_kd (hLl k hk) (hDd _ hdd) rfl)
            have he_14 := va_up_self g (aD ((sLV σ k).2.2.2.2.2 - 1)) (some (.inr (2, [.int (dcOf aR (sLV σ) (sDV σ ((sLV σ k).2.2.2.2.2 - 1))).1, .ref (dcOf aR (sLV σ) (sDV σ ((sLV σ k).2.2.2.2.2 - 1))).2.1, .int (dcOf aR (sLV σ) (sDV σ ((sLV σ k).2.2.2.2.2 - 1))).2.2.1, .long (dcOf aR (sLV σ) (sDV σ ((sLV σ k).2.2.2.2.2 - 1))).2.2.2.1, .long (dcOf aR (sLV σ) (sDV σ ((sLV σ k).2.2.2.2.2 - 1))).2.2.2.2.1, .long 0, .long (dcOf aR (sLV σ) (sDV σ ((sLV σ k).2.2.2.2.2 - 1))).2.2.2.2.2.2]) : va_E))
            have hP : hw D vwCl A (va_up g (aD ((sLV σ k).2.2.2.2.2 - 1)) (some (.inr (2, [.int (dcOf aR (sLV σ) (sDV σ ((sLV σ k).2.2.2.2.2 - 1))).1, .ref (dcOf aR (sLV σ) (sDV σ ((sLV σ k).2.2.2.2.2 - 1))).2.1, .int (dcOf aR (sLV σ) (sDV σ ((sLV σ k).2.2.2.2.2 - 1))).2.2.1, .long (dcOf aR (sLV σ) (sDV σ ((sLV σ k).2.2.2.2.2 - 1))).2.2.2.1, .long (dcOf aR (sLV σ) (sDV σ ((sLV σ k).2.2.2.2.2 - 1))).2.2.2.2.1, .long 0, .long (dcOf aR (sLV σ) (sDV σ ((sLV σ k).2.2.2.2.2 - 1))).2.2.2.2.2.2])))) H := hP
            have hR1 : RC F t (va_up g (aD ((sLV σ k).2.2.2.2.2 - 1)) (some (cDv (dcOf aR (sLV σ) ((sDV σ ((sLV σ k).2.2.2.2.2 - 1)).1, (sDV σ ((sLV σ k).2.2.2.2.2 - 1)).2.1, 0, (sDV σ ((sLV σ k).2.2.2.2.2 - 1)).2.2.2.1, (sDV σ ((sLV σ k).2.2.2.2.2 - 1)).2.2.2.2.1, (sDV σ ((sLV σ k).2.2.2.2.2 - 1)).2.2.2.2.2))))) ad aR aL aD fR fL fI fN fB (zeD σ ((sLV σ k).2.2.2.2.2 - 1)) := RC.debt hRc ((sLV σ k).2.2.2.2.2 - 1) ((sDV σ ((sLV σ k).2.2.2.2.2 - 1)).1, (sDV σ ((sLV σ k).2.2.2.2.2 - 1)).2.1, 0, (sDV σ ((sLV σ k).2.2.2.2.2 - 1)).2.2.2.1, (sDV σ ((sLV σ k).2.2.2.2.2 - 1)).2.2.2.2.1, (sDV σ ((sLV σ k).2.2.2.2.2 - 1)).2.2.2.2.2) hdd
            have hK1 : Keep F g (va_up g (aD ((sLV σ k).2.2.2.2.2 - 1)) (some (cDv (dcOf aR (sLV σ) ((sDV σ ((sLV σ k).2.2.2.2.2 - 1)).1, (sDV σ ((sLV σ k).2.2.2.2.2 - 1)).2.1, 0, (sDV σ ((sLV σ k).2.2.2.2.2 - 1)).2.2.2.1, (sDV σ ((sLV σ k).2.2.2.2.2 - 1)).2.2.2.2.1, (sDV σ ((sLV σ k).2.2.2.2.2 - 1)).2.2.2.2.2))))) := Keep.up Keep.rf (Or.inl (f3 _ hdd))
            have hG1 : ∀ a, va_up g (aD ((sLV σ k).2.2.2.2.2 - 1)) (some (cDv (dcOf aR (sLV σ) ((sDV σ ((sLV σ k).2.2.2.2.2 - 1)).1, (sDV σ ((sLV σ k).2.2.2.2.2 - 1)).2.1, 0, (sDV σ ((sLV σ k).2.2.2.2.2 - 1)).2.2.2.1, (sDV σ ((sLV σ k).2.2.2.2.2 - 1)).2.2.2.2.1, (sDV σ ((sLV σ k).2.2.2.2.2 - 1)).2.2.2.2.2)))) a = none → g a = none := fun a h => none_up h
            have hP : hw D vwCl A (va_up g (aD ((sLV σ k).2.2.2.2.2 - 1)) (some (cDv (dcOf aR (sLV σ) ((sDV σ ((sLV σ k).2.2.2.2.2 - 1)).1, (sDV σ ((sLV σ k).2.2.2.2.2 - 1)).2.1, 0, (sDV σ ((sLV σ k).2.2.2.2.2 - 1)).2.2.2.1, (sDV σ ((sLV σ k).2.2.2.2.2 - 1)).2.2.2.2.1, (sDV σ ((sLV σ k).2.2.2.2.2 - 1)).2.2.2.2.2))))) H := hP
            generalize va_up g (aD ((sLV σ k).2.2.2.2.2 - 1)) (some (cDv (dcOf aR (sLV σ) ((sDV σ ((sLV σ k).2.2.2.2.2 - 1)).1, (sDV σ ((sLV σ k).2.2.2.2.2 - 1)).2.1, 0, (sDV σ ((sLV σ k).2.2.2.2.2 - 1)).2.2.2.1, (sDV σ ((sLV σ k).2.2.2.2.2 - 1)).2.2.2.2.1, (sDV σ ((sLV σ k).2.2.2.2.2 - 1)).2.2.2.2.2)))) = G1 at hR1 hK1 hG1 hP
            obtain ⟨b0, ⟨b1, b1f⟩, ⟨b2, b2f⟩, ⟨b3, b3f⟩, b4, b5, b6, ⟨b7, b7f⟩, ⟨b8, b8f⟩, b9, bRr, bLl, bDd, b78, -, bf0, -, bf2, bf3⟩ := id hR1
            refine lv_aload_n hx hb d_F_found_99 rfl (lv_at hl 4 rfl) ?_
            refine lv_aload hx hb d_F_found_100 (lv_at hl 3 rfl) ?_
            refine g_F_141 X hb hP (bLl k hk) rfl d_F_found_102 ?_
            refine lv_lload hx hb d_F_found_105 (lv_at hl 0 rfl) ?_
            refine k_F_144 X ⟨Nat.le_of_ble_eq_true rfl, Nat.le_of_ble_eq_true rfl⟩ ⟨Nat.le_of_ble_eq_true rfl, Nat.le_of_ble_eq_true rfl⟩ hl.1 hP hS b0 b0 b6 (hV.2.2.1 k hk).2.1 (by exact Nat.le_of_ble_eq_true rfl) d_F_found_107 (fun H locs hP hS => ?_)
            have hP : hw D vwCl A (va_up G1 (ad 6) (some (arJ t 30 (va_up (fun i => lN (sKR σ i)) (sLV σ k).2.1 (lN (sKR σ (sLV σ k).2.1 + (sDV σ ((sLV σ k).2.2.2.2.2 - 1)).2.2.2.1)))))) H := by rw [← lN_add]; have q := hP; rw [ex_9] at q; exact q
            have hR2 : RC F t (va_up G1 (ad 6) (some (arJ t 30 (va_up (fun i => lN (sKR σ i)) (sLV σ k).2.1 (lN (sKR σ (sLV σ k).2.1 + (sDV σ ((sLV σ k).2.2.2.2.2 - 1)).2.2.2.1)))))) ad aR aL aD fR fL fI fN fB (stK (zeD σ ((sLV σ k).2.2.2.2.2 - 1)) (sLV σ k).2.1 (sKR σ (sLV σ k).2.1 + (sDV σ ((sLV σ k).2.2.2.2.2 - 1)).2.2.2.1)) := RC.credit hR1 (sLV σ k).2.1 (sKR σ (sLV σ k).2.1 + (sDV σ ((sLV σ k).2.2.2.2.2 - 1)).2.2.2.1)
            have hK2 : Keep F g (va_up G1 (ad 6) (some (arJ t 30 (va_up (fun i => lN (sKR σ i)) (sLV σ k).2.1 (lN (sKR σ (sLV σ k).2.1 + (sDV σ ((sLV σ k).2.2.2.2.2 - 1)).2.2.2.1)))))) := Keep.up hK1 (Or.inl (f0 6 (by decide)))
            have hG2 : ∀ a, (va_up G1 (ad 6) (some (arJ t 30 (va_up (fun i => lN (sKR σ i)) (sLV σ k).2.1 (lN (sKR σ (sLV σ k).2.1 + (sDV σ ((sLV σ k).2.2.2.2.2 - 1)).2.2.2.1)))))) a = none → g a = none := fun a h => hG1 a (none_up h)
            generalize va_up G1 (ad 6) (some (arJ t 30 (va_up (fun i => lN (sKR σ i)) (sLV σ k).2.1 (lN (sKR σ (sLV σ k).2.1 + (sDV σ ((sLV σ k).2.2.2.2.2 - 1)).2.2.2.1))))) = G2 at hR2 hK2 hG2 hP
            obtain ⟨d0, ⟨d1, d1f⟩, ⟨d2, d2f⟩, ⟨d3, d3f⟩, d4, d5, d6, ⟨d7, d7f⟩, ⟨d8, d8f⟩, d9, dRr, dLl, dDd, d78, -, df0, -, df2, df3⟩ := id hR2
            refine lv_aload_n hx hb d_F_found_110 rfl (lv_at hl 4 rfl) ?_
            refine lv_aload hx hb d_F_found_111 (lv_at hl 3 rfl) ?_
            refine k_F_113 X ⟨Nat.le_of_ble_eq_true rfl, Nat.le_of_ble_eq_true rfl⟩ ⟨Nat.le_of_ble_eq_true rfl, Nat.le_of_ble_eq_true rfl⟩ hl.1 hP hS d0 d0 (dLl k hk) d3 (hV.2.2.1 k hk).1 (by exact Nat.le_of_ble_eq_true rfl) d_F_found_113 (fun H locs hP hS => ?_)
            have hP : hw D vwCl A (va_up (va_up G2 (aL k) (some (cLc (lcOf aR aD ((sLV σ k).1, (sLV σ k).2.1, (sLV σ k).2.2.1, (sLV σ k).2.2.2.1, 2, (sLV σ k).2.2.2.2.2))))) (ad 3) (some (arQ t 4 60 (va_up fI (sLV σ k).1 none)))) H := hP
            have hR3 : RC F t (va_up (va_up G2 (aL k) (some (cLc (lcOf aR aD ((sLV σ k).1, (sLV σ k).2.1, (sLV σ k).2.2.1, (sLV σ k).2.2.2.1, 2, (sLV σ k).2.2.2.2.2))))) (ad 3) (some (arQ t 4 60 (va_up fI (sLV σ k).1 none)))) ad aR aL aD fR fL (va_up fI (sLV σ k).1 none) fN fB (enL (stK (zeD σ ((sLV σ k).2.2.2.2.2 - 1)) (sLV σ k).2.1 (sKR σ (sLV σ k).2.1 + (sDV σ ((sLV σ k).2.2.2.2.2 - 1)).2.2.2.1)) k) := RC.item (RC.loan hR2 k ((sLV σ k).1, (sLV σ k).2.1, (sLV σ k).2.2.1, (sLV σ k).2.2.2.1, 2, (sLV σ k).2.2.2.2.2) hk ⟨rfl, rfl⟩) _
            have hK3 : Keep F g (va_up (va_up G2 (aL k) (some (cLc (lcOf aR aD ((sLV σ k).1, (sLV σ k).2.1, (sLV σ k).2.2.1, (sLV σ k).2.2.2.1, 2, (sLV σ k).2.2.2.2.2))))) (ad 3) (some (arQ t 4 60 (va_up fI (sLV σ k).1 none)))) := Keep.up (Keep.up hK2 (Or.inl (f2 k hk))) (Or.inl (f0 3 (by decide)))
            have hG3 : ∀ a, (va_up (va_up G2 (aL k) (some (cLc (lcOf aR aD ((sLV σ k).1, (sLV σ k).2.1, (sLV σ k).2.2.1, (sLV σ k).2.2.2.1, 2, (sLV σ k).2.2.2.2.2))))) (ad 3) (some (arQ t 4 60 (va_up fI (sLV σ k).1 none)))) a = none → g a = none := fun a h => hG2 a (none_up (none_up h))
            generalize va_up (va_up G2 (aL k) (some (cLc (lcOf aR aD ((sLV σ k).1, (sLV σ k).2.1, (sLV σ k).2.2.1, (sLV σ k).2.2.2.1, 2, (sLV σ k).2.2.2.2.2))))) (ad 3) (some (arQ t 4 60 (va_up fI (sLV σ k).1 none))) = G3 at hR3 hK3 hG3 hP
            have hV3 : Inv (enL (stK (zeD σ ((sLV σ k).2.2.2.2.2 - 1)) (sLV σ k).2.1 (sKR σ (sLV σ k).2.1 + (sDV σ ((sLV σ k).2.2.2.2.2 - 1)).2.2.2.1)) k) := Inv_enL (Inv_stK (Inv_zeD hV hdd)) hk (show (sLV σ k).2.2.2.2.1 ≠ 2 by rw [hst]; decide)
            obtain ⟨w0, ⟨w1, w1f⟩, ⟨w2, w2f⟩, ⟨w3, w3f⟩, w4, w5, w6, ⟨w7, w7f⟩, ⟨w8, w8f⟩, w9, wRr, wLl, wDd, w78, -, wf0, -, wf2, wf3⟩ := id hR3
            refine lv_aload_n hx hb d_F_found_116 rfl (lv_at hl 4 rfl) ?_
            refine lv_aload hx hb d_F_found_117 (lv_at hl 3 rfl) ?_
            refine lv_lload hx hb d_F_found_119 (lv_at hl 1 rfl) ?_
            refine lv_lload_n hx hb d_F_found_121 rfl (lv_at hl 6 rfl) ?_
            refine k_F_117 X ⟨Nat.le_of_ble_eq_true rfl, Nat.le_of_ble_eq_true rfl⟩ ⟨Nat.le_of_ble_eq_true rfl, Nat.le_of_ble_eq_true rfl⟩ hl.1 hP hS w0 w0 (wLl k hk) w4 w7 w8 w78 hn3 w8f (fun i hi => wDd _ (hV.2.2.2.2.2.1 i hi)) (fun h => absurd h (Int64.not_lt.mpr c_8)) (by exact Nat.le_of_ble_eq_true rfl) d_F_found_122 (fun r_17 u H locs hr_17 hP hS => ?_)
            refine lv_pop hx hb d_F_found_125 rfl ?_
            refine lv_lload hx hb d_F_found_126 (lv_at hl 0 rfl) ?_
            have e9 : spFound σ (nI i) d = (lN (sDV σ ((sLV σ k).2.2.2.2.2 - 1)).2.2.2.1, (chD (enL (stK (zeD σ ((sLV σ k).2.2.2.2.2 - 1)) (sLV σ k).2.1 (sKR σ (sLV σ k).2.1 + (sDV σ ((sLV σ k).2.2.2.2.2 - 1)).2.2.2.1)) k) k (lateJ σ k d) d).2) := by simp only [spFound, hln]; rw [if_pos (by rw [er_7] at c_8; have hnl : ¬ 0 < lateJ σ k d := Int64.not_lt.mpr c_8; simp [t_5, hnl])]
            have ea : lateJ σ k d = r_7 := er_7.symm
            have hfin : x_9 = (spFound σ (nI i) d).1 ∧ RCx (gr F g) t ad (spFound σ (nI i) d).2 u ∧ Keep F g u := by
              rw [e9, ea, chD]
              refine ⟨ex_9, ?_⟩
              rcases hr_17 with ⟨g1, g2, g3⟩ | ⟨g1, g2, o, g3, g4⟩
              · rw [if_neg (Int64.not_lt.mpr g1), g3]; exact ⟨⟨_, _, _, _, _, _, _, _, hR3.mono (fun _ h => Or.inl h)⟩, hK3⟩
              · exact absurd g1 (Int64.not_lt.mpr c_8)
            exact h_lret hx hb hr hlocks (Nat.le_of_ble_eq_true rfl) (Nat.le_of_ble_eq_true rfl) hP hS (hfin) d_F_found_128
          · rw [lg_cmp_le] at c_8
            refine lv_aload_n hx hb d_F_found_72 rfl (lv_at hl 3 rfl) ?_
            refine g_F_27 X hb hP h0 rfl d_F_found_73 ?_
            refine k_F_109 X ⟨Nat.le_of_ble_eq_true rfl, Nat.le_of_ble_eq_true rfl⟩ ⟨Nat.le_of_ble_eq_true rfl, Nat.le_of_ble_eq_true rfl⟩ hl.1 hP hS h4 h4 hn3 (by exact Nat.le_of_ble_eq_true rfl) d_F_found_76 (fun r_18 H locs er_18 hP hS => ?_)
            refine lv_if_eq (tgt := 86) hx hb d_F_found_79 (by decide) (fun c_19 => ?_) (fun c_19 => ?_)
            · have t_18 := bi_0.mp (er_18 ▸ c_19)
              refine lv_aload hx hb d_F_found_86 (lv_at hl 1 rfl) ?_
              refine g_F_132 X hb hP (hDd _ hdd) rfl d_F_found_88 ?_
              refine lv_topl (fun x_20 ex_20 => ?_)
              refine lv_lstore (lv' := [(8, .long x_20), (6, .long r_7), (5, .ref (aD ((sLV σ k).2.2.2.2.2 - 1))), (4, .ref (aL k)), (0, .ref (ad 0)), (1, .int (nI i)), (2, .long d)]) hx hb d_F_found_91 hl (by decide) rfl (fun ls hl => ?_)
              refine lv_aload hx hb d_F_found_93 (lv_at hl 2 rfl) ?_
              refine lv_lconst (v := 0) hx hb d_F_found_95 (by decide) ?_
              refine p_F_138 X hb hP hS (hDd _ hdd) (Nat.le_of_ble_eq_true rfl) d_F_found_96 (fun H locs hP hS => ?_)
              have he_21 := up_at (o := some (.inr (2, [.int (dcOf aR (sLV σ) (sDV σ ((sLV σ k).2.2.2.2.2 - 1))).1, .ref (dcOf aR (sLV σ) (sDV σ ((sLV σ k).2.2.2.2.2 - 1))).2.1, .int (dcOf aR (sLV σ) (sDV σ ((sLV σ k).2.2.2.2.2 - 1))).2.2.1, .long (dcOf aR (sLV σ) (sDV σ ((sLV σ k).2.2.2.2.2 - 1))).2.2.2.1, .long (dcOf aR (sLV σ) (sDV σ ((sLV σ k).2.2.2.2.2 - 1))).2.2.2.2.1, .long 0, .long (dcOf aR (sLV σ) (sDV σ ((sLV σ k).2.2.2.2.2 - 1))).2.2.2.2.2.2]))) h0 (hw_kd h0 (hDd _ hdd) rfl)
              have he_22 := up_at (o := some (.inr (2, [.int (dcOf aR (sLV σ) (sDV σ ((sLV σ k).2.2.2.2.2 - 1))).1, .ref (dcOf aR (sLV σ) (sDV σ ((sLV σ k).2.2.2.2.2 - 1))).2.1, .int (dcOf aR (sLV σ) (sDV σ ((sLV σ k).2.2.2.2.2 - 1))).2.2.1, .long (dcOf aR (sLV σ) (sDV σ ((sLV σ k).2.2.2.2.2 - 1))).2.2.2.1, .long (dcOf aR (sLV σ) (sDV σ ((sLV σ k).2.2.2.2.2 - 1))).2.2.2.2.1, .long 0, .long (dcOf aR (sLV σ) (sDV σ ((sLV σ k).2.2.2.2.2 - 1))).2.2.2.2.2.2]))) h3 (hw_kd h3 (hDd _ hdd) rfl)
              have he_23 := up_at (o := some (.inr (2, [.int (dcOf aR (sLV σ) (sDV σ ((sLV σ k).2.2.2.2.2 - 1))).1, .ref (dcOf aR (sLV σ) (sDV σ ((sLV σ k).2.2.2.2.2 - 1))).2.1, .int (dcOf aR (sLV σ) (sDV σ ((sLV σ k).2.2.2.2.2 - 1))).2.2.1, .long (dcOf aR (sLV σ) (sDV σ ((sLV σ k).2.2.2.2.2 - 1))).2.2.2.1, .long (dcOf aR (sLV σ) (sDV σ ((sLV σ k).2.2.2.2.2 - 1))).2.2.2.2.1, .long 0, .long (dcOf aR (sLV σ) (sDV σ ((sLV σ k).2.2.2.2.2 - 1))).2.2.2.2.2.2]))) h4 (hw_kd h4 (hDd _ hdd) rfl)
              have he_24 := up_at (o := some (.inr (2, [.int (dcOf aR (sLV σ) (sDV σ ((sLV σ k).2.2.2.2.2 - 1))).1, .ref (dcOf aR (sLV σ) (sDV σ ((sLV σ k).2.2.2.2.2 - 1))).2.1, .int (dcOf aR (sLV σ) (sDV σ ((sLV σ k).2.2.2.2.2 - 1))).2.2.1, .long (dcOf aR (sLV σ) (sDV σ ((sLV σ k).2.2.2.2.2 - 1))).2.2.2.1, .long (dcOf aR (sLV σ) (sDV σ ((sLV σ k).2.2.2.2.2 - 1))).2.2.2.2.1, .long 0, .long (dcOf aR (sLV σ) (sDV σ ((sLV σ k).2.2.2.2.2 - 1))).2.2.2.2.2.2]))) (hLl k hk) (hw_kd (hLl k hk) (hDd _ hdd) rfl)
              have he_25 := va_up_self g (aD ((sLV σ k).2.2.2.2.2 - 1)) (some (.inr (2, [.int (dcOf aR (sLV σ) (sDV σ ((sLV σ k).2.2.2.2.2 - 1))).1, .ref (dcOf aR (sLV σ) (sDV σ ((sLV σ k).2.2.2.2.2 - 1))).2.1, .int (dcOf aR (sLV σ) (sDV σ ((sLV σ k).2.2.2.2.2 - 1))).2.2.1, .long (dcOf aR (sLV σ) (sDV σ ((sLV σ k).2.2.2.2.2 - 1))).2.2.2.1, .long (dcOf aR (sLV σ) (sDV σ ((sLV σ k).2.2.2.2.2 - 1))).2.2.2.2.1, .long 0, .long (dcOf aR (sLV σ) (sDV σ ((sLV σ k).2.2.2.2.2 - 1))).2.2.2.2.2.2]) : va_E))
              have hP : hw D vwCl A (va_up g (aD ((sLV σ k).2.2.2.2.2 - 1)) (some (.inr (2, [.int (dcOf aR (sLV σ) (sDV σ ((sLV σ k).2.2.2.2.2 - 1))).1, .ref (dcOf aR (sLV σ) (sDV σ ((sLV σ k).2.2.2.2.2 - 1))).2.1, .int (dcOf aR (sLV σ) (sDV σ ((sLV σ k).2.2.2.2.2 - 1))).2.2.1, .long (dcOf aR (sLV σ) (sDV σ ((sLV σ k).2.2.2.2.2 - 1))).2.2.2.1, .long (dcOf aR (sLV σ) (sDV σ ((sLV σ k).2.2.2.2.2 - 1))).2.2.2.2.1, .long 0, .long (dcOf aR (sLV σ) (sDV σ ((sLV σ k).2.2.2.2.2 - 1))).2.2.2.2.2.2])))) H := hP
              have hR1 : RC F t (va_up g (aD ((sLV σ k).2.2.2.2.2 - 1)) (some (cDv (dcOf aR (sLV σ) ((sDV σ ((sLV σ k).2.2.2.2.2 - 1)).1, (sDV σ ((sLV σ k).2.2.2.2.2 - 1)).2.1, 0, (sDV σ ((sLV σ k).2.2.2.2.2 - 1)).2.2.2.1, (sDV σ ((sLV σ k).2.2.2.2.2 - 1)).2.2.2.2.1, (sDV σ ((sLV σ k).2.2.2.2.2 - 1)).2.2.2.2.2))))) ad aR aL aD fR fL fI fN fB (zeD σ ((sLV σ k).2.2.2.2.2 - 1)) := RC.debt hRc ((sLV σ k).2.2.2.2.2 - 1) ((sDV σ ((sLV σ k).2.2.2.2.2 - 1)).1, (sDV σ ((sLV σ k).2.2.2.2.2 - 1)).2.1, 0, (sDV σ ((sLV σ k).2.2.2.2.2 - 1)).2.2.2.1, (sDV σ ((sLV σ k).2.2.2.2.2 - 1)).2.2.2.2.1, (sDV σ ((sLV σ k).2.2.2.2.2 - 1)).2.2.2.2.2) hdd
              have hK1 : Keep F g (va_up g (aD ((sLV σ k).2.2.2.2.2 - 1)) (some (cDv (dcOf aR (sLV σ) ((sDV σ ((sLV σ k).2.2.2.2.2 - 1)).1, (sDV σ ((sLV σ k).2.2.2.2.2 - 1)).2.1, 0, (sDV σ ((sLV σ k).2.2.2.2.2 - 1)).2.2.2.1, (sDV σ ((sLV σ k).2.2.2.2.2 - 1)).2.2.2.2.1, (sDV σ ((sLV σ k).2.2.2.2.2 - 1)).2.2.2.2.2))))) := Keep.up Keep.rf (Or.inl (f3 _ hdd))
              have hG1 : ∀ a, va_up g (aD ((sLV σ k).2.2.2.2.2 - 1)) (some (cDv (dcOf aR (sLV σ) ((sDV σ ((sLV σ k).2.2.2.2.2 - 1)).1, (sDV σ ((sLV σ k).2.2.2.2.2 - 1)).2.1, 0, (sDV σ ((sLV σ k).2.2.2.2.2 - 1)).2.2.2.1, (sDV σ ((sLV σ k).2.2.2.2.2 - 1)).2.2.2.2.1, (sDV σ ((sLV σ k).2.2.2.2.2 - 1)).2.2.2.2.2)))) a = none → g a = none := fun a h => none_up h
              have hP : hw D vwCl A (va_up g (aD ((sLV σ k).2.2.2.2.2 - 1)) (some (cDv (dcOf aR (sLV σ) ((sDV σ ((sLV σ k).2.2.2.2.2 - 1)).1, (sDV σ ((sLV σ k).2.2.2.2.2 - 1)).2.1, 0, (sDV σ ((sLV σ k).2.2.2.2.2 - 1)).2.2.2.1, (sDV σ ((sLV σ k).2.2.2.2.2 - 1)).2.2.2.2.1, (sDV σ ((sLV σ k).2.2.2.2.2 - 1)).2.2.2.2.2))))) H := hP
              generalize va_up g (aD ((sLV σ k).2.2.2.2.2 - 1)) (some (cDv (dcOf aR (sLV σ) ((sDV σ ((sLV σ k).2.2.2.2.2 - 1)).1, (sDV σ ((sLV σ k).2.2.2.2.2 - 1)).2.1, 0, (sDV σ ((sLV σ k).2.2.2.2.2 - 1)).2.2.2.1, (sDV σ ((sLV σ k).2.2.2.2.2 - 1)).2.2.2.2.1, (sDV σ ((sLV σ k).2.2.2.2.2 - 1)).2.2.2.2.2)))) = G1 at hR1 hK1 hG1 hP
              obtain ⟨b0, ⟨b1, b1f⟩, ⟨b2, b2f⟩, ⟨b3, b3f⟩, b4, b5, b6, ⟨b7, b7f⟩, ⟨b8, b8f⟩, b9, bRr, bLl, bDd, b78, -, bf0, -, bf2, bf3⟩ := id hR1
              refine lv_aload_n hx hb d_F_found_99 rfl (lv_at hl 4 rfl) ?_
              refine lv_aload hx hb d_F_found_100 (lv_at hl 3 rfl) ?_
              refine g_F_141 X hb hP (bLl k hk) rfl d_F_found_102 ?_
              refine lv_lload hx hb d_F_found_105 (lv_at hl 0 rfl) ?_
              refine k_F_144 X ⟨Nat.le_of_ble_eq_true rfl, Nat.le_of_ble_eq_true rfl⟩ ⟨Nat.le_of_ble_eq_true rfl, Nat.le_of_ble_eq_true rfl⟩ hl.1 hP hS b0 b0 b6 (hV.2.2.1 k hk).2.1 (by exact Nat.le_of_ble_eq_true rfl) d_F_found_107 (fun H locs hP hS => ?_)
              have hP : hw D vwCl A (va_up G1 (ad 6) (some (arJ t 30 (va_up (fun i => lN (sKR σ i)) (sLV σ k).2.1 (lN (sKR σ (sLV σ k).2.1 + (sDV σ ((sLV σ k).2.2.2.2.2 - 1)).2.2.2.1)))))) H := by rw [← lN_add]; have q := hP; rw [ex_20] at q; exact q
              have hR2 : RC F t (va_up G1 (ad 6) (some (arJ t 30 (va_up (fun i => lN (sKR σ i)) (sLV σ k).2.1 (lN (sKR σ (sLV σ k).2.1 + (sDV σ ((sLV σ k).2.2.2.2.2 - 1)).2.2.2.1)))))) ad aR aL aD fR fL fI fN fB (stK (zeD σ ((sLV σ k).2.2.2.2.2 - 1)) (sLV σ k).2.1 (sKR σ (sLV σ k).2.1 + (sDV σ ((sLV σ k).2.2.2.2.2 - 1)).2.2.2.1)) := RC.credit hR1 (sLV σ k).2.1 (sKR σ (sLV σ k).2.1 + (sDV σ ((sLV σ k).2.2.2.2.2 - 1)).2.2.2.1)
              have hK2 : Keep F g (va_up G1 (ad 6) (some (arJ t 30 (va_up (fun i => lN (sKR σ i)) (sLV σ k).2.1 (lN (sKR σ (sLV σ k).2.1 + (sDV σ ((sLV σ k).2.2.2.2.2 - 1)).2.2.2.1)))))) := Keep.up hK1 (Or.inl (f0 6 (by decide)))
              have hG2 : ∀ a, (va_up G1 (ad 6) (some (arJ t 30 (va_up (fun i => lN (sKR σ i)) (sLV σ k).2.1 (lN (sKR σ (sLV σ k).2.1 + (sDV σ ((sLV σ k).2.2.2.2.2 - 1)).2.2.2.1)))))) a = none → g a = none := fun a h => hG1 a (none_up h)
              generalize va_up G1 (ad 6) (some (arJ t 30 (va_up (fun i => lN (sKR σ i)) (sLV σ k).2.1 (lN (sKR σ (sLV σ k).2.1 + (sDV σ ((sLV σ k).2.2.2.2.2 - 1)).2.2.2.1))))) = G2 at hR2 hK2 hG2 hP
              obtain ⟨d0, ⟨d1, d1f⟩, ⟨d2, d2f⟩, ⟨d3, d3f⟩, d4, d5, d6, ⟨d7, d7f⟩, ⟨d8, d8f⟩, d9, dRr, dLl, dDd, d78, -, df0, -, df2, df3⟩ := id hR2
              refine lv_aload_n hx hb d_F_found_110 rfl (lv_at hl 4 rfl) ?_
              refine lv_aload hx hb d_F_found_111 (lv_at hl 3 rfl) ?_
              refine k_F_113 X ⟨Nat.le_of_ble_eq_true rfl, Nat.le_of_ble_eq_true rfl⟩ ⟨Nat.le_of_ble_eq_true rfl, Nat.le_of_ble_eq_true rfl⟩ hl.1 hP hS d0 d0 (dLl k hk) d3 (hV.2.2.1 k hk).1 (by exact Nat.le_of_ble_eq_true rfl) d_F_found_113 (fun H locs hP hS => ?_)
              have hP : hw D vwCl A (va_up (va_up G2 (aL k) (some (cLc (lcOf aR aD ((sLV σ k).1, (sLV σ k).2.1, (sLV σ k).2.2.1, (sLV σ k).2.2.2.1, 2, (sLV σ k).2.2.2.2.2))))) (ad 3) (some (arQ t 4 60 (va_up fI (sLV σ k).1 none)))) H := hP
              have hR3 : RC F t (va_up (va_up G2 (aL k) (some (cLc (lcOf aR aD ((sLV σ k).1, (sLV σ k).2.1, (sLV σ k).2.2.1, (sLV σ k).2.2.2.1, 2, (sLV σ k).2.2.2.2.2))))) (ad 3) (some (arQ t 4 60 (va_up fI (sLV σ k).1 none)))) ad aR aL aD fR fL (va_up fI (sLV σ k).1 none) fN fB (enL (stK (zeD σ ((sLV σ k).2.2.2.2.2 - 1)) (sLV σ k).2.1 (sKR σ (sLV σ k).2.1 + (sDV σ ((sLV σ k).2.2.2.2.2 - 1)).2.2.2.1)) k) := RC.item (RC.loan hR2 k ((sLV σ k).1, (sLV σ k).2.1, (sLV σ k).2.2.1, (sLV σ k).2.2.2.1, 2, (sLV σ k).2.2.2.2.2) hk ⟨rfl, rfl⟩) _
              have hK3 : Keep F g (va_up (va_up G2 (aL k) (some (cLc (lcOf aR aD ((sLV σ k).1, (sLV σ k).2.1, (sLV σ k).2.2.1, (sLV σ k).2.2.2.1, 2, (sLV σ k).2.2.2.2.2))))) (ad 3) (some (arQ t 4 60 (va_up fI (sLV σ k).1 none)))) := Keep.up (Keep.up hK2 (Or.inl (f2 k hk))) (Or.inl (f0 3 (by decide)))
              have hG3 : ∀ a, (va_up (va_up G2 (aL k) (some (cLc (lcOf aR aD ((sLV σ k).1, (sLV σ k).2.1, (sLV σ k).2.2.1, (sLV σ k).2.2.2.1, 2, (sLV σ k).2.2.2.2.2))))) (ad 3) (some (arQ t 4 60 (va_up fI (sLV σ k).1 none)))) a = none → g a = none := fun a h => hG2 a (none_up (none_up h))
              generalize va_up (va_up G2 (aL k) (some (cLc (lcOf aR aD ((sLV σ k).1, (sLV σ k).2.1, (sLV σ k).2.2.1, (sLV σ k).2.2.2.1, 2, (sLV σ k).2.2.2.2.2))))) (ad 3) (some (arQ t 4 60 (va_up fI (sLV σ k).1 none))) = G3 at hR3 hK3 hG3 hP
              have hV3 : Inv (enL (stK (zeD σ ((sLV σ k).2.2.2.2.2 - 1)) (sLV σ k).2.1 (sKR σ (sLV σ k).2.1 + (sDV σ ((sLV σ k).2.2.2.2.2 - 1)).2.2.2.1)) k) := Inv_enL (Inv_stK (Inv_zeD hV hdd)) hk (show (sLV σ k).2.2.2.2.1 ≠ 2 by rw [hst]; decide)
              obtain ⟨w0, ⟨w1, w1f⟩, ⟨w2, w2f⟩, ⟨w3, w3f⟩, w4, w5, w6, ⟨w7, w7f⟩, ⟨w8, w8f⟩, w9, wRr, wLl, wDd, w78, -, wf0, -, wf2, wf3⟩ := id hR3
              refine lv_aload_n hx hb d_F_found_116 rfl (lv_at hl 4 rfl) ?_
              refine lv_aload hx hb d_F_found_117 (lv_at hl 3 rfl) ?_
              refine lv_lload hx hb d_F_found_119 (lv_at hl 1 rfl) ?_
              refine lv_lload_n hx hb d_F_found_121 rfl (lv_at hl 6 rfl) ?_
              refine k_F_117 X ⟨Nat.le_of_ble_eq_true rfl, Nat.le_of_ble_eq_true rfl⟩ ⟨Nat.le_of_ble_eq_true rfl, Nat.le_of_ble_eq_true rfl⟩ hl.1 hP hS w0 w0 (wLl k hk) w4 w7 w8 w78 hn3 w8f (fun i hi => wDd _ (hV.2.2.2.2.2.1 i hi)) (fun _ => by have := of_decide_eq_false t_18; show sND σ < 200; omega) (by exact Nat.le_of_ble_eq_true rfl) d_F_found_122 (fun r_28 u H locs hr_28 hP hS => ?_)
              refine lv_pop hx hb d_F_found_125 rfl ?_
              refine lv_lload hx hb d_F_found_126 (lv_at hl 0 rfl) ?_
              have e9 : spFound σ (nI i) d = (lN (sDV σ ((sLV σ k).2.2.2.2.2 - 1)).2.2.2.1, (chD (enL (stK (zeD σ ((sLV σ k).2.2.2.2.2 - 1)) (sLV σ k).2.1 (sKR σ (sLV σ k).2.1 + (sDV σ ((sLV σ k).2.2.2.2.2 - 1)).2.2.2.1)) k) k (lateJ σ k d) d).2) := by simp only [spFound, hln]; rw [if_pos (by simp [t_5, t_18])]
              have ea : lateJ σ k d = r_7 := er_7.symm
              have hfin : x_20 = (spFound σ (nI i) d).1 ∧ RCx (gr F g) t ad (spFound σ (nI i) d).2 u ∧ Keep F g u := by
                rw [e9, ea, chD]
                refine ⟨ex_20, ?_⟩
                rcases hr_28 with ⟨g1, g2, g3⟩ | ⟨g1, g2, o, g3, g4⟩
                · rw [if_neg (Int64.not_lt.mpr g1), g3]; exact ⟨⟨_, _, _, _, _, _, _, _, hR3.mono (fun _ h => Or.inl h)⟩, hK3⟩
                · rw [if_pos g1, g4]; exact step2 hG3 hK3 (RC_add hR3 hV3 g3 g1 (by have := of_decide_eq_false t_18; show sND σ < 200; omega))
              exact h_lret hx hb hr hlocks (Nat.le_of_ble_eq_true rfl) (Nat.le_of_ble_eq_true rfl) hP hS (hfin) d_F_found_128
            · have t_18 := bi_n0.mp (er_18 ▸ c_19)
              refine lv_ldc2 (v := (-1)) hx hb hown (hts _ (tbm 212 (by decide +kernel))) d_F_found_82 ?_
              have hlt : 0 < lateJ σ k d := by rw [er_7] at c_8; exact Int64.not_le.mp c_8
              have e9 : spFound σ (nI i) d = (-1, σ) := by simp [spFound, hln, hlt, t_5, t_18]
              exact h_lret hx hb hr hlocks (Nat.le_of_ble_eq_true rfl) (Nat.le_of_ble_eq_true rfl) hP hS (⟨by rw [e9], by rw [e9]; exact hRx.mono (fun _ h => Or.inl h), Keep.rf⟩) d_F_found_85
        · have t_5 := bi_0.mp (er_5 ▸ c_6)
          refine lv_ldc2 (v := (-1)) hx hb hown (hts _ (tbm 212 (by decide +kernel))) d_F_found_52 ?_
          have e9 : spFound σ (nI i) d = (-1, σ) := by simp [spFound, hln, t_5]
          exact h_lret hx hb hr hlocks (Nat.le_of_ble_eq_true rfl) (Nat.le_of_ble_eq_true rfl) hP hS (⟨by rw [e9], by rw [e9]; exact hRx.mono (fun _ h => Or.inl h), Keep.rf⟩) d_F_found_55
theorem k_W_60 {p : Program} {l : Launch} {e : Env} {R : Room} {s : State} {m : MethodId} {args : Array Value} {below : List Frame} {meth : Method} {c : Code} {H : Heap} {locs : List Loc} {cells slots : Nat} {Q : State → Prop} {cc : ByteArray} {pc : Nat} {ls : Array Slot} {rest : List Value} {D : va_G} {A : Nat → Prop} {t : Nat → ClassId} {g : hG} {nL : Nat} {ret0 : Option FieldType} {nm : String} (X : Cx p s m args meth c R_W cc nL ret0 TB D vwCl (tyL t) EX A nm) (hR : 4 + 1 ≤ R.frames ∧ 8 + (10 + 11) + 103 ≤ R.locals) (hf : cells + 1 ≤ R.cells ∧ slots + 7 ≤ R.slots) (hls : ls.size = nL) (hP : hw D vwCl A g H) (hS : va_S A s.heap H locs) {F : Nat → Prop} {ad : Nat → Nat} {σ : SS} {x : Int32} {d : Int64} {fs9 : List Value} (he9 : g (ad 0) = some (.inr (0, fs9))) (hRx : RCx F t ad σ g) (hV : Inv σ) (hW : (rest.map fun v => v.category).sum ≤ 8) (hdg : decode cc pc = .ok (.invokevirtual 60, 3)) (kk : ∀ (r : Int64) (u : hG) (H1 : Heap) (locs1 : List Loc), ((fun r u => r = (spFound σ x d).1 ∧ RCx (gr F g) t ad (spFound σ x d).2 u ∧ Keep F g u) r u) → hw D vwCl A u H1 → va_S A s.heap H1 locs1 → W p l e R s m args below meth c H1 locs1 (cells + 1) (slots + 7) Q (F0 m (pc + 3) ls (.long r :: rest))) : W p l e R s m args below meth c H locs cells slots Q (F0 m pc ls (.long d :: .int x :: .ref (ad 0) :: rest)) :=
  h_cl (runV (C := R_F) (T := F_F) (N := 9) X (c_F_found l D t A g F ad σ x d hRx hV) (tbm 297 (by decide +kernel)) (tbm 298 (by decide +kernel)) (tbm 299 (by decide +kernel)) (tbm 20 (by decide +kernel)) (tbm 300 (by decide +kernel)) rfl (n := 2) (by decide +kernel) hR hf hP he9 hS hls rfl rfl hW hdg) hS kk
