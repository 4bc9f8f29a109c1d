set_option maxHeartbeats 4000000 in
set_option maxRecDepth 100000 in
theorem c_F_back (l : Launch) (D : va_G) (t : Nat → ClassId) (A : Nat → Prop) (g : hG) (F : Nat → Prop) (ad : Nat → Nat) (σ : SS) (x : Int32) (d : Int64) (hRx : RCx F t ad σ g) (hV : Inv σ) : Met l y_F_back (Cond.code y_F_back b_F_back 7 (some .int) :: TB) ({ frames := 4, cells := 1, slots := 7, locals := 103 } : Room) (va_Pc [.ref (ad 0), .int x, .long d] (hI D vwCl (tyL t) EX A g)) (va_Qi (fun r u => r = (spBack σ x d).1 ∧ RCx (gr F g) t ad (spBack σ x d).2 u ∧ Keep F g u) (fun u v => hw D vwCl A u v.heap) A) 1 7 A := by
  refine Met.ofH (cc := b_F_back) (maxL := 7) (ret := (some .int)) (lv := [(0, .ref (ad 0)), (1, .int x), (2, .long d)]) (by decide) (Nat.le_of_ble_eq_true rfl) rfl ?_
  intro p e s m below meth c ls X hP hS hl
  obtain ⟨hx, hb, hml, hr, hts, hown, hlocks, hK, hEs, hA, hnm⟩ := id X
  obtain ⟨aR, aL, aD, fR, fL, fI, fN, fB, hRc⟩ := id hRx
  obtain ⟨h0, ⟨h1, h1f⟩, ⟨h2, h2f⟩, ⟨h3, h3f⟩, h4, h5, h6, ⟨h7, h7f⟩, ⟨h8, h8f⟩, h9, hRr, hLl, hDd, h78, ⟨iR, iL, iD⟩, f0, f1, f2, f3⟩ := id hRc
  have hn1 := hV.1.1
  have hn2 := hV.1.2.1
  have hn3 := hV.1.2.2.1
  have hn4 := hV.1.2.2.2
  refine lv_aload_n hx hb d_F_back_0 rfl (lv_at hl 0 rfl) ?_
  refine lv_iload_n hx hb d_F_back_1 rfl (lv_at hl 1 rfl) ?_
  refine k_F_99 X ⟨Nat.le_of_ble_eq_true rfl, Nat.le_of_ble_eq_true rfl⟩ ⟨Nat.le_of_ble_eq_true rfl, Nat.le_of_ble_eq_true rfl⟩ hl.1 hP hS h0 h0 h2 hn2 h2f hLl (by exact Nat.le_of_ble_eq_true rfl) d_F_back_2 (fun r_1 H locs er_1 hP hS => ?_)
  refine lv_topq (fun ey_2 => ?_) (fun y_2 ey_2 => ?_)
  · have hN := lnQ_N hV (er_1 ▸ ey_2)
    refine lv_astoreN (lv' := [(4, .null), (0, .ref (ad 0)), (1, .int x), (2, .long d)]) hx hb d_F_back_5 hl (by decide) rfl (fun ls hl => ?_)
    refine lv_aloadN hx hb d_F_back_7 (lv_at hl 0 rfl) ?_
    refine lv_ifnullN (tgt := 19) hx hb d_F_back_9 (by decide) ?_
    refine lv_iconst (v := (-1)) hx hb d_F_back_19 (by decide) ?_
    have e9 : spBack σ x d = (-1, σ) := by simp [spBack, hN]
    exact h_iret hx hb hr hlocks (Nat.le_of_ble_eq_true rfl) (Nat.le_of_ble_eq_true rfl) hP hS (⟨by rw [e9], by rw [e9]; exact hRx.mono (fun _ h => Or.inl h), Keep.rf⟩) d_F_back_20
  · obtain ⟨k, hk, rfl, rfl, hst, hln⟩ := lnQ_S hV (er_1 ▸ ey_2)
    refine lv_astore (lv' := [(4, .ref (aL k)), (0, .ref (ad 0)), (1, .int (nI (k + 1))), (2, .long d)]) hx hb d_F_back_5 hl (by decide) rfl (fun ls hl => ?_)
    refine lv_aload hx hb d_F_back_7 (lv_at hl 0 rfl) ?_
    refine lv_ifnull hx hb d_F_back_9 ?_
    refine lv_lload_n hx hb d_F_back_12 rfl (lv_at hl 3 rfl) ?_
    refine k_F_76 X ⟨Nat.le_of_ble_eq_true rfl, Nat.le_of_ble_eq_true rfl⟩ ⟨Nat.le_of_ble_eq_true rfl, Nat.le_of_ble_eq_true rfl⟩ hl.1 hP hS (by exact Nat.le_of_ble_eq_true rfl) d_F_back_13 (fun r_3 H locs er_3 hP hS => ?_)
    refine lv_if_ne (tgt := 21) hx hb d_F_back_16 (by decide) (fun c_4 => ?_) (fun c_4 => ?_)
    · have t_3 := bi_n0.mp (er_3 ▸ c_4)
      refine lv_aload_n hx hb d_F_back_21 rfl (lv_at hl 1 rfl) ?_
      refine lv_aload hx hb d_F_back_22 (lv_at hl 0 rfl) ?_
      refine lv_lload_n hx hb d_F_back_24 rfl (lv_at hl 3 rfl) ?_
      refine k_F_105 X ⟨Nat.le_of_ble_eq_true rfl, Nat.le_of_ble_eq_true rfl⟩ ⟨Nat.le_of_ble_eq_true rfl, Nat.le_of_ble_eq_true rfl⟩ hl.1 hP hS h0 h0 (hLl k hk) (hRr _ (hV.2.2.1 k hk).2.2.1) h5 h9 hn4 (by exact Nat.le_of_ble_eq_true rfl) d_F_back_25 (fun r_5 H locs er_5 hP hS => ?_)
      refine lv_lstore (lv' := [(5, .long r_5), (4, .ref (aL k)), (0, .ref (ad 0)), (1, .int (nI (k + 1))), (2, .long d)]) hx hb d_F_back_28 hl (by decide) rfl (fun ls hl => ?_)
      refine lv_lload hx hb d_F_back_30 (lv_at hl 0 rfl) ?_
      refine lv_lconst (v := 0) hx hb d_F_back_32 (by decide) ?_
      refine W.lcmp hx hb d_F_back_33 ?_
      refine lv_if_le (tgt := 49) hx hb d_F_back_34 (by decide) (fun c_6 => ?_) (fun c_6 => ?_)
      · rw [lg_cmp_le] at c_6
        refine lv_aload_n hx hb d_F_back_49 rfl (lv_at hl 2 rfl) ?_
        refine lv_aload hx hb d_F_back_50 (lv_at hl 1 rfl) ?_
        refine k_F_113 X ⟨Nat.le_of_ble_eq_true rfl, Nat.le_of_ble_eq_true rfl⟩ ⟨Nat.le_of_ble_eq_true rfl, Nat.le_of_ble_eq_true rfl⟩ hl.1 hP hS h0 h0 (hLl k hk) h3 (hV.2.2.1 k hk).1 (by exact Nat.le_of_ble_eq_true rfl) d_F_back_52 (fun H locs hP hS => ?_)
        obtain ⟨G, hG⟩ : ∃ G : hG, G = va_up (va_up g (aL k) (some (cLc (lcOf aR aD ((sLV σ k).1, (sLV σ k).2.1, (sLV σ k).2.2.1, (sLV σ k).2.2.2.1, 2, (sLV σ k).2.2.2.2.2))))) (ad 3) (some (arQ t 4 60 (va_up fI (sLV σ k).1 none))) := ⟨_, rfl⟩
        have hP : hw D vwCl A G H := by rw [hG]; exact hP
        have hR1 : RC F t G ad aR aL aD fR fL (va_up fI (sLV σ k).1 none) fN fB (enL σ k) := by rw [hG]; exact RC.item (RC.loan hRc k ((sLV σ k).1, (sLV σ k).2.1, (sLV σ k).2.2.1, (sLV σ k).2.2.2.1, 2, (sLV σ k).2.2.2.2.2) hk ⟨rfl, rfl⟩) _
        have hK1 : Keep F g G := by rw [hG]; exact Keep.up (Keep.up Keep.rf (Or.inl (f2 k hk))) (Or.inl (f0 3 (by decide)))
        have hG0 : ∀ a, G a = none → g a = none := fun a h => by rw [hG] at h; exact none_up (none_up h)
        have hV1 : Inv (enL σ k) := Inv_enL hV hk (by rw [hst]; decide)
        obtain ⟨b0, ⟨b1, b1f⟩, ⟨b2, b2f⟩, ⟨b3, b3f⟩, b4, b5, b6, ⟨b7, b7f⟩, ⟨b8, b8f⟩, b9, bRr, bLl, bDd, b78, -, bf0, -, bf2, bf3⟩ := id hR1
        refine lv_aload_n hx hb d_F_back_55 rfl (lv_at hl 2 rfl) ?_
        refine lv_aload hx hb d_F_back_56 (lv_at hl 1 rfl) ?_
        refine lv_lload hx hb d_F_back_58 (lv_at hl 0 rfl) ?_
        refine lv_lload_n hx hb d_F_back_60 rfl (lv_at hl 4 rfl) ?_
        refine k_F_117 X ⟨Nat.le_of_ble_eq_true rfl, Nat.le_of_ble_eq_true rfl⟩ ⟨Nat.le_of_ble_eq_true rfl, Nat.le_of_ble_eq_true rfl⟩ hl.1 hP hS b0 b0 (bLl k hk) b4 b7 b8 b78 hn3 b8f (fun i hi => bDd _ (hV.2.2.2.2.2.1 i hi)) (fun h => absurd h (Int64.not_lt.mpr c_6)) (by exact Nat.le_of_ble_eq_true rfl) d_F_back_61 (fun r_8 u H locs hr_8 hP hS => ?_)
        have e9 : spBack σ (nI (k + 1)) d = chD (enL σ k) k (lateJ σ k d) d := by simp only [spBack, hln]; rw [if_pos (by rw [er_5] at c_6; have hnl : ¬ 0 < lateJ σ k d := Int64.not_lt.mpr c_6; simp [t_3, hnl])]
        have ea : lateJ σ k d = r_5 := er_5.symm
        have hfin : r_8 = (spBack σ (nI (k + 1)) d).1 ∧ RCx (gr F g) t ad (spBack σ (nI (k + 1)) d).2 u ∧ Keep F g u := by
          rw [e9, ea, chD]
          rcases hr_8 with ⟨g1, g2, g3⟩ | ⟨g1, g2, o, g3, g4⟩
          · rw [if_neg (Int64.not_lt.mpr g1), g2, g3]; exact ⟨rfl, ⟨_, _, _, _, _, _, _, _, hR1.mono (fun _ h => Or.inl h)⟩, hK1⟩
          · exact absurd g1 (Int64.not_lt.mpr c_6)
        exact h_iret hx hb hr hlocks (Nat.le_of_ble_eq_true rfl) (Nat.le_of_ble_eq_true rfl) hP hS (hfin) d_F_back_64
      · rw [lg_cmp_le] at c_6
        refine lv_aload_n hx hb d_F_back_37 rfl (lv_at hl 2 rfl) ?_
        refine g_F_27 X hb hP h0 rfl d_F_back_38 ?_
        refine k_F_109 X ⟨Nat.le_of_ble_eq_true rfl, Nat.le_of_ble_eq_true rfl⟩ ⟨Nat.le_of_ble_eq_true rfl, Nat.le_of_ble_eq_true rfl⟩ hl.1 hP hS h4 h4 hn3 (by exact Nat.le_of_ble_eq_true rfl) d_F_back_41 (fun r_9 H locs er_9 hP hS => ?_)
        refine lv_if_eq (tgt := 49) hx hb d_F_back_44 (by decide) (fun c_10 => ?_) (fun c_10 => ?_)
        · have t_9 := bi_0.mp (er_9 ▸ c_10)
          refine lv_aload_n hx hb d_F_back_49 rfl (lv_at hl 2 rfl) ?_
          refine lv_aload hx hb d_F_back_50 (lv_at hl 1 rfl) ?_
          refine k_F_113 X ⟨Nat.le_of_ble_eq_true rfl, Nat.le_of_ble_eq_true rfl⟩ ⟨Nat.le_of_ble_eq_true rfl, Nat.le_of_ble_eq_true rfl⟩ hl.1 hP hS h0 h0 (hLl k hk) h3 (hV.2.2.1 k hk).1 (by exact Nat.le_of_ble_eq_true rfl) d_F_back_52 (fun H locs hP hS => ?_)
          obtain ⟨G, hG⟩ : ∃ G : hG, G = va_up (va_up g (aL k) (some (cLc (lcOf aR aD ((sLV σ k).1, (sLV σ k).2.1, (sLV σ k).2.2.1, (sLV σ k).2.2.2.1, 2, (sLV σ k).2.2.2.2.2))))) (ad 3) (some (arQ t 4 60 (va_up fI (sLV σ k).1 none))) := ⟨_, rfl⟩
          have hP : hw D vwCl A G H := by rw [hG]; exact hP
          have hR1 : RC F t G ad aR aL aD fR fL (va_up fI (sLV σ k).1 none) fN fB (enL σ k) := by rw [hG]; exact RC.item (RC.loan hRc k ((sLV σ k).1, (sLV σ k).2.1, (sLV σ k).2.2.1, (sLV σ k).2.2.2.1, 2, (sLV σ k).2.2.2.2.2) hk ⟨rfl, rfl⟩) _
          have hK1 : Keep F g G := by rw [hG]; exact Keep.up (Keep.up Keep.rf (Or.inl (f2 k hk))) (Or.inl (f0 3 (by decide)))
          have hG0 : ∀ a, G a = none → g a = none := fun a h => by rw [hG] at h; exact none_up (none_up h)
          have hV1 : Inv (enL σ k) := Inv_enL hV hk (by rw [hst]; decide)
          obtain ⟨b0, ⟨b1, b1f⟩, ⟨b2, b2f⟩, ⟨b3, b3f⟩, b4, b5, b6, ⟨b7, b7f⟩, ⟨b8, b8f⟩, b9, bRr, bLl, bDd, b78, -, bf0, -, bf2, bf3⟩ := id hR1
          refine lv_aload_n hx hb d_F_back_55 rfl (lv_at hl 2 rfl) ?_
          refine lv_aload hx hb d_F_back_56 (lv_at hl 1 rfl) ?_
          refine lv_lload hx hb d_F_back_58 (lv_at hl 0 rfl) ?_
          refine lv_lload_n hx hb d_F_back_60 rfl (lv_at hl 4 rfl) ?_
          refine k_F_117 X ⟨Nat.le_of_ble_eq_true rfl, Nat.le_of_ble_eq_true rfl⟩ ⟨Nat.le_of_ble_eq_true rfl, Nat.le_of_ble_eq_true rfl⟩ hl.1 hP hS b0 b0 (bLl k hk) b4 b7 b8 b78 hn3 b8f (fun i hi => bDd _ (hV.2.2.2.2.2.1 i hi)) (fun _ => by have := of_decide_eq_false t_9; show sND σ < 200; omega) (by exact Nat.le_of_ble_eq_true rfl) d_F_back_61 (fun r_12 u H locs hr_12 hP hS => ?_)
          have e9 : spBack σ (nI (k + 1)) d = chD (enL σ k) k (lateJ σ k d) d := by simp only [spBack, hln]; rw [if_pos (by simp [t_3, t_9])]
          have ea : lateJ σ k d = r_5 := er_5.symm
          have hfin : r_12 = (spBack σ (nI (k + 1)) d).1 ∧ RCx (gr F g) t ad (spBack σ (nI (k + 1)) d).2 u ∧ Keep F g u := by
            rw [e9, ea, chD]
            rcases hr_12 with ⟨g1, g2, g3⟩ | ⟨g1, g2, o, g3, g4⟩
            · rw [if_neg (Int64.not_lt.mpr g1), g2, g3]; exact ⟨rfl, ⟨_, _, _, _, _, _, _, _, hR1.mono (fun _ h => Or.inl h)⟩, hK1⟩
            · rw [if_pos g1, g2, g4]; exact ⟨rfl, step2 hG0 hK1 (RC_add hR1 hV1 g3 g1 (by have := of_decide_eq_false t_9; show sND σ < 200; omega))⟩
          exact h_iret hx hb hr hlocks (Nat.le_of_ble_eq_true rfl) (Nat.le_of_ble_eq_true rfl) hP hS (hfin) d_F_back_64
        · have t_9 := bi_n0.mp (er_9 ▸ c_10)
          refine lv_iconst (v := (-1)) hx hb d_F_back_47 (by decide) ?_
          have hlt : 0 < lateJ σ k d := by rw [er_5] at c_6; exact Int64.not_le.mp c_6
          have e9 : spBack σ (nI (k + 1)) d = (-1, σ) := by simp [spBack, hln, hlt, t_3, t_9]
          exact h_iret hx hb hr hlocks (Nat.le_of_ble_eq_true rfl) (Nat.le_of_ble_eq_true rfl) hP hS (⟨by rw [e9], by rw [e9]; exact hRx.mono (fun _ h => Or.inl h), Keep.rf⟩) d_F_back_48
    · have t_3 := bi_0.mp (er_3 ▸ c_4)
      refine lv_iconst (v := (-1)) hx hb d_F_back_19 (by decide) ?_
      have e9 : spBack σ (nI (k + 1)) d = (-1, σ) := by simp [spBack, hln, t_3]
      exact h_iret hx hb hr hlocks (Nat.le_of_ble_eq_true rfl) (Nat.le_of_ble_eq_true rfl) hP hS (⟨by rw [e9], by rw [e9]; exact hRx.mono (fun _ h => Or.inl h), Keep.rf⟩) d_F_back_20
theorem k_W_50 {p : Program} {l : Launch} {e : Env} {R : Room} {s : State} {m : MethodId} {args : Array Value} {below : List Frame} {meth : Method} {c : Code} {H : Heap} {locs : List Loc} {cells slots : Nat} {Q : State → Prop} {cc : ByteArray} {pc : Nat} {ls : Array Slot} {rest : List Value} {D : va_G} {A : Nat → Prop} {t : Nat → ClassId} {g : hG} {nL : Nat} {ret0 : Option FieldType} {nm : String} (X : Cx p s m args meth c R_W cc nL ret0 TB D vwCl (tyL t) EX A nm) (hR : 4 + 1 ≤ R.frames ∧ 8 + (7 + 11) + 103 ≤ R.locals) (hf : cells + 1 ≤ R.cells ∧ slots + 7 ≤ R.slots) (hls : ls.size = nL) (hP : hw D vwCl A g H) (hS : va_S A s.heap H locs) {F : Nat → Prop} {ad : Nat → Nat} {σ : SS} {x : Int32} {d : Int64} {fs9 : List Value} (he9 : g (ad 0) = some (.inr (0, fs9))) (hRx : RCx F t ad σ g) (hV : Inv σ) (hW : (rest.map fun v => v.category).sum ≤ 8) (hdg : decode cc pc = .ok (.invokevirtual 50, 3)) (kk : ∀ (r : Int32) (u : hG) (H1 : Heap) (locs1 : List Loc), ((fun r u => r = (spBack σ x d).1 ∧ RCx (gr F g) t ad (spBack σ x d).2 u ∧ Keep F g u) r u) → hw D vwCl A u H1 → va_S A s.heap H1 locs1 → W p l e R s m args below meth c H1 locs1 (cells + 1) (slots + 7) Q (F0 m (pc + 3) ls (.int r :: rest))) : W p l e R s m args below meth c H locs cells slots Q (F0 m pc ls (.long d :: .int x :: .ref (ad 0) :: rest)) :=
  h_ci (runV (C := R_F) (T := F_F) (N := 9) X (c_F_back l D t A g F ad σ x d hRx hV) (tbm 228 (by decide +kernel)) (tbm 229 (by decide +kernel)) (tbm 230 (by decide +kernel)) (tbm 20 (by decide +kernel)) (tbm 231 (by decide +kernel)) rfl (n := 2) (by decide +kernel) hR hf hP he9 hS hls rfl rfl hW hdg) hS kk
