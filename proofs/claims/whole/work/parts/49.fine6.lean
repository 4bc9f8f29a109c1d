set_option maxHeartbeats 4000000 in
set_option maxRecDepth 100000 in
theorem c_F_lost (l : Launch) (D : va_G) (t : Nat → ClassId) (A : Nat → Prop) (g : hG) (F : Nat → Prop) (ad : Nat → Nat) (σ : SS) (x y : Int32) (d : Int64) (hRx : RCx F t ad σ g) (hV : Inv σ) : Met l y_F_lost (Cond.code y_F_lost b_F_lost 7 (some .int) :: TB) ({ frames := 3, cells := 1, slots := 7, locals := 78 } : Room) (va_Pc [.ref (ad 0), .int x, .int y, .long d] (hI D vwCl (tyL t) EX A g)) (va_Qi (fun r u => r = (spLost σ x y d).1 ∧ RCx (gr F g) t ad (spLost σ x y d).2 u ∧ Keep F g u) (fun u v => hw D vwCl A u v.heap) A) 1 7 A := by
  refine Met.ofH (cc := b_F_lost) (maxL := 7) (ret := (some .int)) (lv := [(0, .ref (ad 0)), (1, .int x), (2, .int y), (3, .long d)]) (by decide) (Nat.le_of_ble_eq_true rfl) rfl ?_
  intro p e s m below meth c ls X hP hS hl
  obtain ⟨hx, hb, hml, hr, hts, hown, hlocks, hK, hEs, hA, hnm⟩ := id X
  obtain ⟨aR, aL, aD, fR, fL, fI, fN, fB, hRc⟩ := id hRx
  obtain ⟨h0, ⟨h1, h1f⟩, ⟨h2, h2f⟩, ⟨h3, h3f⟩, h4, h5, h6, ⟨h7, h7f⟩, ⟨h8, h8f⟩, h9, hRr, hLl, hDd, h78, ⟨iR, iL, iD⟩, f0, f1, f2, f3⟩ := id hRc
  have hn1 := hV.1.1
  have hn2 := hV.1.2.1
  have hn3 := hV.1.2.2.1
  have hn4 := hV.1.2.2.2
  refine lv_aload_n hx hb d_F_lost_0 rfl (lv_at hl 0 rfl) ?_
  refine lv_iload_n hx hb d_F_lost_1 rfl (lv_at hl 1 rfl) ?_
  refine k_F_99 X ⟨Nat.le_of_ble_eq_true rfl, Nat.le_of_ble_eq_true rfl⟩ ⟨Nat.le_of_ble_eq_true rfl, Nat.le_of_ble_eq_true rfl⟩ hl.1 hP hS h0 h0 h2 hn2 h2f hLl (by exact Nat.le_of_ble_eq_true rfl) d_F_lost_2 (fun r_1 H locs er_1 hP hS => ?_)
  refine lv_topq (fun ey_2 => ?_) (fun y_2 ey_2 => ?_)
  · have hN := lnQ_N hV (er_1 ▸ ey_2)
    refine lv_astoreN (lv' := [(5, .null), (0, .ref (ad 0)), (1, .int x), (2, .int y), (3, .long d)]) hx hb d_F_lost_5 hl (by decide) rfl (fun ls hl => ?_)
    refine lv_aloadN hx hb d_F_lost_7 (lv_at hl 0 rfl) ?_
    refine lv_ifnullN (tgt := 39) hx hb d_F_lost_9 (by decide) ?_
    refine lv_iconst (v := (-1)) hx hb d_F_lost_39 (by decide) ?_
    have e9 : spLost σ x y d = (-1, σ) := by simp [spLost, hN]
    exact h_iret hx hb hr hlocks (Nat.le_of_ble_eq_true rfl) (Nat.le_of_ble_eq_true rfl) hP hS (⟨by rw [e9], by rw [e9]; exact hRx.mono (fun _ h => Or.inl h), Keep.rf⟩) d_F_lost_40
  · obtain ⟨k, hk, rfl, rfl, hst, hln⟩ := lnQ_S hV (er_1 ▸ ey_2)
    refine lv_astore (lv' := [(5, .ref (aL k)), (0, .ref (ad 0)), (1, .int (nI (k + 1))), (2, .int y), (3, .long d)]) hx hb d_F_lost_5 hl (by decide) rfl (fun ls hl => ?_)
    refine lv_aload hx hb d_F_lost_7 (lv_at hl 0 rfl) ?_
    refine lv_ifnull hx hb d_F_lost_9 ?_
    refine lv_lload_n hx hb d_F_lost_12 rfl (lv_at hl 4 rfl) ?_
    refine k_F_76 X ⟨Nat.le_of_ble_eq_true rfl, Nat.le_of_ble_eq_true rfl⟩ ⟨Nat.le_of_ble_eq_true rfl, Nat.le_of_ble_eq_true rfl⟩ hl.1 hP hS (by exact Nat.le_of_ble_eq_true rfl) d_F_lost_13 (fun r_3 H locs er_3 hP hS => ?_)
    refine lv_if_eq (tgt := 39) hx hb d_F_lost_16 (by decide) (fun c_4 => ?_) (fun c_4 => ?_)
    · have t_3 := bi_0.mp (er_3 ▸ c_4)
      refine lv_iconst (v := (-1)) hx hb d_F_lost_39 (by decide) ?_
      have e9 : spLost σ (nI (k + 1)) y d = (-1, σ) := by simp [spLost, hln, t_3]
      exact h_iret hx hb hr hlocks (Nat.le_of_ble_eq_true rfl) (Nat.le_of_ble_eq_true rfl) hP hS (⟨by rw [e9], by rw [e9]; exact hRx.mono (fun _ h => Or.inl h), Keep.rf⟩) d_F_lost_40
    · have t_3 := bi_n0.mp (er_3 ▸ c_4)
      refine lv_iload_n hx hb d_F_lost_19 rfl (lv_at hl 3 rfl) ?_
      refine lv_iconst (v := 1) hx hb d_F_lost_20 (by decide) ?_
      refine lv_ldc (v := 10000000) hx hb hown (hts _ (tbm 114 (by decide +kernel))) d_F_lost_21 ?_
      refine k_F_47 X ⟨Nat.le_of_ble_eq_true rfl, Nat.le_of_ble_eq_true rfl⟩ ⟨Nat.le_of_ble_eq_true rfl, Nat.le_of_ble_eq_true rfl⟩ hl.1 hP hS (by exact Nat.le_of_ble_eq_true rfl) d_F_lost_23 (fun r_5 H locs er_5 hP hS => ?_)
      refine lv_if_eq (tgt := 39) hx hb d_F_lost_26 (by decide) (fun c_6 => ?_) (fun c_6 => ?_)
      · have t_5 := bi_0.mp (er_5 ▸ c_6)
        refine lv_iconst (v := (-1)) hx hb d_F_lost_39 (by decide) ?_
        have e9 : spLost σ (nI (k + 1)) y d = (-1, σ) := by simp [spLost, hln, t_3, t_5]
        exact h_iret hx hb hr hlocks (Nat.le_of_ble_eq_true rfl) (Nat.le_of_ble_eq_true rfl) hP hS (⟨by rw [e9], by rw [e9]; exact hRx.mono (fun _ h => Or.inl h), Keep.rf⟩) d_F_lost_40
      · have t_5 := bi_n0.mp (er_5 ▸ c_6)
        refine lv_aload_n hx hb d_F_lost_29 rfl (lv_at hl 1 rfl) ?_
        refine g_F_27 X hb hP h0 rfl d_F_lost_30 ?_
        refine k_F_109 X ⟨Nat.le_of_ble_eq_true rfl, Nat.le_of_ble_eq_true rfl⟩ ⟨Nat.le_of_ble_eq_true rfl, Nat.le_of_ble_eq_true rfl⟩ hl.1 hP hS h4 h4 hn3 (by exact Nat.le_of_ble_eq_true rfl) d_F_lost_33 (fun r_7 H locs er_7 hP hS => ?_)
        refine lv_if_eq (tgt := 41) hx hb d_F_lost_36 (by decide) (fun c_8 => ?_) (fun c_8 => ?_)
        · have t_7 := bi_0.mp (er_7 ▸ c_8)
          refine lv_aload_n hx hb d_F_lost_41 rfl (lv_at hl 1 rfl) ?_
          refine g_F_27 X hb hP h0 rfl d_F_lost_42 ?_
          refine lv_aload hx hb d_F_lost_45 (lv_at hl 0 rfl) ?_
          refine lv_iconst (v := 1) hx hb d_F_lost_47 (by decide) ?_
          refine lv_iload_n hx hb d_F_lost_48 rfl (lv_at hl 3 rfl) ?_
          refine lv_i2l hx hb d_F_lost_49 rfl ?_
          refine lv_lload_n hx hb d_F_lost_50 rfl (lv_at hl 4 rfl) ?_
          refine k_F_121 X ⟨Nat.le_of_ble_eq_true rfl, Nat.le_of_ble_eq_true rfl⟩ ⟨Nat.le_of_ble_eq_true rfl, Nat.le_of_ble_eq_true rfl⟩ hl.1 hP hS h4 h4 h7 h8 (hLl k hk) h78 (by have := of_decide_eq_false t_7; omega) h8f (fun i hi => hDd _ (hV.2.2.2.2.2.1 i hi)) (by exact Nat.le_of_ble_eq_true rfl) d_F_lost_51 (fun r_9 u H locs hr_9 hP hS => ?_)
          obtain ⟨rfl, o, ho, hu⟩ := hr_9
          have hlt9 : sND σ < 200 := by have := of_decide_eq_false t_7; omega
          have hR1 := RC_add0 hRc hV (k := k) (d := d) (so := 1) ho (pos64 t_5) hlt9
          have hK1 := (RC_add hRc hV (k := k) (d := d) (so := 1) ho (pos64 t_5) hlt9).2
          rw [toNat64] at hR1
          have hu2 : u = _ := hu
          rw [show u = bAdd t g (ad 4) (ad 7) (ad 8) (sND σ) fN fB (insP (fun j => dcOf aR (sLV σ) (sDV σ (sOD σ j))) d (sND σ)) o (cDe (nI (sLV σ k).2.1) (aR (sLV σ k).2.2.1) 1 y.toInt64 d y.toInt64 0) from hu] at hP
          generalize bAdd t g (ad 4) (ad 7) (ad 8) (sND σ) fN fB (insP (fun j => dcOf aR (sLV σ) (sDV σ (sOD σ j))) d (sND σ)) o (cDe (nI (sLV σ k).2.1) (aR (sLV σ k).2.2.1) 1 y.toInt64 d y.toInt64 0) = G at hR1 hK1 hP
          obtain ⟨b0, ⟨b1, b1f⟩, ⟨b2, b2f⟩, ⟨b3, b3f⟩, b4, b5, b6, ⟨b7, b7f⟩, ⟨b8, b8f⟩, b9, bRr, bLl, bDd, b78, -, bf0, -, bf2, bf3⟩ := id hR1
          refine lv_istore (lv' := [(6, .int (nI (sND σ + 1))), (5, .ref (aL k)), (0, .ref (ad 0)), (1, .int (nI (k + 1))), (2, .int y), (3, .long d)]) hx hb d_F_lost_54 hl (by decide) rfl (fun ls hl => ?_)
          refine lv_aload hx hb d_F_lost_56 (lv_at hl 1 rfl) ?_
          refine lv_aload_n hx hb d_F_lost_58 rfl (lv_at hl 2 rfl) ?_
          refine g_F_27 X hb hP b0 rfl d_F_lost_59 ?_
          refine lv_iload hx hb d_F_lost_62 (lv_at hl 0 rfl) ?_
          refine k_F_124 X ⟨Nat.le_of_ble_eq_true rfl, Nat.le_of_ble_eq_true rfl⟩ ⟨Nat.le_of_ble_eq_true rfl, Nat.le_of_ble_eq_true rfl⟩ hl.1 hP hS b4 b4 b7 (by show sND σ + 1 ≤ 200; omega) (by exact Nat.le_of_ble_eq_true rfl) d_F_lost_64 (fun r_10 H locs er_10 hP hS => ?_)
          refine lv_some (y := o) (by rw [er_10]; exact (numQ_at (n := sND σ + 1) (by omega) (Nat.lt_succ_self _)).trans (va_up_self _ _ _)) ?_
          refine p_F_128 X hb hP hS (bLl k hk) (Nat.le_of_ble_eq_true rfl) rfl rfl d_F_lost_67 (fun H locs hP hS => ?_)
          have he_11 := up_at (o := some (.inr (4, [.int (lcOf aR (va_up aD (sND σ) o) (sLV σ k)).1, .int (lcOf aR (va_up aD (sND σ) o) (sLV σ k)).2.1, .ref (lcOf aR (va_up aD (sND σ) o) (sLV σ k)).2.2.1, .long (lcOf aR (va_up aD (sND σ) o) (sLV σ k)).2.2.2.1, .ref o, .int (lcOf aR (va_up aD (sND σ) o) (sLV σ k)).2.2.2.2.2]))) b0 (hw_kd b0 (bLl k hk) rfl)
          have he_12 := up_at (o := some (.inr (4, [.int (lcOf aR (va_up aD (sND σ) o) (sLV σ k)).1, .int (lcOf aR (va_up aD (sND σ) o) (sLV σ k)).2.1, .ref (lcOf aR (va_up aD (sND σ) o) (sLV σ k)).2.2.1, .long (lcOf aR (va_up aD (sND σ) o) (sLV σ k)).2.2.2.1, .ref o, .int (lcOf aR (va_up aD (sND σ) o) (sLV σ k)).2.2.2.2.2]))) b4 (hw_kd b4 (bLl k hk) rfl)
          have he_13 := va_up_self G (aL k) (some (.inr (4, [.int (lcOf aR (va_up aD (sND σ) o) (sLV σ k)).1, .int (lcOf aR (va_up aD (sND σ) o) (sLV σ k)).2.1, .ref (lcOf aR (va_up aD (sND σ) o) (sLV σ k)).2.2.1, .long (lcOf aR (va_up aD (sND σ) o) (sLV σ k)).2.2.2.1, .ref o, .int (lcOf aR (va_up aD (sND σ) o) (sLV σ k)).2.2.2.2.2]) : va_E))
          have hP : hw D vwCl A (va_up G (aL k) (some (.inr (4, [.int (lcOf aR (va_up aD (sND σ) o) (sLV σ k)).1, .int (lcOf aR (va_up aD (sND σ) o) (sLV σ k)).2.1, .ref (lcOf aR (va_up aD (sND σ) o) (sLV σ k)).2.2.1, .long (lcOf aR (va_up aD (sND σ) o) (sLV σ k)).2.2.2.1, .ref o, .int (lcOf aR (va_up aD (sND σ) o) (sLV σ k)).2.2.2.2.2])))) H := hP
          refine lv_iload hx hb d_F_lost_70 (lv_at hl 0 rfl) ?_
          have e9 : spLost σ (nI (k + 1)) y d = (nI (sND σ + 1), (σ.1, (sNL σ, va_up (sLV σ) k ((sLV σ k).1, (sLV σ k).2.1, (sLV σ k).2.2.1, (sLV σ k).2.2.2.1, 3, sND σ + 1)), (adD σ k y.toInt.toNat 1 d).2.2)) := by simp [spLost, hln, t_3, t_5, t_7]
          exact h_iret hx hb hr hlocks (Nat.le_of_ble_eq_true rfl) (Nat.le_of_ble_eq_true rfl) hP hS (⟨by rw [e9], by rw [e9]; rw [lost_cell hst (hV.2.2.1 k hk).2.2.2.2.1]; exact ⟨_, _, _, _, _, _, _, _, RC.loan hR1 k ((sLV σ k).1, (sLV σ k).2.1, (sLV σ k).2.2.1, (sLV σ k).2.2.2.1, 3, sND σ + 1) hk ⟨rfl, rfl⟩⟩, Keep.up hK1 (Or.inl (f2 k hk))⟩) d_F_lost_72
        · have t_7 := bi_n0.mp (er_7 ▸ c_8)
          refine lv_iconst (v := (-1)) hx hb d_F_lost_39 (by decide) ?_
          have e9 : spLost σ (nI (k + 1)) y d = (-1, σ) := by simp [spLost, hln, t_3, t_5, t_7]
          exact h_iret hx hb hr hlocks (Nat.le_of_ble_eq_true rfl) (Nat.le_of_ble_eq_true rfl) hP hS (⟨by rw [e9], by rw [e9]; exact hRx.mono (fun _ h => Or.inl h), Keep.rf⟩) d_F_lost_40
theorem k_W_55 {p : Program} {l : Launch} {e : Env} {R : Room} {s : State} {m : MethodId} {args : Array Value} {below : List Frame} {meth : Method} {c : Code} {H : Heap} {locs : List Loc} {cells slots : Nat} {Q : State → Prop} {cc : ByteArray} {pc : Nat} {ls : Array Slot} {rest : List Value} {D : va_G} {A : Nat → Prop} {t : Nat → ClassId} {g : hG} {nL : Nat} {ret0 : Option FieldType} {nm : String} (X : Cx p s m args meth c R_W cc nL ret0 TB D vwCl (tyL t) EX A nm) (hR : 3 + 1 ≤ R.frames ∧ 8 + (7 + 11) + 78 ≤ R.locals) (hf : cells + 1 ≤ R.cells ∧ slots + 7 ≤ R.slots) (hls : ls.size = nL) (hP : hw D vwCl A g H) (hS : va_S A s.heap H locs) {F : Nat → Prop} {ad : Nat → Nat} {σ : SS} {x y : Int32} {d : Int64} {fs9 : List Value} (he9 : g (ad 0) = some (.inr (0, fs9))) (hRx : RCx F t ad σ g) (hV : Inv σ) (hW : (rest.map fun v => v.category).sum ≤ 8) (hdg : decode cc pc = .ok (.invokevirtual 55, 3)) (kk : ∀ (r : Int32) (u : hG) (H1 : Heap) (locs1 : List Loc), ((fun r u => r = (spLost σ x y d).1 ∧ RCx (gr F g) t ad (spLost σ x y d).2 u ∧ Keep F g u) r u) → hw D vwCl A u H1 → va_S A s.heap H1 locs1 → W p l e R s m args below meth c H1 locs1 (cells + 1) (slots + 7) Q (F0 m (pc + 3) ls (.int r :: rest))) : W p l e R s m args below meth c H locs cells slots Q (F0 m pc ls (.long d :: .int y :: .int x :: .ref (ad 0) :: rest)) :=
  h_ci (runV (C := R_F) (T := F_F) (N := 9) X (c_F_lost l D t A g F ad σ x y d hRx hV) (tbm 288 (by decide +kernel)) (tbm 289 (by decide +kernel)) (tbm 290 (by decide +kernel)) (tbm 20 (by decide +kernel)) (tbm 291 (by decide +kernel)) rfl (n := 3) (by decide +kernel) hR hf hP he9 hS hls rfl rfl hW hdg) hS kk
