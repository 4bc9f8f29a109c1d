set_option maxHeartbeats 4000000 in
set_option maxRecDepth 100000 in
theorem c_F_overdue (l : Launch) (D : va_G) (t : Nat → ClassId) (A : Nat → Prop) (g : hG) (F : Nat → Prop) (ad : Nat → Nat) (σ : SS) (x : Int32) (d : Int64) (hRx : RCx F t ad σ g) (hV : Inv σ) : Met l y_F_overdue (Cond.code y_F_overdue b_F_overdue 5 (some .long) :: TB) ({ frames := 3, cells := 0, slots := 0, locals := 73 } : Room) (va_Pc [.ref (ad 0), .int x, .long d] (hI D vwCl (tyL t) EX A g)) (va_Ql (fun r u => r = spOver σ x d ∧ u = g) (fun u v => hw D vwCl A u v.heap) A) 0 0 A := by
  refine Met.ofH (cc := b_F_overdue) (maxL := 5) (ret := (some .long)) (lv := [(0, .ref (ad 0)), (1, .int x), (2, .long d)]) (by decide) (Nat.le_of_ble_eq_true rfl) rfl ?_
  intro p e s m below meth c ls X hP hS hl
  obtain ⟨hx, hb, hml, hr, hts, hown, hlocks, hK, hEs, hA, hnm⟩ := id X
  obtain ⟨aR, aL, aD, fR, fL, fI, fN, fB, hRc⟩ := id hRx
  obtain ⟨h0, ⟨h1, h1f⟩, ⟨h2, h2f⟩, ⟨h3, h3f⟩, h4, h5, h6, ⟨h7, h7f⟩, ⟨h8, h8f⟩, h9, hRr, hLl, hDd, h78, ⟨iR, iL, iD⟩, f0, f1, f2, f3⟩ := id hRc
  have hn1 := hV.1.1
  have hn2 := hV.1.2.1
  have hn3 := hV.1.2.2.1
  have hn4 := hV.1.2.2.2
  refine lv_aload_n hx hb d_F_overdue_0 rfl (lv_at hl 0 rfl) ?_
  refine lv_iload_n hx hb d_F_overdue_1 rfl (lv_at hl 1 rfl) ?_
  refine k_F_99 X ⟨Nat.le_of_ble_eq_true rfl, Nat.le_of_ble_eq_true rfl⟩ ⟨Nat.le_of_ble_eq_true rfl, Nat.le_of_ble_eq_true rfl⟩ hl.1 hP hS h0 h0 h2 hn2 h2f hLl (by exact Nat.le_of_ble_eq_true rfl) d_F_overdue_2 (fun r_1 H locs er_1 hP hS => ?_)
  refine lv_topq (fun ey_2 => ?_) (fun y_2 ey_2 => ?_)
  · have hN := lnQ_N hV (er_1 ▸ ey_2)
    refine lv_astoreN (lv' := [(4, .null), (0, .ref (ad 0)), (1, .int x), (2, .long d)]) hx hb d_F_overdue_5 hl (by decide) rfl (fun ls hl => ?_)
    refine lv_aloadN hx hb d_F_overdue_7 (lv_at hl 0 rfl) ?_
    refine lv_ifnullN (tgt := 19) hx hb d_F_overdue_9 (by decide) ?_
    refine lv_ldc2 (v := (-1)) hx hb hown (hts _ (tbm 212 (by decide +kernel))) d_F_overdue_19 ?_
    exact h_lret hx hb hr hlocks (Nat.le_of_ble_eq_true rfl) (Nat.le_of_ble_eq_true rfl) hP hS (⟨by simp [spOver, hN], rfl⟩) d_F_overdue_22
  · obtain ⟨k, hk, rfl, rfl, hst, hln⟩ := lnQ_S hV (er_1 ▸ ey_2)
    refine lv_astore (lv' := [(4, .ref (aL k)), (0, .ref (ad 0)), (1, .int (nI (k + 1))), (2, .long d)]) hx hb d_F_overdue_5 hl (by decide) rfl (fun ls hl => ?_)
    refine lv_aload hx hb d_F_overdue_7 (lv_at hl 0 rfl) ?_
    refine lv_ifnull hx hb d_F_overdue_9 ?_
    refine lv_lload_n hx hb d_F_overdue_12 rfl (lv_at hl 3 rfl) ?_
    refine k_F_76 X ⟨Nat.le_of_ble_eq_true rfl, Nat.le_of_ble_eq_true rfl⟩ ⟨Nat.le_of_ble_eq_true rfl, Nat.le_of_ble_eq_true rfl⟩ hl.1 hP hS (by exact Nat.le_of_ble_eq_true rfl) d_F_overdue_13 (fun r_3 H locs er_3 hP hS => ?_)
    refine lv_if_ne (tgt := 23) hx hb d_F_overdue_16 (by decide) (fun c_4 => ?_) (fun c_4 => ?_)
    · have t_3 := bi_n0.mp (er_3 ▸ c_4)
      refine lv_aload_n hx hb d_F_overdue_23 rfl (lv_at hl 1 rfl) ?_
      refine lv_aload hx hb d_F_overdue_24 (lv_at hl 0 rfl) ?_
      refine lv_lload_n hx hb d_F_overdue_26 rfl (lv_at hl 3 rfl) ?_
      refine k_F_105 X ⟨Nat.le_of_ble_eq_true rfl, Nat.le_of_ble_eq_true rfl⟩ ⟨Nat.le_of_ble_eq_true rfl, Nat.le_of_ble_eq_true rfl⟩ hl.1 hP hS h0 h0 (hLl k hk) (hRr _ (hV.2.2.1 k hk).2.2.1) h5 h9 hn4 (by exact Nat.le_of_ble_eq_true rfl) d_F_overdue_27 (fun r_5 H locs er_5 hP hS => ?_)
      exact h_lret hx hb hr hlocks (Nat.le_of_ble_eq_true rfl) (Nat.le_of_ble_eq_true rfl) hP hS (⟨by rw [er_5, spOver, hln]; simp [t_3, lateJ, lcOf], rfl⟩) d_F_overdue_30
    · have t_3 := bi_0.mp (er_3 ▸ c_4)
      refine lv_ldc2 (v := (-1)) hx hb hown (hts _ (tbm 212 (by decide +kernel))) d_F_overdue_19 ?_
      exact h_lret hx hb hr hlocks (Nat.le_of_ble_eq_true rfl) (Nat.le_of_ble_eq_true rfl) hP hS (⟨by simp [spOver, hln, t_3], rfl⟩) d_F_overdue_22
theorem k_W_45 {p : Program} {l : Launch} {e : Env} {R : Room} {s : State} {m : MethodId} {args : Array Value} {below : List Frame} {meth : Method} {c : Code} {H : Heap} {locs : List Loc} {cells slots : Nat} {Q : State → Prop} {cc : ByteArray} {pc : Nat} {ls : Array Slot} {rest : List Value} {D : va_G} {A : Nat → Prop} {t : Nat → ClassId} {g : hG} {nL : Nat} {ret0 : Option FieldType} {nm : String} (X : Cx p s m args meth c R_W cc nL ret0 TB D vwCl (tyL t) EX A nm) (hR : 3 + 1 ≤ R.frames ∧ 8 + (5 + 11) + 73 ≤ R.locals) (hf : cells + 0 ≤ R.cells ∧ slots + 0 ≤ R.slots) (hls : ls.size = nL) (hP : hw D vwCl A g H) (hS : va_S A s.heap H locs) {F : Nat → Prop} {ad : Nat → Nat} {σ : SS} {x : Int32} {d : Int64} {fs9 : List Value} (he9 : g (ad 0) = some (.inr (0, fs9))) (hRx : RCx F t ad σ g) (hV : Inv σ) (hW : (rest.map fun v => v.category).sum ≤ 8) (hdg : decode cc pc = .ok (.invokevirtual 45, 3)) (kk : ∀ (r : Int64) (H1 : Heap) (locs1 : List Loc), r = spOver σ x d → hw D vwCl A (g) H1 → va_S A s.heap H1 locs1 → W p l e R s m args below meth c H1 locs1 (cells + 0) (slots + 0) Q (F0 m (pc + 3) ls (.long r :: rest))) : W p l e R s m args below meth c H locs cells slots Q (F0 m pc ls (.long d :: .int x :: .ref (ad 0) :: rest)) :=
  h_cl (runV (C := R_F) (T := F_F) (N := 9) X (c_F_overdue l D t A g F ad σ x d hRx hV) (tbm 200 (by decide +kernel)) (tbm 201 (by decide +kernel)) (tbm 202 (by decide +kernel)) (tbm 20 (by decide +kernel)) (tbm 203 (by decide +kernel)) rfl (n := 2) (by decide +kernel) hR hf hP he9 hS hls rfl rfl hW hdg) hS (fun r u H1 locs1 hp hP1 hS1 => kk r H1 locs1 hp.1 (hp.2 ▸ hP1) hS1)

set_option maxHeartbeats 4000000 in
set_option maxRecDepth 100000 in
theorem c_F_waive (l : Launch) (D : va_G) (t : Nat → ClassId) (A : Nat → Prop) (g : hG) (F : Nat → Prop) (ad : Nat → Nat) (σ : SS) (x y : Int32) (hRx : RCx F t ad σ g) (hV : Inv σ) : Met l y_F_waive (Cond.code y_F_waive b_F_waive 6 (some .long) :: TB) ({ frames := 2, cells := 0, slots := 0, locals := 43 } : Room) (va_Pc [.ref (ad 0), .int x, .int y] (hI D vwCl (tyL t) EX A g)) (va_Ql (fun r u => r = (spWaive σ x y).1 ∧ RCx (gr F g) t ad (spWaive σ x y).2 u ∧ Keep F g u) (fun u v => hw D vwCl A u v.heap) A) 0 0 A := by
  refine Met.ofH (cc := b_F_waive) (maxL := 6) (ret := (some .long)) (lv := [(0, .ref (ad 0)), (1, .int x), (2, .int y)]) (by decide) (Nat.le_of_ble_eq_true rfl) rfl ?_
  intro p e s m below meth c ls X hP hS hl
  obtain ⟨hx, hb, hml, hr, hts, hown, hlocks, hK, hEs, hA, hnm⟩ := id X
  obtain ⟨aR, aL, aD, fR, fL, fI, fN, fB, hRc⟩ := id hRx
  obtain ⟨h0, ⟨h1, h1f⟩, ⟨h2, h2f⟩, ⟨h3, h3f⟩, h4, h5, h6, ⟨h7, h7f⟩, ⟨h8, h8f⟩, h9, hRr, hLl, hDd, h78, ⟨iR, iL, iD⟩, f0, f1, f2, f3⟩ := id hRc
  have hn1 := hV.1.1
  have hn2 := hV.1.2.1
  have hn3 := hV.1.2.2.1
  have hn4 := hV.1.2.2.2
  refine lv_aload_n hx hb d_F_waive_0 rfl (lv_at hl 0 rfl) ?_
  refine g_F_27 X hb hP h0 rfl d_F_waive_1 ?_
  refine lv_iload_n hx hb d_F_waive_4 rfl (lv_at hl 1 rfl) ?_
  refine k_F_124 X ⟨Nat.le_of_ble_eq_true rfl, Nat.le_of_ble_eq_true rfl⟩ ⟨Nat.le_of_ble_eq_true rfl, Nat.le_of_ble_eq_true rfl⟩ hl.1 hP hS h4 h4 h7 hn3 (by exact Nat.le_of_ble_eq_true rfl) d_F_waive_5 (fun r_1 H locs er_1 hP hS => ?_)
  refine lv_topq (fun ey_2 => ?_) (fun y_2 ey_2 => ?_)
  · have hN := numQ_none (by omega) h7f (er_1 ▸ ey_2)
    refine lv_astore_nN (lv' := [(3, .null), (0, .ref (ad 0)), (1, .int x), (2, .int y)]) hx hb d_F_waive_8 rfl hl (by decide) rfl (fun ls hl => ?_)
    refine lv_aload_nN hx hb d_F_waive_9 rfl (lv_at hl 0 rfl) ?_
    refine lv_ifnullN (tgt := 23) hx hb d_F_waive_10 (by decide) ?_
    refine lv_ldc2 (v := (-1)) hx hb hown (hts _ (tbm 212 (by decide +kernel))) d_F_waive_23 ?_
    have e9 : spWaive σ x y = (-1, σ) := by simp [spWaive, dbtN_none hN]
    exact h_lret hx hb hr hlocks (Nat.le_of_ble_eq_true rfl) (Nat.le_of_ble_eq_true rfl) hP hS (⟨by rw [e9], by rw [e9]; exact hRx.mono (fun _ h => Or.inl h), Keep.rf⟩) d_F_waive_26
  · obtain ⟨k, hk, rfl, rfl, hwk⟩ := numQ_some (by omega) h7f (er_1 ▸ ey_2)
    refine lv_astore_n (lv' := [(3, .ref (aD k)), (0, .ref (ad 0)), (1, .int (nI (k + 1))), (2, .int y)]) hx hb d_F_waive_8 rfl hl (by decide) rfl (fun ls hl => ?_)
    refine lv_aload_n hx hb d_F_waive_9 rfl (lv_at hl 0 rfl) ?_
    refine lv_ifnull hx hb d_F_waive_10 ?_
    refine lv_iload_n hx hb d_F_waive_13 rfl (lv_at hl 3 rfl) ?_
    refine lv_iconst (v := 0) hx hb d_F_waive_14 (by decide) ?_
    refine lv_ldc (v := 100000) hx hb hown (hts _ (tbm 110 (by decide +kernel))) d_F_waive_15 ?_
    refine k_F_47 X ⟨Nat.le_of_ble_eq_true rfl, Nat.le_of_ble_eq_true rfl⟩ ⟨Nat.le_of_ble_eq_true rfl, Nat.le_of_ble_eq_true rfl⟩ hl.1 hP hS (by exact Nat.le_of_ble_eq_true rfl) d_F_waive_17 (fun r_3 H locs er_3 hP hS => ?_)
    refine lv_if_ne (tgt := 27) hx hb d_F_waive_20 (by decide) (fun c_4 => ?_) (fun c_4 => ?_)
    · have t_3 := bi_n0.mp (er_3 ▸ c_4)
      refine lv_aload_n hx hb d_F_waive_27 rfl (lv_at hl 0 rfl) ?_
      refine g_F_138 X hb hP (hDd k hk) rfl d_F_waive_28 ?_
      refine lv_iload_n hx hb d_F_waive_31 rfl (lv_at hl 3 rfl) ?_
      refine lv_i2l hx hb d_F_waive_32 rfl ?_
      refine W.lcmp hx hb d_F_waive_33 ?_
      refine lv_if_le (tgt := 39) hx hb d_F_waive_34 (by decide) (fun c_5 => ?_) (fun c_5 => ?_)
      · rw [lg_cmp_le] at c_5
        refine lv_aload_n hx hb d_F_waive_39 rfl (lv_at hl 0 rfl) ?_
        refine g_F_138 X hb hP (hDd k hk) rfl d_F_waive_40 ?_
        refine lv_topl (fun x_6 ex_6 => ?_)
        refine lv_lstore (lv' := [(4, .long x_6), (3, .ref (aD k)), (0, .ref (ad 0)), (1, .int (nI (k + 1))), (2, .int y)]) hx hb d_F_waive_43 hl (by decide) rfl (fun ls hl => ?_)
        refine lv_aload_n hx hb d_F_waive_45 rfl (lv_at hl 1 rfl) ?_
        refine lv_lconst (v := 0) hx hb d_F_waive_46 (by decide) ?_
        refine p_F_138 X hb hP hS (hDd k hk) (Nat.le_of_ble_eq_true rfl) d_F_waive_47 (fun H locs hP hS => ?_)
        have he_7 := up_at (o := some (.inr (2, [.int (dcOf aR (sLV σ) (sDV σ k)).1, .ref (dcOf aR (sLV σ) (sDV σ k)).2.1, .int (dcOf aR (sLV σ) (sDV σ k)).2.2.1, .long (dcOf aR (sLV σ) (sDV σ k)).2.2.2.1, .long (dcOf aR (sLV σ) (sDV σ k)).2.2.2.2.1, .long 0, .long (dcOf aR (sLV σ) (sDV σ k)).2.2.2.2.2.2]))) h0 (hw_kd h0 (hDd k hk) rfl)
        have he_8 := up_at (o := some (.inr (2, [.int (dcOf aR (sLV σ) (sDV σ k)).1, .ref (dcOf aR (sLV σ) (sDV σ k)).2.1, .int (dcOf aR (sLV σ) (sDV σ k)).2.2.1, .long (dcOf aR (sLV σ) (sDV σ k)).2.2.2.1, .long (dcOf aR (sLV σ) (sDV σ k)).2.2.2.2.1, .long 0, .long (dcOf aR (sLV σ) (sDV σ k)).2.2.2.2.2.2]))) h4 (hw_kd h4 (hDd k hk) rfl)
        have he_9 := va_up_self g (aD k) (some (.inr (2, [.int (dcOf aR (sLV σ) (sDV σ k)).1, .ref (dcOf aR (sLV σ) (sDV σ k)).2.1, .int (dcOf aR (sLV σ) (sDV σ k)).2.2.1, .long (dcOf aR (sLV σ) (sDV σ k)).2.2.2.1, .long (dcOf aR (sLV σ) (sDV σ k)).2.2.2.2.1, .long 0, .long (dcOf aR (sLV σ) (sDV σ k)).2.2.2.2.2.2]) : va_E))
        have hP : hw D vwCl A (va_up g (aD k) (some (.inr (2, [.int (dcOf aR (sLV σ) (sDV σ k)).1, .ref (dcOf aR (sLV σ) (sDV σ k)).2.1, .int (dcOf aR (sLV σ) (sDV σ k)).2.2.1, .long (dcOf aR (sLV σ) (sDV σ k)).2.2.2.1, .long (dcOf aR (sLV σ) (sDV σ k)).2.2.2.2.1, .long 0, .long (dcOf aR (sLV σ) (sDV σ k)).2.2.2.2.2.2])))) H := hP
        refine lv_lload hx hb d_F_waive_50 (lv_at hl 0 rfl) ?_
        have e9 : spWaive σ (nI (k + 1)) y = (lN (sDV σ k).2.2.1, zeD σ k) := by simp only [spWaive, dbtN_some hV hk]; rw [if_pos t_3, if_neg (Int64.not_lt.mpr (show lN (sDV σ k).2.2.1 ≤ y.toInt64 from c_5))]
        exact h_lret hx hb hr hlocks (Nat.le_of_ble_eq_true rfl) (Nat.le_of_ble_eq_true rfl) hP hS (⟨by rw [e9, ex_6]; rfl, by rw [e9]; exact ⟨_, _, _, _, _, _, _, _, (RC.debt hRc k ((sDV σ k).1, (sDV σ k).2.1, 0, (sDV σ k).2.2.2.1, (sDV σ k).2.2.2.2.1, (sDV σ k).2.2.2.2.2) hk).mono (fun _ h => Or.inl h)⟩, Keep.up Keep.rf (Or.inl (f3 k hk))⟩) d_F_waive_52
      · rw [lg_cmp_le] at c_5
        refine lv_lconst (v := 0) hx hb d_F_waive_37 (by decide) ?_
        have e9 : spWaive σ (nI (k + 1)) y = (0, σ) := by simp only [spWaive, dbtN_some hV hk]; rw [if_pos t_3, if_pos (Int64.not_le.mp (show ¬ lN (sDV σ k).2.2.1 ≤ y.toInt64 from c_5))]
        exact h_lret hx hb hr hlocks (Nat.le_of_ble_eq_true rfl) (Nat.le_of_ble_eq_true rfl) hP hS (⟨by rw [e9], by rw [e9]; exact hRx.mono (fun _ h => Or.inl h), Keep.rf⟩) d_F_waive_38
    · have t_3 := bi_0.mp (er_3 ▸ c_4)
      refine lv_ldc2 (v := (-1)) hx hb hown (hts _ (tbm 212 (by decide +kernel))) d_F_waive_23 ?_
      have e9 : spWaive σ (nI (k + 1)) y = (-1, σ) := by simp [spWaive, dbtN_some hV hk, t_3]
      exact h_lret hx hb hr hlocks (Nat.le_of_ble_eq_true rfl) (Nat.le_of_ble_eq_true rfl) hP hS (⟨by rw [e9], by rw [e9]; exact hRx.mono (fun _ h => Or.inl h), Keep.rf⟩) d_F_waive_26
theorem k_W_69 {p : Program} {l : Launch} {e : Env} {R : Room} {s : State} {m : MethodId} {args : Array Value} {below : List Frame} {meth : Method} {c : Code} {H : Heap} {locs : List Loc} {cells slots : Nat} {Q : State → Prop} {cc : ByteArray} {pc : Nat} {ls : Array Slot} {rest : List Value} {D : va_G} {A : Nat → Prop} {t : Nat → ClassId} {g : hG} {nL : Nat} {ret0 : Option FieldType} {nm : String} (X : Cx p s m args meth c R_W cc nL ret0 TB D vwCl (tyL t) EX A nm) (hR : 2 + 1 ≤ R.frames ∧ 8 + (6 + 11) + 43 ≤ R.locals) (hf : cells + 0 ≤ R.cells ∧ slots + 0 ≤ R.slots) (hls : ls.size = nL) (hP : hw D vwCl A g H) (hS : va_S A s.heap H locs) {F : Nat → Prop} {ad : Nat → Nat} {σ : SS} {x y : Int32} {fs9 : List Value} (he9 : g (ad 0) = some (.inr (0, fs9))) (hRx : RCx F t ad σ g) (hV : Inv σ) (hW : (rest.map fun v => v.category).sum ≤ 8) (hdg : decode cc pc = .ok (.invokevirtual 69, 3)) (kk : ∀ (r : Int64) (u : hG) (H1 : Heap) (locs1 : List Loc), ((fun r u => r = (spWaive σ x y).1 ∧ RCx (gr F g) t ad (spWaive σ x y).2 u ∧ Keep F g u) r u) → hw D vwCl A u H1 → va_S A s.heap H1 locs1 → W p l e R s m args below meth c H1 locs1 (cells + 0) (slots + 0) Q (F0 m (pc + 3) ls (.long r :: rest))) : W p l e R s m args below meth c H locs cells slots Q (F0 m pc ls (.int y :: .int x :: .ref (ad 0) :: rest)) :=
  h_cl (runV (C := R_F) (T := F_F) (N := 9) X (c_F_waive l D t A g F ad σ x y hRx hV) (tbm 318 (by decide +kernel)) (tbm 319 (by decide +kernel)) (tbm 320 (by decide +kernel)) (tbm 20 (by decide +kernel)) (tbm 321 (by decide +kernel)) rfl (n := 2) (by decide +kernel) hR hf hP he9 hS hls rfl rfl hW hdg) hS kk

set_option maxHeartbeats 4000000 in
set_option maxRecDepth 100000 in
theorem c_F_owes (l : Launch) (D : va_G) (t : Nat → ClassId) (A : Nat → Prop) (g : hG) (F : Nat → Prop) (ad : Nat → Nat) (σ : SS) (x : Int32) (d : Int64) (hRx : RCx F t ad σ g) (hV : Inv σ) : Met l y_F_owes (Cond.code y_F_owes b_F_owes 6 (some .long) :: TB) ({ frames := 3, cells := 0, slots := 0, locals := 73 } : Room) (va_Pc [.ref (ad 0), .int x, .long d] (hI D vwCl (tyL t) EX A g)) (va_Ql (fun r u => r = spOwes σ x d ∧ u = g) (fun u v => hw D vwCl A u v.heap) A) 0 0 A := by
  refine Met.ofH (cc := b_F_owes) (maxL := 6) (ret := (some .long)) (lv := [(0, .ref (ad 0)), (1, .int x), (2, .long d)]) (by decide) (Nat.le_of_ble_eq_true rfl) rfl ?_
  intro p e s m below meth c ls X hP hS hl
  obtain ⟨hx, hb, hml, hr, hts, hown, hlocks, hK, hEs, hA, hnm⟩ := id X
  obtain ⟨aR, aL, aD, fR, fL, fI, fN, fB, hRc⟩ := id hRx
  obtain ⟨h0, ⟨h1, h1f⟩, ⟨h2, h2f⟩, ⟨h3, h3f⟩, h4, h5, h6, ⟨h7, h7f⟩, ⟨h8, h8f⟩, h9, hRr, hLl, hDd, h78, ⟨iR, iL, iD⟩, f0, f1, f2, f3⟩ := id hRc
  have hn1 := hV.1.1
  have hn2 := hV.1.2.1
  have hn3 := hV.1.2.2.1
  have hn4 := hV.1.2.2.2
  refine lv_iload_n hx hb d_F_owes_0 rfl (lv_at hl 1 rfl) ?_
  refine k_F_90 X ⟨Nat.le_of_ble_eq_true rfl, Nat.le_of_ble_eq_true rfl⟩ ⟨Nat.le_of_ble_eq_true rfl, Nat.le_of_ble_eq_true rfl⟩ hl.1 hP hS (by exact Nat.le_of_ble_eq_true rfl) d_F_owes_1 (fun r_1 H locs er_1 hP hS => ?_)
  refine lv_if_ne (tgt := 11) hx hb d_F_owes_4 (by decide) (fun c_2 => ?_) (fun c_2 => ?_)
  · have t_1 := bi_n0.mp (er_1 ▸ c_2)
    refine lv_aload_n hx hb d_F_owes_11 rfl (lv_at hl 0 rfl) ?_
    refine lv_iload_n hx hb d_F_owes_12 rfl (lv_at hl 1 rfl) ?_
    refine k_F_159 X ⟨Nat.le_of_ble_eq_true rfl, Nat.le_of_ble_eq_true rfl⟩ ⟨Nat.le_of_ble_eq_true rfl, Nat.le_of_ble_eq_true rfl⟩ hl.1 hP hS h0 h0 h4 h7 hn3 h7f hDd h6 (by exact Nat.le_of_ble_eq_true rfl) d_F_owes_13 (fun r_3 H locs er_3 hP hS => ?_)
    refine lv_lstore (lv' := [(4, .long r_3), (0, .ref (ad 0)), (1, .int x), (2, .long d)]) hx hb d_F_owes_16 hl (by decide) rfl (fun ls hl => ?_)
    refine lv_lload_n hx hb d_F_owes_18 rfl (lv_at hl 3 rfl) ?_
    refine lv_lconst (v := 0) hx hb d_F_owes_19 (by decide) ?_
    refine W.lcmp hx hb d_F_owes_20 ?_
    refine lv_if_lt (tgt := 44) hx hb d_F_owes_21 (by decide) (fun c_4 => ?_) (fun c_4 => ?_)
    · rw [lg_cmp_lt] at c_4
      refine lv_lload hx hb d_F_owes_44 (lv_at hl 0 rfl) ?_
      exact h_lret hx hb hr hlocks (Nat.le_of_ble_eq_true rfl) (Nat.le_of_ble_eq_true rfl) hP hS (⟨by rw [er_3, balJ_S aR σ t_1]; simp [spOwes, t_1, c_4], rfl⟩) d_F_owes_46
    · rw [lg_cmp_lt] at c_4
      refine lv_lload hx hb d_F_owes_24 (lv_at hl 0 rfl) ?_
      refine lv_aload_n hx hb d_F_owes_26 rfl (lv_at hl 1 rfl) ?_
      refine g_F_27 X hb hP h0 rfl d_F_owes_27 ?_
      refine lv_iload_n hx hb d_F_owes_30 rfl (lv_at hl 2 rfl) ?_
      refine lv_lload_n hx hb d_F_owes_31 rfl (lv_at hl 3 rfl) ?_
      refine lv_ldc2 (v := 1000000) hx hb hown (hts _ (tbm 145 (by decide +kernel))) d_F_owes_32 ?_
      refine va_mmin_long hx hb (by rw [hml]; exact hl.1.symm) hown (hts _ (tbm 335 (by decide +kernel))) (hts _ (tbm 226 (by decide +kernel))) (hts _ (tbm 30 (by decide +kernel))) (hts _ (tbm 227 (by decide +kernel))) (Nat.le_of_ble_eq_true rfl) (Nat.le_of_ble_eq_true rfl) (Nat.le_of_ble_eq_true rfl) (Nat.le_of_ble_eq_true rfl) d_F_owes_35 ?_
      refine k_F_171 X ⟨Nat.le_of_ble_eq_true rfl, Nat.le_of_ble_eq_true rfl⟩ ⟨Nat.le_of_ble_eq_true rfl, Nat.le_of_ble_eq_true rfl⟩ hl.1 hP hS h4 h4 h7 hn3 h7f hDd (fun i hi => hRr _ (hV.2.2.1 _ (hV.2.2.2.1 i hi).1).2.2.1) (by exact Nat.le_of_ble_eq_true rfl) d_F_owes_38 (fun r_5 H locs er_5 hP hS => ?_)
      refine lv_ladd hx hb d_F_owes_41 ?_
      refine lv_topl (fun x_6 ex_6 => ?_)
      refine lv_lstore (lv' := [(4, .long x_6), (0, .ref (ad 0)), (1, .int x), (2, .long d)]) hx hb d_F_owes_42 hl (by decide) rfl (fun ls hl => ?_)
      refine lv_lload hx hb d_F_owes_44 (lv_at hl 0 rfl) ?_
      exact h_lret hx hb hr hlocks (Nat.le_of_ble_eq_true rfl) (Nat.le_of_ble_eq_true rfl) hP hS (⟨by rw [ex_6, er_5, er_3, balJ_S aR σ t_1, sIn_sum]; simp [spOwes, t_1, c_4, mnJ], rfl⟩) d_F_owes_46
  · have t_1 := bi_0.mp (er_1 ▸ c_2)
    refine lv_ldc2 (v := (-1000000000000001)) hx hb hown (hts _ (tbm 326 (by decide +kernel))) d_F_owes_7 ?_
    exact h_lret hx hb hr hlocks (Nat.le_of_ble_eq_true rfl) (Nat.le_of_ble_eq_true rfl) hP hS (⟨by simp [spOwes, t_1], rfl⟩) d_F_owes_10
theorem k_W_74 {p : Program} {l : Launch} {e : Env} {R : Room} {s : State} {m : MethodId} {args : Array Value} {below : List Frame} {meth : Method} {c : Code} {H : Heap} {locs : List Loc} {cells slots : Nat} {Q : State → Prop} {cc : ByteArray} {pc : Nat} {ls : Array Slot} {rest : List Value} {D : va_G} {A : Nat → Prop} {t : Nat → ClassId} {g : hG} {nL : Nat} {ret0 : Option FieldType} {nm : String} (X : Cx p s m args meth c R_W cc nL ret0 TB D vwCl (tyL t) EX A nm) (hR : 3 + 1 ≤ R.frames ∧ 8 + (6 + 11) + 73 ≤ R.locals) (hf : cells + 0 ≤ R.cells ∧ slots + 0 ≤ R.slots) (hls : ls.size = nL) (hP : hw D vwCl A g H) (hS : va_S A s.heap H locs) {F : Nat → Prop} {ad : Nat → Nat} {σ : SS} {x : Int32} {d : Int64} {fs9 : List Value} (he9 : g (ad 0) = some (.inr (0, fs9))) (hRx : RCx F t ad σ g) (hV : Inv σ) (hW : (rest.map fun v => v.category).sum ≤ 8) (hdg : decode cc pc = .ok (.invokevirtual 74, 3)) (kk : ∀ (r : Int64) (H1 : Heap) (locs1 : List Loc), r = spOwes σ x d → hw D vwCl A (g) H1 → va_S A s.heap H1 locs1 → W p l e R s m args below meth c H1 locs1 (cells + 0) (slots + 0) Q (F0 m (pc + 3) ls (.long r :: rest))) : W p l e R s m args below meth c H locs cells slots Q (F0 m pc ls (.long d :: .int x :: .ref (ad 0) :: rest)) :=
  h_cl (runV (C := R_F) (T := F_F) (N := 9) X (c_F_owes l D t A g F ad σ x d hRx hV) (tbm 322 (by decide +kernel)) (tbm 323 (by decide +kernel)) (tbm 324 (by decide +kernel)) (tbm 20 (by decide +kernel)) (tbm 325 (by decide +kernel)) rfl (n := 2) (by decide +kernel) hR hf hP he9 hS hls rfl rfl hW hdg) hS (fun r u H1 locs1 hp hP1 hS1 => kk r H1 locs1 hp.1 (hp.2 ▸ hP1) hS1)

set_option maxHeartbeats 4000000 in
set_option maxRecDepth 100000 in
theorem c_F_plan (l : Launch) (D : va_G) (t : Nat → ClassId) (A : Nat → Prop) (g : hG) (F : Nat → Prop) (ad : Nat → Nat) (σ : SS) (x y z : Int32) (hRx : RCx F t ad σ g) (hV : Inv σ) : Met l y_F_plan (Cond.code y_F_plan b_F_plan 10 (some .long) :: TB) ({ frames := 2, cells := 0, slots := 0, locals := 42 } : Room) (va_Pc [.ref (ad 0), .int x, .int y, .int z] (hI D vwCl (tyL t) EX A g)) (va_Ql (fun r u => r = spPlan σ x y z ∧ u = g) (fun u v => hw D vwCl A u v.heap) A) 0 0 A := by
  refine Met.ofH (cc := b_F_plan) (maxL := 10) (ret := (some .long)) (lv := [(0, .ref (ad 0)), (1, .int x), (2, .int y), (3, .int z)]) (by decide) (Nat.le_of_ble_eq_true rfl) rfl ?_
  intro p e s m below meth c ls X hP hS hl
  obtain ⟨hx, hb, hml, hr, hts, hown, hlocks, hK, hEs, hA, hnm⟩ := id X
  obtain ⟨aR, aL, aD, fR, fL, fI, fN, fB, hRc⟩ := id hRx
  obtain ⟨h0, ⟨h1, h1f⟩, ⟨h2, h2f⟩, ⟨h3, h3f⟩, h4, h5, h6, ⟨h7, h7f⟩, ⟨h8, h8f⟩, h9, hRr, hLl, hDd, h78, ⟨iR, iL, iD⟩, f0, f1, f2, f3⟩ := id hRc
  have hn1 := hV.1.1
  have hn2 := hV.1.2.1
  have hn3 := hV.1.2.2.1
  have hn4 := hV.1.2.2.2
  refine lv_iload_n hx hb d_F_plan_0 rfl (lv_at hl 1 rfl) ?_
  refine k_F_90 X ⟨Nat.le_of_ble_eq_true rfl, Nat.le_of_ble_eq_true rfl⟩ ⟨Nat.le_of_ble_eq_true rfl, Nat.le_of_ble_eq_true rfl⟩ hl.1 hP hS (by exact Nat.le_of_ble_eq_true rfl) d_F_plan_1 (fun r_1 H locs er_1 hP hS => ?_)
  refine lv_if_eq (tgt := 28) hx hb d_F_plan_4 (by decide) (fun c_2 => ?_) (fun c_2 => ?_)
  · have t_1 := bi_0.mp (er_1 ▸ c_2)
    refine lv_lconst (v := 0) hx hb d_F_plan_28 (by decide) ?_
    exact h_lret hx hb hr hlocks (Nat.le_of_ble_eq_true rfl) (Nat.le_of_ble_eq_true rfl) hP hS (⟨by simp [spPlan, t_1], rfl⟩) d_F_plan_29
  · have t_1 := bi_n0.mp (er_1 ▸ c_2)
    refine lv_iload_n hx hb d_F_plan_7 rfl (lv_at hl 2 rfl) ?_
    refine lv_iconst (v := 1) hx hb d_F_plan_8 (by decide) ?_
    refine lv_bipush (v := 12) hx hb d_F_plan_9 (by decide) ?_
    refine k_F_47 X ⟨Nat.le_of_ble_eq_true rfl, Nat.le_of_ble_eq_true rfl⟩ ⟨Nat.le_of_ble_eq_true rfl, Nat.le_of_ble_eq_true rfl⟩ hl.1 hP hS (by exact Nat.le_of_ble_eq_true rfl) d_F_plan_11 (fun r_3 H locs er_3 hP hS => ?_)
    refine lv_if_eq (tgt := 28) hx hb d_F_plan_14 (by decide) (fun c_4 => ?_) (fun c_4 => ?_)
    · have t_3 := bi_0.mp (er_3 ▸ c_4)
      refine lv_lconst (v := 0) hx hb d_F_plan_28 (by decide) ?_
      exact h_lret hx hb hr hlocks (Nat.le_of_ble_eq_true rfl) (Nat.le_of_ble_eq_true rfl) hP hS (⟨by simp [spPlan, t_1, t_3], rfl⟩) d_F_plan_29
    · have t_3 := bi_n0.mp (er_3 ▸ c_4)
      refine lv_iload_n hx hb d_F_plan_17 rfl (lv_at hl 3 rfl) ?_
      refine lv_iconst (v := 0) hx hb d_F_plan_18 (by decide) ?_
      refine lv_iload_n hx hb d_F_plan_19 rfl (lv_at hl 2 rfl) ?_
      refine lv_iconst (v := 1) hx hb d_F_plan_20 (by decide) ?_
      refine lv_isub hx hb d_F_plan_21 ?_
      refine k_F_47 X ⟨Nat.le_of_ble_eq_true rfl, Nat.le_of_ble_eq_true rfl⟩ ⟨Nat.le_of_ble_eq_true rfl, Nat.le_of_ble_eq_true rfl⟩ hl.1 hP hS (by exact Nat.le_of_ble_eq_true rfl) d_F_plan_22 (fun r_5 H locs er_5 hP hS => ?_)
      refine lv_if_ne (tgt := 30) hx hb d_F_plan_25 (by decide) (fun c_6 => ?_) (fun c_6 => ?_)
      · have t_5 := bi_n0.mp (er_5 ▸ c_6)
        refine lv_aload_n hx hb d_F_plan_30 rfl (lv_at hl 0 rfl) ?_
        refine g_F_27 X hb hP h0 rfl d_F_plan_31 ?_
        refine lv_iload_n hx hb d_F_plan_34 rfl (lv_at hl 1 rfl) ?_
        refine k_F_175 X ⟨Nat.le_of_ble_eq_true rfl, Nat.le_of_ble_eq_true rfl⟩ ⟨Nat.le_of_ble_eq_true rfl, Nat.le_of_ble_eq_true rfl⟩ hl.1 hP hS h4 h4 h7 hn3 h7f hDd (by exact Nat.le_of_ble_eq_true rfl) d_F_plan_35 (fun r_7 H locs er_7 hP hS => ?_)
        refine lv_lstore (lv' := [(4, .long r_7), (0, .ref (ad 0)), (1, .int x), (2, .int y), (3, .int z)]) hx hb d_F_plan_38 hl (by decide) rfl (fun ls hl => ?_)
        refine lv_lload hx hb d_F_plan_40 (lv_at hl 0 rfl) ?_
        refine lv_iload_n hx hb d_F_plan_42 rfl (lv_at hl 3 rfl) ?_
        refine lv_i2l hx hb d_F_plan_43 rfl ?_
        refine lv_ldiv hx hb d_F_plan_44 (pos_ne0 t_3) ?_
        refine lv_topl (fun x_8 ex_8 => ?_)
        refine lv_lstore (lv' := [(6, .long x_8), (4, .long r_7), (0, .ref (ad 0)), (1, .int x), (2, .int y), (3, .int z)]) hx hb d_F_plan_45 hl (by decide) rfl (fun ls hl => ?_)
        refine lv_lload hx hb d_F_plan_47 (lv_at hl 1 rfl) ?_
        refine lv_iload_n hx hb d_F_plan_49 rfl (lv_at hl 4 rfl) ?_
        refine lv_i2l hx hb d_F_plan_50 rfl ?_
        refine lv_lrem hx hb d_F_plan_51 (pos_ne0 t_3) ?_
        refine lv_topl (fun x_9 ex_9 => ?_)
        refine lv_lstore (lv' := [(8, .long x_9), (6, .long x_8), (4, .long r_7), (0, .ref (ad 0)), (1, .int x), (2, .int y), (3, .int z)]) hx hb d_F_plan_52 hl (by decide) rfl (fun ls hl => ?_)
        refine lv_iload_n hx hb d_F_plan_54 rfl (lv_at hl 6 rfl) ?_
        refine lv_i2l hx hb d_F_plan_55 rfl ?_
        refine lv_lload hx hb d_F_plan_56 (lv_at hl 0 rfl) ?_
        refine W.lcmp hx hb d_F_plan_58 ?_
        refine lv_if_ge (tgt := 69) hx hb d_F_plan_59 (by decide) (fun c_10 => ?_) (fun c_10 => ?_)
        · rw [lg_cmp_ge] at c_10
          refine lv_lload hx hb d_F_plan_69 (lv_at hl 1 rfl) ?_
          exact h_lret hx hb hr hlocks (Nat.le_of_ble_eq_true rfl) (Nat.le_of_ble_eq_true rfl) hP hS (⟨by rw [spPlan, if_pos (by simp [t_1, t_3, t_5]), if_neg (Int64.not_lt.mpr (by rw [ex_9, er_7, sLe_sum] at c_10; exact c_10)), ex_8, er_7, sLe_sum], rfl⟩) d_F_plan_71
        · rw [lg_cmp_ge] at c_10
          refine lv_lload hx hb d_F_plan_62 (lv_at hl 1 rfl) ?_
          refine lv_lconst (v := 1) hx hb d_F_plan_64 (by decide) ?_
          refine lv_ladd hx hb d_F_plan_65 ?_
          refine lv_goto (tgt := 71) hx hb d_F_plan_66 (by decide) ?_
          exact h_lret hx hb hr hlocks (Nat.le_of_ble_eq_true rfl) (Nat.le_of_ble_eq_true rfl) hP hS (⟨by rw [spPlan, if_pos (by simp [t_1, t_3, t_5]), if_pos (by rw [ex_9, er_7, sLe_sum] at c_10; exact Int64.not_le.mp c_10), ex_8, er_7, sLe_sum], rfl⟩) d_F_plan_71
      · have t_5 := bi_0.mp (er_5 ▸ c_6)
        refine lv_lconst (v := 0) hx hb d_F_plan_28 (by decide) ?_
        exact h_lret hx hb hr hlocks (Nat.le_of_ble_eq_true rfl) (Nat.le_of_ble_eq_true rfl) hP hS (⟨by simp [spPlan, t_1, t_3, t_5], rfl⟩) d_F_plan_29
theorem k_W_78 {p : Program} {l : Launch} {e : Env} {R : Room} {s : State} {m : MethodId} {args : Array Value} {below : List Frame} {meth : Method} {c : Code} {H : Heap} {locs : List Loc} {cells slots : Nat} {Q : State → Prop} {cc : ByteArray} {pc : Nat} {ls : Array Slot} {rest : List Value} {D : va_G} {A : Nat → Prop} {t : Nat → ClassId} {g : hG} {nL : Nat} {ret0 : Option FieldType} {nm : String} (X : Cx p s m args meth c R_W cc nL ret0 TB D vwCl (tyL t) EX A nm) (hR : 2 + 1 ≤ R.frames ∧ 8 + (10 + 11) + 42 ≤ R.locals) (hf : cells + 0 ≤ R.cells ∧ slots + 0 ≤ R.slots) (hls : ls.size = nL) (hP : hw D vwCl A g H) (hS : va_S A s.heap H locs) {F : Nat → Prop} {ad : Nat → Nat} {σ : SS} {x y z : Int32} {fs9 : List Value} (he9 : g (ad 0) = some (.inr (0, fs9))) (hRx : RCx F t ad σ g) (hV : Inv σ) (hW : (rest.map fun v => v.category).sum ≤ 8) (hdg : decode cc pc = .ok (.invokevirtual 78, 3)) (kk : ∀ (r : Int64) (H1 : Heap) (locs1 : List Loc), r = spPlan σ x y z → hw D vwCl A (g) H1 → va_S A s.heap H1 locs1 → W p l e R s m args below meth c H1 locs1 (cells + 0) (slots + 0) Q (F0 m (pc + 3) ls (.long r :: rest))) : W p l e R s m args below meth c H locs cells slots Q (F0 m pc ls (.int z :: .int y :: .int x :: .ref (ad 0) :: rest)) :=
  h_cl (runV (C := R_F) (T := F_F) (N := 9) X (c_F_plan l D t A g F ad σ x y z hRx hV) (tbm 349 (by decide +kernel)) (tbm 350 (by decide +kernel)) (tbm 351 (by decide +kernel)) (tbm 20 (by decide +kernel)) (tbm 352 (by decide +kernel)) rfl (n := 3) (by decide +kernel) hR hf hP he9 hS hls rfl rfl hW hdg) hS (fun r u H1 locs1 hp hP1 hS1 => kk r H1 locs1 hp.1 (hp.2 ▸ hP1) hS1)

set_option maxHeartbeats 4000000 in
set_option maxRecDepth 100000 in
theorem c_F_blocked (l : Launch) (D : va_G) (t : Nat → ClassId) (A : Nat → Prop) (g : hG) (F : Nat → Prop) (ad : Nat → Nat) (σ : SS) (x : Int32) (hRx : RCx F t ad σ g) (hV : Inv σ) : Met l y_F_blocked (Cond.code y_F_blocked b_F_blocked 2 (some .boolean) :: TB) ({ frames := 3, cells := 0, slots := 0, locals := 63 } : Room) (va_Pc [.ref (ad 0), .int x] (hI D vwCl (tyL t) EX A g)) (va_Qi (fun r u => r = bi (spBlk σ x) ∧ u = g) (fun u v => hw D vwCl A u v.heap) A) 0 0 A := by
  refine Met.ofH (cc := b_F_blocked) (maxL := 2) (ret := (some .boolean)) (lv := [(0, .ref (ad 0)), (1, .int x)]) (by decide) (Nat.le_of_ble_eq_true rfl) rfl ?_
  intro p e s m below meth c ls X hP hS hl
  obtain ⟨hx, hb, hml, hr, hts, hown, hlocks, hK, hEs, hA, hnm⟩ := id X
  obtain ⟨aR, aL, aD, fR, fL, fI, fN, fB, hRc⟩ := id hRx
  obtain ⟨h0, ⟨h1, h1f⟩, ⟨h2, h2f⟩, ⟨h3, h3f⟩, h4, h5, h6, ⟨h7, h7f⟩, ⟨h8, h8f⟩, h9, hRr, hLl, hDd, h78, ⟨iR, iL, iD⟩, f0, f1, f2, f3⟩ := id hRc
  have hn1 := hV.1.1
  have hn2 := hV.1.2.1
  have hn3 := hV.1.2.2.1
  have hn4 := hV.1.2.2.2
  refine lv_iload_n hx hb d_F_blocked_0 rfl (lv_at hl 1 rfl) ?_
  refine k_F_90 X ⟨Nat.le_of_ble_eq_true rfl, Nat.le_of_ble_eq_true rfl⟩ ⟨Nat.le_of_ble_eq_true rfl, Nat.le_of_ble_eq_true rfl⟩ hl.1 hP hS (by exact Nat.le_of_ble_eq_true rfl) d_F_blocked_1 (fun r_1 H locs er_1 hP hS => ?_)
  refine lv_if_eq (tgt := 25) hx hb d_F_blocked_4 (by decide) (fun c_2 => ?_) (fun c_2 => ?_)
  · have t_1 := bi_0.mp (er_1 ▸ c_2)
    refine lv_iconst (v := 0) hx hb d_F_blocked_25 (by decide) ?_
    exact h_zret hx hb hr hlocks (rfl) (Nat.le_of_ble_eq_true rfl) (Nat.le_of_ble_eq_true rfl) hP hS (⟨by simp [spBlk, bi, t_1], rfl⟩) d_F_blocked_26
  · have t_1 := bi_n0.mp (er_1 ▸ c_2)
    refine lv_aload_n hx hb d_F_blocked_7 rfl (lv_at hl 0 rfl) ?_
    refine lv_iload_n hx hb d_F_blocked_8 rfl (lv_at hl 1 rfl) ?_
    refine k_F_159 X ⟨Nat.le_of_ble_eq_true rfl, Nat.le_of_ble_eq_true rfl⟩ ⟨Nat.le_of_ble_eq_true rfl, Nat.le_of_ble_eq_true rfl⟩ hl.1 hP hS h0 h0 h4 h7 hn3 h7f hDd h6 (by exact Nat.le_of_ble_eq_true rfl) d_F_blocked_9 (fun r_3 H locs er_3 hP hS => ?_)
    refine lv_aload_n hx hb d_F_blocked_12 rfl (lv_at hl 0 rfl) ?_
    refine g_F_42 X hb hP h0 rfl d_F_blocked_13 ?_
    refine lv_i2l hx hb d_F_blocked_16 rfl ?_
    refine W.lcmp hx hb d_F_blocked_17 ?_
    refine lv_if_lt (tgt := 25) hx hb d_F_blocked_18 (by decide) (fun c_4 => ?_) (fun c_4 => ?_)
    · rw [lg_cmp_lt] at c_4
      refine lv_iconst (v := 0) hx hb d_F_blocked_25 (by decide) ?_
      exact h_zret hx hb hr hlocks (rfl) (Nat.le_of_ble_eq_true rfl) (Nat.le_of_ble_eq_true rfl) hP hS (⟨by rw [er_3, balJ_S aR σ t_1] at c_4; simp [spBlk, bi, t_1, Int64.not_le.mpr c_4], rfl⟩) d_F_blocked_26
    · rw [lg_cmp_lt] at c_4
      refine lv_iconst (v := 1) hx hb d_F_blocked_21 (by decide) ?_
      refine lv_goto (tgt := 26) hx hb d_F_blocked_22 (by decide) ?_
      exact h_zret hx hb hr hlocks (rfl) (Nat.le_of_ble_eq_true rfl) (Nat.le_of_ble_eq_true rfl) hP hS (⟨by rw [er_3, balJ_S aR σ t_1] at c_4; simp [spBlk, bi, t_1, Int64.not_lt.mp c_4], rfl⟩) d_F_blocked_26
theorem k_W_88 {p : Program} {l : Launch} {e : Env} {R : Room} {s : State} {m : MethodId} {args : Array Value} {below : List Frame} {meth : Method} {c : Code} {H : Heap} {locs : List Loc} {cells slots : Nat} {Q : State → Prop} {cc : ByteArray} {pc : Nat} {ls : Array Slot} {rest : List Value} {D : va_G} {A : Nat → Prop} {t : Nat → ClassId} {g : hG} {nL : Nat} {ret0 : Option FieldType} {nm : String} (X : Cx p s m args meth c R_W cc nL ret0 TB D vwCl (tyL t) EX A nm) (hR : 3 + 1 ≤ R.frames ∧ 8 + (2 + 11) + 63 ≤ R.locals) (hf : cells + 0 ≤ R.cells ∧ slots + 0 ≤ R.slots) (hls : ls.size = nL) (hP : hw D vwCl A g H) (hS : va_S A s.heap H locs) {F : Nat → Prop} {ad : Nat → Nat} {σ : SS} {x : Int32} {fs9 : List Value} (he9 : g (ad 0) = some (.inr (0, fs9))) (hRx : RCx F t ad σ g) (hV : Inv σ) (hW : (rest.map fun v => v.category).sum ≤ 8) (hdg : decode cc pc = .ok (.invokevirtual 88, 3)) (kk : ∀ (r : Int32) (H1 : Heap) (locs1 : List Loc), r = bi (spBlk σ x) → hw D vwCl A (g) H1 → va_S A s.heap H1 locs1 → W p l e R s m args below meth c H1 locs1 (cells + 0) (slots + 0) Q (F0 m (pc + 3) ls (.int r :: rest))) : W p l e R s m args below meth c H locs cells slots Q (F0 m pc ls (.int x :: .ref (ad 0) :: rest)) :=
  h_ci (runV (C := R_F) (T := F_F) (N := 9) X (c_F_blocked l D t A g F ad σ x hRx hV) (tbm 358 (by decide +kernel)) (tbm 359 (by decide +kernel)) (tbm 360 (by decide +kernel)) (tbm 20 (by decide +kernel)) (tbm 361 (by decide +kernel)) rfl (n := 1) (by decide +kernel) hR hf hP he9 hS hls rfl rfl hW hdg) hS (fun r u H1 locs1 hp hP1 hS1 => kk r H1 locs1 hp.1 (hp.2 ▸ hP1) hS1)

set_option maxHeartbeats 4000000 in
set_option maxRecDepth 100000 in
theorem c_F_share (l : Launch) (D : va_G) (t : Nat → ClassId) (A : Nat → Prop) (g : hG) (F : Nat → Prop) (ad : Nat → Nat) (σ : SS) (x y z : Int32) (hRx : RCx F t ad σ g) (hV : Inv σ) : Met l y_F_share (Cond.code y_F_share b_F_share 5 (some .long) :: TB) ({ frames := 2, cells := 0, slots := 0, locals := 43 } : Room) (va_Pc [.ref (ad 0), .int x, .int y, .int z] (hI D vwCl (tyL t) EX A g)) (va_Ql (fun r u => r = spShare σ x y z ∧ u = g) (fun u v => hw D vwCl A u v.heap) A) 0 0 A := by
  refine Met.ofH (cc := b_F_share) (maxL := 5) (ret := (some .long)) (lv := [(0, .ref (ad 0)), (1, .int x), (2, .int y), (3, .int z)]) (by decide) (Nat.le_of_ble_eq_true rfl) rfl ?_
  intro p e s m below meth c ls X hP hS hl
  obtain ⟨hx, hb, hml, hr, hts, hown, hlocks, hK, hEs, hA, hnm⟩ := id X
  obtain ⟨aR, aL, aD, fR, fL, fI, fN, fB, hRc⟩ := id hRx
  obtain ⟨h0, ⟨h1, h1f⟩, ⟨h2, h2f⟩, ⟨h3, h3f⟩, h4, h5, h6, ⟨h7, h7f⟩, ⟨h8, h8f⟩, h9, hRr, hLl, hDd, h78, ⟨iR, iL, iD⟩, f0, f1, f2, f3⟩ := id hRc
  have hn1 := hV.1.1
  have hn2 := hV.1.2.1
  have hn3 := hV.1.2.2.1
  have hn4 := hV.1.2.2.2
  refine lv_aload_n hx hb d_F_share_0 rfl (lv_at hl 0 rfl) ?_
  refine g_F_27 X hb hP h0 rfl d_F_share_1 ?_
  refine lv_iload_n hx hb d_F_share_4 rfl (lv_at hl 1 rfl) ?_
  refine k_F_124 X ⟨Nat.le_of_ble_eq_true rfl, Nat.le_of_ble_eq_true rfl⟩ ⟨Nat.le_of_ble_eq_true rfl, Nat.le_of_ble_eq_true rfl⟩ hl.1 hP hS h4 h4 h7 hn3 (by exact Nat.le_of_ble_eq_true rfl) d_F_share_5 (fun r_1 H locs er_1 hP hS => ?_)
  refine lv_topq (fun ey_2 => ?_) (fun y_2 ey_2 => ?_)
  · have hN := numQ_none (by omega) h7f (er_1 ▸ ey_2)
    refine lv_astoreN (lv' := [(4, .null), (0, .ref (ad 0)), (1, .int x), (2, .int y), (3, .int z)]) hx hb d_F_share_8 hl (by decide) rfl (fun ls hl => ?_)
    refine lv_aloadN hx hb d_F_share_10 (lv_at hl 0 rfl) ?_
    refine lv_ifnullN (tgt := 35) hx hb d_F_share_12 (by decide) ?_
    refine lv_ldc2 (v := (-1)) hx hb hown (hts _ (tbm 212 (by decide +kernel))) d_F_share_35 ?_
    exact h_lret hx hb hr hlocks (Nat.le_of_ble_eq_true rfl) (Nat.le_of_ble_eq_true rfl) hP hS (⟨by simp [spShare, dbtN_none hN], rfl⟩) d_F_share_38
  · obtain ⟨k, hk, rfl, rfl, hwk⟩ := numQ_some (by omega) h7f (er_1 ▸ ey_2)
    refine lv_astore (lv' := [(4, .ref (aD k)), (0, .ref (ad 0)), (1, .int (nI (k + 1))), (2, .int y), (3, .int z)]) hx hb d_F_share_8 hl (by decide) rfl (fun ls hl => ?_)
    refine lv_aload hx hb d_F_share_10 (lv_at hl 0 rfl) ?_
    refine lv_ifnull hx hb d_F_share_12 ?_
    refine lv_iload_n hx hb d_F_share_15 rfl (lv_at hl 4 rfl) ?_
    refine lv_iconst (v := 1) hx hb d_F_share_16 (by decide) ?_
    refine lv_sipush (v := 1000) hx hb d_F_share_17 (by decide) ?_
    refine k_F_47 X ⟨Nat.le_of_ble_eq_true rfl, Nat.le_of_ble_eq_true rfl⟩ ⟨Nat.le_of_ble_eq_true rfl, Nat.le_of_ble_eq_true rfl⟩ hl.1 hP hS (by exact Nat.le_of_ble_eq_true rfl) d_F_share_20 (fun r_3 H locs er_3 hP hS => ?_)
    refine lv_if_eq (tgt := 35) hx hb d_F_share_23 (by decide) (fun c_4 => ?_) (fun c_4 => ?_)
    · have t_3 := bi_0.mp (er_3 ▸ c_4)
      refine lv_ldc2 (v := (-1)) hx hb hown (hts _ (tbm 212 (by decide +kernel))) d_F_share_35 ?_
      exact h_lret hx hb hr hlocks (Nat.le_of_ble_eq_true rfl) (Nat.le_of_ble_eq_true rfl) hP hS (⟨by simp [spShare, dbtN_some hV hk, t_3], rfl⟩) d_F_share_38
    · have t_3 := bi_n0.mp (er_3 ▸ c_4)
      refine lv_iload_n hx hb d_F_share_26 rfl (lv_at hl 3 rfl) ?_
      refine lv_iconst (v := 1) hx hb d_F_share_27 (by decide) ?_
      refine lv_iload_n hx hb d_F_share_28 rfl (lv_at hl 4 rfl) ?_
      refine k_F_47 X ⟨Nat.le_of_ble_eq_true rfl, Nat.le_of_ble_eq_true rfl⟩ ⟨Nat.le_of_ble_eq_true rfl, Nat.le_of_ble_eq_true rfl⟩ hl.1 hP hS (by exact Nat.le_of_ble_eq_true rfl) d_F_share_29 (fun r_5 H locs er_5 hP hS => ?_)
      refine lv_if_ne (tgt := 39) hx hb d_F_share_32 (by decide) (fun c_6 => ?_) (fun c_6 => ?_)
      · have t_5 := bi_n0.mp (er_5 ▸ c_6)
        refine lv_aload hx hb d_F_share_39 (lv_at hl 0 rfl) ?_
        refine g_F_178 X hb hP (hDd k hk) rfl d_F_share_41 ?_
        refine lv_iload_n hx hb d_F_share_44 rfl (lv_at hl 3 rfl) ?_
        refine lv_i2l hx hb d_F_share_45 rfl ?_
        refine lv_lmul hx hb d_F_share_46 ?_
        refine lv_iload_n hx hb d_F_share_47 rfl (lv_at hl 4 rfl) ?_
        refine lv_i2l hx hb d_F_share_48 rfl ?_
        refine lv_ldiv hx hb d_F_share_49 (pos_ne0 t_3) ?_
        exact h_lret hx hb hr hlocks (Nat.le_of_ble_eq_true rfl) (Nat.le_of_ble_eq_true rfl) hP hS (⟨by simp only [spShare, dbtN_some hV hk]; rw [if_pos (by simp [t_3, t_5])]; rfl, rfl⟩) d_F_share_50
      · have t_5 := bi_0.mp (er_5 ▸ c_6)
        refine lv_ldc2 (v := (-1)) hx hb hown (hts _ (tbm 212 (by decide +kernel))) d_F_share_35 ?_
        exact h_lret hx hb hr hlocks (Nat.le_of_ble_eq_true rfl) (Nat.le_of_ble_eq_true rfl) hP hS (⟨by simp [spShare, dbtN_some hV hk, t_3, t_5], rfl⟩) d_F_share_38
theorem k_W_97 {p : Program} {l : Launch} {e : Env} {R : Room} {s : State} {m : MethodId} {args : Array Value} {below : List Frame} {meth : Method} {c : Code} {H : Heap} {locs : List Loc} {cells slots : Nat} {Q : State → Prop} {cc : ByteArray} {pc : Nat} {ls : Array Slot} {rest : List Value} {D : va_G} {A : Nat → Prop} {t : Nat → ClassId} {g : hG} {nL : Nat} {ret0 : Option FieldType} {nm : String} (X : Cx p s m args meth c R_W cc nL ret0 TB D vwCl (tyL t) EX A nm) (hR : 2 + 1 ≤ R.frames ∧ 8 + (5 + 11) + 43 ≤ R.locals) (hf : cells + 0 ≤ R.cells ∧ slots + 0 ≤ R.slots) (hls : ls.size = nL) (hP : hw D vwCl A g H) (hS : va_S A s.heap H locs) {F : Nat → Prop} {ad : Nat → Nat} {σ : SS} {x y z : Int32} {fs9 : List Value} (he9 : g (ad 0) = some (.inr (0, fs9))) (hRx : RCx F t ad σ g) (hV : Inv σ) (hW : (rest.map fun v => v.category).sum ≤ 8) (hdg : decode cc pc = .ok (.invokevirtual 97, 3)) (kk : ∀ (r : Int64) (H1 : Heap) (locs1 : List Loc), r = spShare σ x y z → hw D vwCl A (g) H1 → va_S A s.heap H1 locs1 → W p l e R s m args below meth c H1 locs1 (cells + 0) (slots + 0) Q (F0 m (pc + 3) ls (.long r :: rest))) : W p l e R s m args below meth c H locs cells slots Q (F0 m pc ls (.int z :: .int y :: .int x :: .ref (ad 0) :: rest)) :=
  h_cl (runV (C := R_F) (T := F_F) (N := 9) X (c_F_share l D t A g F ad σ x y z hRx hV) (tbm 368 (by decide +kernel)) (tbm 369 (by decide +kernel)) (tbm 370 (by decide +kernel)) (tbm 20 (by decide +kernel)) (tbm 371 (by decide +kernel)) rfl (n := 3) (by decide +kernel) hR hf hP he9 hS hls rfl rfl hW hdg) hS (fun r u H1 locs1 hp hP1 hS1 => kk r H1 locs1 hp.1 (hp.2 ▸ hP1) hS1)

set_option maxHeartbeats 4000000 in
set_option maxRecDepth 100000 in
theorem c_F_debt (l : Launch) (D : va_G) (t : Nat → ClassId) (A : Nat → Prop) (g : hG) (F : Nat → Prop) (ad : Nat → Nat) (σ : SS) (x y : Int32) (hRx : RCx F t ad σ g) (hV : Inv σ) : Met l y_F_debt (Cond.code y_F_debt b_F_debt 4 (some .long) :: TB) ({ frames := 2, cells := 0, slots := 0, locals := 46 } : Room) (va_Pc [.ref (ad 0), .int x, .int y] (hI D vwCl (tyL t) EX A g)) (va_Ql (fun r u => r = spDebt σ x y ∧ u = g) (fun u v => hw D vwCl A u v.heap) A) 0 0 A := by
  refine Met.ofH (cc := b_F_debt) (maxL := 4) (ret := (some .long)) (lv := [(0, .ref (ad 0)), (1, .int x), (2, .int y)]) (by decide) (Nat.le_of_ble_eq_true rfl) rfl ?_
  intro p e s m below meth c ls X hP hS hl
  obtain ⟨hx, hb, hml, hr, hts, hown, hlocks, hK, hEs, hA, hnm⟩ := id X
  obtain ⟨aR, aL, aD, fR, fL, fI, fN, fB, hRc⟩ := id hRx
  obtain ⟨h0, ⟨h1, h1f⟩, ⟨h2, h2f⟩, ⟨h3, h3f⟩, h4, h5, h6, ⟨h7, h7f⟩, ⟨h8, h8f⟩, h9, hRr, hLl, hDd, h78, ⟨iR, iL, iD⟩, f0, f1, f2, f3⟩ := id hRc
  have hn1 := hV.1.1
  have hn2 := hV.1.2.1
  have hn3 := hV.1.2.2.1
  have hn4 := hV.1.2.2.2
  refine lv_aload_n hx hb d_F_debt_0 rfl (lv_at hl 0 rfl) ?_
  refine g_F_27 X hb hP h0 rfl d_F_debt_1 ?_
  refine lv_iload_n hx hb d_F_debt_4 rfl (lv_at hl 1 rfl) ?_
  refine k_F_124 X ⟨Nat.le_of_ble_eq_true rfl, Nat.le_of_ble_eq_true rfl⟩ ⟨Nat.le_of_ble_eq_true rfl, Nat.le_of_ble_eq_true rfl⟩ hl.1 hP hS h4 h4 h7 hn3 (by exact Nat.le_of_ble_eq_true rfl) d_F_debt_5 (fun r_1 H locs er_1 hP hS => ?_)
  refine lv_topq (fun ey_2 => ?_) (fun y_2 ey_2 => ?_)
  · have hN := numQ_none (by omega) h7f (er_1 ▸ ey_2)
    refine lv_astore_nN (lv' := [(3, .null), (0, .ref (ad 0)), (1, .int x), (2, .int y)]) hx hb d_F_debt_8 rfl hl (by decide) rfl (fun ls hl => ?_)
    refine lv_aload_nN hx hb d_F_debt_9 rfl (lv_at hl 0 rfl) ?_
    refine lv_ifnonnullN hx hb d_F_debt_10 ?_
    refine lv_ldc2 (v := (-1)) hx hb hown (hts _ (tbm 212 (by decide +kernel))) d_F_debt_13 ?_
    exact h_lret hx hb hr hlocks (Nat.le_of_ble_eq_true rfl) (Nat.le_of_ble_eq_true rfl) hP hS (⟨by simp [spDebt, dbtN_none hN], rfl⟩) d_F_debt_16
  · obtain ⟨k, hk, rfl, rfl, hwk⟩ := numQ_some (by omega) h7f (er_1 ▸ ey_2)
    refine lv_astore_n (lv' := [(3, .ref (aD k)), (0, .ref (ad 0)), (1, .int (nI (k + 1))), (2, .int y)]) hx hb d_F_debt_8 rfl hl (by decide) rfl (fun ls hl => ?_)
    refine lv_aload_n hx hb d_F_debt_9 rfl (lv_at hl 0 rfl) ?_
    refine lv_ifnonnull (tgt := 17) hx hb d_F_debt_10 (by decide) ?_
    refine lv_iload_n hx hb d_F_debt_17 rfl (lv_at hl 3 rfl) ?_
    by_cases s_3 : y = 0
    · subst s_3
      refine lv_tableIn (off := 38) (tgt := 56) hx hb d_F_debt_18 (by decide) (by decide) rfl (by decide) ?_
      refine lv_aload_n hx hb d_F_debt_56 rfl (lv_at hl 0 rfl) ?_
      refine g_F_152 X hb hP (hDd k hk) rfl d_F_debt_57 ?_
      refine lv_i2l hx hb d_F_debt_60 rfl ?_
      exact h_lret hx hb hr hlocks (Nat.le_of_ble_eq_true rfl) (Nat.le_of_ble_eq_true rfl) hP hS (⟨by simp [spDebt, dbtN_some hV hk]; try rfl, rfl⟩) d_F_debt_61
    by_cases s_4 : y = 1
    · subst s_4
      refine lv_tableIn (off := 44) (tgt := 62) hx hb d_F_debt_18 (by decide) (by decide) rfl (by decide) ?_
      refine lv_aload_n hx hb d_F_debt_62 rfl (lv_at hl 0 rfl) ?_
      refine g_F_178 X hb hP (hDd k hk) rfl d_F_debt_63 ?_
      exact h_lret hx hb hr hlocks (Nat.le_of_ble_eq_true rfl) (Nat.le_of_ble_eq_true rfl) hP hS (⟨by simp [spDebt, dbtN_some hV hk]; try rfl, rfl⟩) d_F_debt_66
    by_cases s_5 : y = 2
    · subst s_5
      refine lv_tableIn (off := 49) (tgt := 67) hx hb d_F_debt_18 (by decide) (by decide) rfl (by decide) ?_
      refine lv_aload_n hx hb d_F_debt_67 rfl (lv_at hl 0 rfl) ?_
      refine g_F_138 X hb hP (hDd k hk) rfl d_F_debt_68 ?_
      exact h_lret hx hb hr hlocks (Nat.le_of_ble_eq_true rfl) (Nat.le_of_ble_eq_true rfl) hP hS (⟨by simp [spDebt, dbtN_some hV hk]; try rfl, rfl⟩) d_F_debt_71
    by_cases s_6 : y = 3
    · subst s_6
      refine lv_tableIn (off := 54) (tgt := 72) hx hb d_F_debt_18 (by decide) (by decide) rfl (by decide) ?_
      refine lv_aload_n hx hb d_F_debt_72 rfl (lv_at hl 0 rfl) ?_
      refine g_F_181 X hb hP (hDd k hk) rfl d_F_debt_73 ?_
      exact h_lret hx hb hr hlocks (Nat.le_of_ble_eq_true rfl) (Nat.le_of_ble_eq_true rfl) hP hS (⟨by simp [spDebt, dbtN_some hV hk]; try rfl, rfl⟩) d_F_debt_76
    by_cases s_7 : y = 4
    · subst s_7
      refine lv_tableIn (off := 59) (tgt := 77) hx hb d_F_debt_18 (by decide) (by decide) rfl (by decide) ?_
      refine lv_aload_n hx hb d_F_debt_77 rfl (lv_at hl 0 rfl) ?_
      refine g_F_184 X hb hP (hDd k hk) rfl d_F_debt_78 ?_
      refine lv_i2l hx hb d_F_debt_81 rfl ?_
      exact h_lret hx hb hr hlocks (Nat.le_of_ble_eq_true rfl) (Nat.le_of_ble_eq_true rfl) hP hS (⟨by simp [spDebt, dbtN_some hV hk]; try rfl, rfl⟩) d_F_debt_82
    by_cases s_8 : y = 5
    · subst s_8
      refine lv_tableIn (off := 65) (tgt := 83) hx hb d_F_debt_18 (by decide) (by decide) rfl (by decide) ?_
      refine lv_aload_n hx hb d_F_debt_83 rfl (lv_at hl 0 rfl) ?_
      refine lv_aload_n hx hb d_F_debt_84 rfl (lv_at hl 0 rfl) ?_
      refine g_F_181 X hb hP (hDd k hk) rfl d_F_debt_85 ?_
      refine lv_ldc2 (v := 30) hx hb hown (hts _ (tbm 366 (by decide +kernel))) d_F_debt_88 ?_
      refine lv_ladd hx hb d_F_debt_91 ?_
      refine k_F_189 X ⟨Nat.le_of_ble_eq_true rfl, Nat.le_of_ble_eq_true rfl⟩ ⟨Nat.le_of_ble_eq_true rfl, Nat.le_of_ble_eq_true rfl⟩ hl.1 hP hS (hDd k hk) (hDd k hk) (hRr _ (hV.2.2.1 _ (hV.2.2.2.1 k hk).1).2.2.1) (by exact Nat.le_of_ble_eq_true rfl) d_F_debt_92 (fun r_9 H locs er_9 hP hS => ?_)
      exact h_lret hx hb hr hlocks (Nat.le_of_ble_eq_true rfl) (Nat.le_of_ble_eq_true rfl) hP hS (⟨by rw [er_9]; simp [spDebt, dbtN_some hV hk]; rfl, rfl⟩) d_F_debt_95
    refine lv_tableOut (tgt := 96) hx hb d_F_debt_18 (by have n0 := lv_neT s_3 (k := 0) (a := 0) rfl; have n1 := lv_neT s_4 (k := 1) (a := 1) rfl; have n2 := lv_neT s_5 (k := 2) (a := 2) rfl; have n3 := lv_neT s_6 (k := 3) (a := 3) rfl; have n4 := lv_neT s_7 (k := 4) (a := 4) rfl; have n5 := lv_neT s_8 (k := 5) (a := 5) rfl; omega) (by decide) ?_
    refine lv_ldc2 (v := (-1)) hx hb hown (hts _ (tbm 212 (by decide +kernel))) d_F_debt_96 ?_
    exact h_lret hx hb hr hlocks (Nat.le_of_ble_eq_true rfl) (Nat.le_of_ble_eq_true rfl) hP hS (⟨by simp [spDebt, dbtN_some hV hk, s_3, s_4, s_5, s_6, s_7, s_8], rfl⟩) d_F_debt_99
theorem k_W_93 {p : Program} {l : Launch} {e : Env} {R : Room} {s : State} {m : MethodId} {args : Array Value} {below : List Frame} {meth : Method} {c : Code} {H : Heap} {locs : List Loc} {cells slots : Nat} {Q : State → Prop} {cc : ByteArray} {pc : Nat} {ls : Array Slot} {rest : List Value} {D : va_G} {A : Nat → Prop} {t : Nat → ClassId} {g : hG} {nL : Nat} {ret0 : Option FieldType} {nm : String} (X : Cx p s m args meth c R_W cc nL ret0 TB D vwCl (tyL t) EX A nm) (hR : 2 + 1 ≤ R.frames ∧ 8 + (4 + 11) + 46 ≤ R.locals) (hf : cells + 0 ≤ R.cells ∧ slots + 0 ≤ R.slots) (hls : ls.size = nL) (hP : hw D vwCl A g H) (hS : va_S A s.heap H locs) {F : Nat → Prop} {ad : Nat → Nat} {σ : SS} {x y : Int32} {fs9 : List Value} (he9 : g (ad 0) = some (.inr (0, fs9))) (hRx : RCx F t ad σ g) (hV : Inv σ) (hW : (rest.map fun v => v.category).sum ≤ 8) (hdg : decode cc pc = .ok (.invokevirtual 93, 3)) (kk : ∀ (r : Int64) (H1 : Heap) (locs1 : List Loc), r = spDebt σ x y → hw D vwCl A (g) H1 → va_S A s.heap H1 locs1 → W p l e R s m args below meth c H1 locs1 (cells + 0) (slots + 0) Q (F0 m (pc + 3) ls (.long r :: rest))) : W p l e R s m args below meth c H locs cells slots Q (F0 m pc ls (.int y :: .int x :: .ref (ad 0) :: rest)) :=
  h_cl (runV (C := R_F) (T := F_F) (N := 9) X (c_F_debt l D t A g F ad σ x y hRx hV) (tbm 362 (by decide +kernel)) (tbm 363 (by decide +kernel)) (tbm 364 (by decide +kernel)) (tbm 20 (by decide +kernel)) (tbm 365 (by decide +kernel)) rfl (n := 2) (by decide +kernel) hR hf hP he9 hS hls rfl rfl hW hdg) hS (fun r u H1 locs1 hp hP1 hS1 => kk r H1 locs1 hp.1 (hp.2 ▸ hP1) hS1)
