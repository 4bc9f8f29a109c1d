set_option maxHeartbeats 4000000 in
set_option maxRecDepth 100000 in
theorem c_F_closed (l : Launch) (D : va_G) (t : Nat → ClassId) (A : Nat → Prop) (g : hG) (F : Nat → Prop) (ad : Nat → Nat) (σ : SS) (x : Int64) (hRx : RCx F t ad σ g) (hV : Inv σ) : Met l y_F_closed (Cond.code y_F_closed b_F_closed 3 (some .int) :: TB) ({ frames := 2, cells := 0, slots := 0, locals := 48 } : Room) (va_Pc [.ref (ad 0), .long x] (hI D vwCl (tyL t) EX A g)) (va_Qi (fun r u => r = (spClosed σ x).1 ∧ RCx (gr F g) t ad (spClosed σ x).2 u ∧ Keep F g u) (fun u v => hw D vwCl A u v.heap) A) 0 0 A := by
  refine Met.ofH (cc := b_F_closed) (maxL := 3) (ret := (some .int)) (lv := [(0, .ref (ad 0)), (1, .long x)]) (by decide) (Nat.le_of_ble_eq_true rfl) rfl ?_
  intro p e s m below meth c ls X hP hS hl
  obtain ⟨hx, hb, hml, hr, hts, hown, hlocks, hK, hEs, hA, hnm⟩ := id X
  obtain ⟨aR, aL, aD, fR, fL, fI, fN, fB, hRc⟩ := id hRx
  obtain ⟨h0, ⟨h1, h1f⟩, ⟨h2, h2f⟩, ⟨h3, h3f⟩, h4, h5, h6, ⟨h7, h7f⟩, ⟨h8, h8f⟩, h9, hRr, hLl, hDd, h78, ⟨iR, iL, iD⟩, f0, f1, f2, f3⟩ := id hRc
  have hn1 := hV.1.1
  have hn2 := hV.1.2.1
  have hn3 := hV.1.2.2.1
  have hn4 := hV.1.2.2.2
  refine lv_lload_n hx hb d_F_closed_0 rfl (lv_at hl 1 rfl) ?_
  refine k_F_76 X ⟨Nat.le_of_ble_eq_true rfl, Nat.le_of_ble_eq_true rfl⟩ ⟨Nat.le_of_ble_eq_true rfl, Nat.le_of_ble_eq_true rfl⟩ hl.1 hP hS (by exact Nat.le_of_ble_eq_true rfl) d_F_closed_1 (fun r_1 H locs er_1 hP hS => ?_)
  refine lv_if_eq (tgt := 18) hx hb d_F_closed_4 (by decide) (fun c_2 => ?_) (fun c_2 => ?_)
  · have t_1 := bi_0.mp (er_1 ▸ c_2)
    refine lv_iconst (v := 0) hx hb d_F_closed_18 (by decide) ?_
    have e9 : spClosed σ x = (0, σ) := by simp [spClosed, t_1]
    exact h_iret hx hb hr hlocks (Nat.le_of_ble_eq_true rfl) (Nat.le_of_ble_eq_true rfl) hP hS (⟨by rw [e9], by rw [e9]; exact hRx.mono (fun _ h => Or.inl h), Keep.rf⟩) d_F_closed_19
  · have t_1 := bi_n0.mp (er_1 ▸ c_2)
    refine lv_aload_n hx hb d_F_closed_7 rfl (lv_at hl 0 rfl) ?_
    refine g_F_34 X hb hP h0 rfl d_F_closed_8 ?_
    refine lv_lload_n hx hb d_F_closed_11 rfl (lv_at hl 1 rfl) ?_
    refine k_F_80 X ⟨Nat.le_of_ble_eq_true rfl, Nat.le_of_ble_eq_true rfl⟩ ⟨Nat.le_of_ble_eq_true rfl, Nat.le_of_ble_eq_true rfl⟩ hl.1 hP hS h5 h5 h9 hn4 (by exact Nat.le_of_ble_eq_true rfl) d_F_closed_12 (fun r_3 H locs er_3 hP hS => ?_)
    refine lv_if_ne (tgt := 20) hx hb d_F_closed_15 (by decide) (fun c_4 => ?_) (fun c_4 => ?_)
    · have t_3 := bi_n0.mp (er_3 ▸ c_4)
      rw [cAdd, if_pos t_3] at hP
      refine lv_aload_n hx hb d_F_closed_20 rfl (lv_at hl 0 rfl) ?_
      refine g_F_34 X hb hP (up_at (up_at h0 (hw_kd h0 h9 rfl)) (hw_kd h0 h5 rfl)) rfl d_F_closed_21 ?_
      refine g_F_83 X hb hP (va_up_self _ _ _) rfl d_F_closed_24 ?_
      have e9 : spClosed σ x = (nI (sNC σ + 1), (σ.1, σ.2.1, σ.2.2.1, (sNC σ + 1, va_up (sCD σ) (sNC σ) x), σ.2.2.2.2)) := by simp [spClosed, t_1, t_3]
      exact h_iret hx hb hr hlocks (Nat.le_of_ble_eq_true rfl) (Nat.le_of_ble_eq_true rfl) hP hS (⟨by rw [e9], by rw [e9]; exact ⟨_, _, _, _, _, _, _, _, (RC.closed hRc x).mono (fun _ h => Or.inl h)⟩, Keep.up (Keep.up Keep.rf (Or.inl (f0 9 (by decide)))) (Or.inl (f0 5 (by decide)))⟩) d_F_closed_27
    · have t_3 := bi_0.mp (er_3 ▸ c_4)
      rw [cAdd, if_neg (by rw [t_3]; decide)] at hP
      refine lv_iconst (v := 0) hx hb d_F_closed_18 (by decide) ?_
      have e9 : spClosed σ x = (0, σ) := by simp [spClosed, t_1, t_3]
      exact h_iret hx hb hr hlocks (Nat.le_of_ble_eq_true rfl) (Nat.le_of_ble_eq_true rfl) hP hS (⟨by rw [e9], by rw [e9]; exact hRx.mono (fun _ h => Or.inl h), Keep.rf⟩) d_F_closed_19
theorem k_W_35 {p : Program} {l : Launch} {e : Env} {R : Room} {s : State} {m : MethodId} {args : Array Value} {below : List Frame} {meth : Method} {c : Code} {H : Heap} {locs : List Loc} {cells slots : Nat} {Q : State → Prop} {cc : ByteArray} {pc : Nat} {ls : Array Slot} {rest : List Value} {D : va_G} {A : Nat → Prop} {t : Nat → ClassId} {g : hG} {nL : Nat} {ret0 : Option FieldType} {nm : String} (X : Cx p s m args meth c R_W cc nL ret0 TB D vwCl (tyL t) EX A nm) (hR : 2 + 1 ≤ R.frames ∧ 8 + (3 + 11) + 48 ≤ R.locals) (hf : cells + 0 ≤ R.cells ∧ slots + 0 ≤ R.slots) (hls : ls.size = nL) (hP : hw D vwCl A g H) (hS : va_S A s.heap H locs) {F : Nat → Prop} {ad : Nat → Nat} {σ : SS} {x : Int64} {fs9 : List Value} (he9 : g (ad 0) = some (.inr (0, fs9))) (hRx : RCx F t ad σ g) (hV : Inv σ) (hW : (rest.map fun v => v.category).sum ≤ 8) (hdg : decode cc pc = .ok (.invokevirtual 35, 3)) (kk : ∀ (r : Int32) (u : hG) (H1 : Heap) (locs1 : List Loc), ((fun r u => r = (spClosed σ x).1 ∧ RCx (gr F g) t ad (spClosed σ x).2 u ∧ Keep F g u) r u) → hw D vwCl A u H1 → va_S A s.heap H1 locs1 → W p l e R s m args below meth c H1 locs1 (cells + 0) (slots + 0) Q (F0 m (pc + 3) ls (.int r :: rest))) : W p l e R s m args below meth c H locs cells slots Q (F0 m pc ls (.long x :: .ref (ad 0) :: rest)) :=
  h_ci (runV (C := R_F) (T := F_F) (N := 9) X (c_F_closed l D t A g F ad σ x hRx hV) (tbm 138 (by decide +kernel)) (tbm 139 (by decide +kernel)) (tbm 140 (by decide +kernel)) (tbm 20 (by decide +kernel)) (tbm 141 (by decide +kernel)) rfl (n := 1) (by decide +kernel) hR hf hP he9 hS hls rfl rfl hW hdg) hS kk

set_option maxHeartbeats 4000000 in
set_option maxRecDepth 100000 in
theorem c_F_loan (l : Launch) (D : va_G) (t : Nat → ClassId) (A : Nat → Prop) (g : hG) (F : Nat → Prop) (ad : Nat → Nat) (σ : SS) (x y z : Int32) (d : Int64) (hRx : RCx F t ad σ g) (hV : Inv σ) : Met l y_F_loan (Cond.code y_F_loan b_F_loan 8 (some .int) :: TB) ({ frames := 2, cells := 1, slots := 6, locals := 49 } : Room) (va_Pc [.ref (ad 0), .int x, .int y, .int z, .long d] (hI D vwCl (tyL t) EX A g)) (va_Qi (fun r u => r = (spLoan σ x y z d).1 ∧ RCx (gr F g) t ad (spLoan σ x y z d).2 u ∧ Keep F g u) (fun u v => hw D vwCl A u v.heap) A) 1 6 A := by
  refine Met.ofH (cc := b_F_loan) (maxL := 8) (ret := (some .int)) (lv := [(0, .ref (ad 0)), (1, .int x), (2, .int y), (3, .int z), (4, .long d)]) (by decide) (Nat.le_of_ble_eq_true rfl) rfl ?_
  intro p e s m below meth c ls X hP hS hl
  obtain ⟨hx, hb, hml, hr, hts, hown, hlocks, hK, hEs, hA, hnm⟩ := id X
  obtain ⟨aR, aL, aD, fR, fL, fI, fN, fB, hRc⟩ := id hRx
  obtain ⟨h0, ⟨h1, h1f⟩, ⟨h2, h2f⟩, ⟨h3, h3f⟩, h4, h5, h6, ⟨h7, h7f⟩, ⟨h8, h8f⟩, h9, hRr, hLl, hDd, h78, ⟨iR, iL, iD⟩, f0, f1, f2, f3⟩ := id hRc
  have hn1 := hV.1.1
  have hn2 := hV.1.2.1
  have hn3 := hV.1.2.2.1
  have hn4 := hV.1.2.2.2
  refine lv_aload_n hx hb d_F_loan_0 rfl (lv_at hl 0 rfl) ?_
  refine lv_iload_n hx hb d_F_loan_1 rfl (lv_at hl 3 rfl) ?_
  refine k_F_58 X ⟨Nat.le_of_ble_eq_true rfl, Nat.le_of_ble_eq_true rfl⟩ ⟨Nat.le_of_ble_eq_true rfl, Nat.le_of_ble_eq_true rfl⟩ hl.1 hP hS h0 h0 h1 hn1 (by exact Nat.le_of_ble_eq_true rfl) d_F_loan_2 (fun r_1 H locs er_1 hP hS => ?_)
  refine lv_topq (fun ey_2 => ?_) (fun y_2 ey_2 => ?_)
  · have hN := ordQ_none (by omega) h1f (er_1 ▸ ey_2)
    refine lv_astoreN (lv' := [(6, .null), (0, .ref (ad 0)), (1, .int x), (2, .int y), (3, .int z), (4, .long d)]) hx hb d_F_loan_5 hl (by decide) rfl (fun ls hl => ?_)
    refine lv_iload_n hx hb d_F_loan_7 rfl (lv_at hl 2 rfl) ?_
    refine k_F_86 X ⟨Nat.le_of_ble_eq_true rfl, Nat.le_of_ble_eq_true rfl⟩ ⟨Nat.le_of_ble_eq_true rfl, Nat.le_of_ble_eq_true rfl⟩ hl.1 hP hS (by exact Nat.le_of_ble_eq_true rfl) d_F_loan_8 (fun r_3 H locs er_3 hP hS => ?_)
    refine lv_if_eq (tgt := 34) hx hb d_F_loan_11 (by decide) (fun c_4 => ?_) (fun c_4 => ?_)
    · have t_3 := bi_0.mp (er_3 ▸ c_4)
      refine lv_iconst (v := 0) hx hb d_F_loan_34 (by decide) ?_
      have e9 : spLoan σ (x) (y) (z) d = (0, σ) := by simp [spLoan, nI_k0, hN, t_3]
      exact h_iret hx hb hr hlocks (Nat.le_of_ble_eq_true rfl) (Nat.le_of_ble_eq_true rfl) hP hS (⟨by rw [e9], by rw [e9]; exact hRx.mono (fun _ h => Or.inl h), Keep.rf⟩) d_F_loan_35
    · have t_3 := bi_n0.mp (er_3 ▸ c_4)
      obtain ⟨i, hi, rfl⟩ := wi_pl (M := 59) (n := 59) rfl (by decide) t_3
      refine lv_iload_n hx hb d_F_loan_14 rfl (lv_at hl 3 rfl) ?_
      refine k_F_90 X ⟨Nat.le_of_ble_eq_true rfl, Nat.le_of_ble_eq_true rfl⟩ ⟨Nat.le_of_ble_eq_true rfl, Nat.le_of_ble_eq_true rfl⟩ hl.1 hP hS (by exact Nat.le_of_ble_eq_true rfl) d_F_loan_15 (fun r_5 H locs er_5 hP hS => ?_)
      refine lv_if_eq (tgt := 34) hx hb d_F_loan_18 (by decide) (fun c_6 => ?_) (fun c_6 => ?_)
      · have t_5 := bi_0.mp (er_5 ▸ c_6)
        refine lv_iconst (v := 0) hx hb d_F_loan_34 (by decide) ?_
        have e9 : spLoan σ (nI i) (y) (z) d = (0, σ) := by simp [spLoan, nI_k0, hN, t_3, t_5]
        exact h_iret hx hb hr hlocks (Nat.le_of_ble_eq_true rfl) (Nat.le_of_ble_eq_true rfl) hP hS (⟨by rw [e9], by rw [e9]; exact hRx.mono (fun _ h => Or.inl h), Keep.rf⟩) d_F_loan_35
      · have t_5 := bi_n0.mp (er_5 ▸ c_6)
        obtain ⟨pn, hpn, rfl⟩ := wi_pl (M := 29) (n := 29) rfl (by decide) t_5
        refine lv_aloadN hx hb d_F_loan_21 (lv_at hl 0 rfl) ?_
        refine lv_ifnullN (tgt := 34) hx hb d_F_loan_23 (by decide) ?_
        refine lv_iconst (v := 0) hx hb d_F_loan_34 (by decide) ?_
        have e9 : spLoan σ (nI i) (nI pn) (z) d = (0, σ) := by simp [spLoan, nI_k0, hN, t_3, t_5]
        exact h_iret hx hb hr hlocks (Nat.le_of_ble_eq_true rfl) (Nat.le_of_ble_eq_true rfl) hP hS (⟨by rw [e9], by rw [e9]; exact hRx.mono (fun _ h => Or.inl h), Keep.rf⟩) d_F_loan_35
  · obtain ⟨k, hk, rfl, rfl, hwk⟩ := ordQ_some (by omega) h1f (er_1 ▸ ey_2)
    refine lv_astore (lv' := [(6, .ref (aR k)), (0, .ref (ad 0)), (1, .int x), (2, .int y), (3, .int (nI k)), (4, .long d)]) hx hb d_F_loan_5 hl (by decide) rfl (fun ls hl => ?_)
    refine lv_iload_n hx hb d_F_loan_7 rfl (lv_at hl 2 rfl) ?_
    refine k_F_86 X ⟨Nat.le_of_ble_eq_true rfl, Nat.le_of_ble_eq_true rfl⟩ ⟨Nat.le_of_ble_eq_true rfl, Nat.le_of_ble_eq_true rfl⟩ hl.1 hP hS (by exact Nat.le_of_ble_eq_true rfl) d_F_loan_8 (fun r_7 H locs er_7 hP hS => ?_)
    refine lv_if_eq (tgt := 34) hx hb d_F_loan_11 (by decide) (fun c_8 => ?_) (fun c_8 => ?_)
    · have t_7 := bi_0.mp (er_7 ▸ c_8)
      refine lv_iconst (v := 0) hx hb d_F_loan_34 (by decide) ?_
      have e9 : spLoan σ (x) (y) (nI k) d = (0, σ) := by simp [spLoan, nI_k0, hwk, t_7]
      exact h_iret hx hb hr hlocks (Nat.le_of_ble_eq_true rfl) (Nat.le_of_ble_eq_true rfl) hP hS (⟨by rw [e9], by rw [e9]; exact hRx.mono (fun _ h => Or.inl h), Keep.rf⟩) d_F_loan_35
    · have t_7 := bi_n0.mp (er_7 ▸ c_8)
      obtain ⟨i, hi, rfl⟩ := wi_pl (M := 59) (n := 59) rfl (by decide) t_7
      refine lv_iload_n hx hb d_F_loan_14 rfl (lv_at hl 3 rfl) ?_
      refine k_F_90 X ⟨Nat.le_of_ble_eq_true rfl, Nat.le_of_ble_eq_true rfl⟩ ⟨Nat.le_of_ble_eq_true rfl, Nat.le_of_ble_eq_true rfl⟩ hl.1 hP hS (by exact Nat.le_of_ble_eq_true rfl) d_F_loan_15 (fun r_9 H locs er_9 hP hS => ?_)
      refine lv_if_eq (tgt := 34) hx hb d_F_loan_18 (by decide) (fun c_10 => ?_) (fun c_10 => ?_)
      · have t_9 := bi_0.mp (er_9 ▸ c_10)
        refine lv_iconst (v := 0) hx hb d_F_loan_34 (by decide) ?_
        have e9 : spLoan σ (nI i) (y) (nI k) d = (0, σ) := by simp [spLoan, nI_k0, hwk, t_7, t_9]
        exact h_iret hx hb hr hlocks (Nat.le_of_ble_eq_true rfl) (Nat.le_of_ble_eq_true rfl) hP hS (⟨by rw [e9], by rw [e9]; exact hRx.mono (fun _ h => Or.inl h), Keep.rf⟩) d_F_loan_35
      · have t_9 := bi_n0.mp (er_9 ▸ c_10)
        obtain ⟨pn, hpn, rfl⟩ := wi_pl (M := 29) (n := 29) rfl (by decide) t_9
        refine lv_aload hx hb d_F_loan_21 (lv_at hl 0 rfl) ?_
        refine lv_ifnull hx hb d_F_loan_23 ?_
        refine lv_lload hx hb d_F_loan_26 (lv_at hl 5 rfl) ?_
        refine k_F_76 X ⟨Nat.le_of_ble_eq_true rfl, Nat.le_of_ble_eq_true rfl⟩ ⟨Nat.le_of_ble_eq_true rfl, Nat.le_of_ble_eq_true rfl⟩ hl.1 hP hS (by exact Nat.le_of_ble_eq_true rfl) d_F_loan_28 (fun r_11 H locs er_11 hP hS => ?_)
        refine lv_if_ne (tgt := 36) hx hb d_F_loan_31 (by decide) (fun c_12 => ?_) (fun c_12 => ?_)
        · have t_11 := bi_n0.mp (er_11 ▸ c_12)
          refine lv_aload_n hx hb d_F_loan_36 rfl (lv_at hl 1 rfl) ?_
          refine g_F_21 X hb hP h0 rfl d_F_loan_37 ?_
          refine lv_iload_n hx hb d_F_loan_40 rfl (lv_at hl 2 rfl) ?_
          refine n_aald X hb hP 4 h3 rfl ⟨hi, by decide⟩ d_F_loan_41 ?_
          refine lv_topq (fun ey_13 => ?_) (fun y_13 ey_13 => ?_)
          · have hno : (sIT σ i).isNone = true := by have h := h3f i hi; rw [ey_13] at h; cases hq : sIT σ i with | none => rfl | some z => (rw [hq] at h; cases h)
            refine lv_ifnonnullN hx hb d_F_loan_42 ?_
            refine lv_aload_n hx hb d_F_loan_45 rfl (lv_at hl 1 rfl) ?_
            refine g_F_93 X hb hP h0 rfl d_F_loan_46 ?_
            refine lv_bipush (v := 120) hx hb d_F_loan_49 (by decide) ?_
            refine lv_icmp_lt (tgt := 56) hx hb d_F_loan_51 (by decide) (fun c_14 => ?_) (fun c_14 => ?_)
            · have hlt : sNL σ < 120 := (nI_ltI (b := 120) (by omega) (by decide)).mp c_14
              refine nw_F_15 X hb hP hS ⟨Nat.le_of_ble_eq_true rfl, Nat.le_of_ble_eq_true rfl⟩ d_F_loan_56 (fun q_15 H hq_15 hP hS => ?_)
              have he_16 := up_at (o := some (.inr (4, [.int 0, .int 0, .null, .long 0, .null, .int 0]))) h0 (hw_new h0 hq_15)
              have he_17 := up_at (o := some (.inr (4, [.int 0, .int 0, .null, .long 0, .null, .int 0]))) h2 (hw_new h2 hq_15)
              have he_18 := up_at (o := some (.inr (4, [.int 0, .int 0, .null, .long 0, .null, .int 0]))) h3 (hw_new h3 hq_15)
              have he_19 := va_up_self g q_15 (some (.inr (4, [.int 0, .int 0, .null, .long 0, .null, .int 0]) : va_E))
              have hP : hw D vwCl A (va_up g q_15 (some (.inr (4, [.int 0, .int 0, .null, .long 0, .null, .int 0])))) H := hP
              refine lv_dup hx hb d_F_loan_59 rfl ?_
              refine lv_iload_n hx hb d_F_loan_60 rfl (lv_at hl 2 rfl) ?_
              refine lv_iload_n hx hb d_F_loan_61 rfl (lv_at hl 3 rfl) ?_
              refine lv_aload hx hb d_F_loan_62 (lv_at hl 0 rfl) ?_
              refine lv_lload hx hb d_F_loan_64 (lv_at hl 5 rfl) ?_
              refine k_F_96 X ⟨Nat.le_of_ble_eq_true rfl, Nat.le_of_ble_eq_true rfl⟩ ⟨Nat.le_of_ble_eq_true rfl, Nat.le_of_ble_eq_true rfl⟩ hl.1 hP hS he_19 (by exact Nat.le_of_ble_eq_true rfl) d_F_loan_66 (fun H locs hP hS => ?_)
              rw [bx_uu] at hP
              have he_21 := up_at (o := some (cLo (nI i) (nI pn) (aR k) d none 0)) h0 (hw_new h0 hq_15)
              have he_22 := up_at (o := some (cLo (nI i) (nI pn) (aR k) d none 0)) h2 (hw_new h2 hq_15)
              have he_23 := up_at (o := some (cLo (nI i) (nI pn) (aR k) d none 0)) h3 (hw_new h3 hq_15)
              have he_24 := va_up_self g q_15 (some (cLo (nI i) (nI pn) (aR k) d none 0 : va_E))
              have hP : hw D vwCl A (va_up g q_15 (some (cLo (nI i) (nI pn) (aR k) d none 0))) H := hP
              refine lv_astore (lv' := [(7, .ref q_15), (6, .ref (aR k)), (0, .ref (ad 0)), (1, .int (nI i)), (2, .int (nI pn)), (3, .int (nI k)), (4, .long d)]) hx hb d_F_loan_69 hl (by decide) rfl (fun ls hl => ?_)
              refine lv_aload_n hx hb d_F_loan_71 rfl (lv_at hl 2 rfl) ?_
              refine g_F_21 X hb hP he_21 rfl d_F_loan_72 ?_
              refine lv_iload_n hx hb d_F_loan_75 rfl (lv_at hl 3 rfl) ?_
              refine lv_aload hx hb d_F_loan_76 (lv_at hl 0 rfl) ?_
              refine n_aast X hb hP hS 4 4 he_23 rfl he_24 rfl ⟨hi, by decide⟩ d_F_loan_78 (fun H locs hP hS => ?_)
              have he_25 := up_at (o := some (arQ t 4 60 (va_up fI i (some q_15)))) he_21 (hw_kd he_21 he_23 rfl)
              have he_26 := up_at (o := some (arQ t 4 60 (va_up fI i (some q_15)))) he_22 (hw_kd he_22 he_23 rfl)
              have he_27 := up_at (o := some (arQ t 4 60 (va_up fI i (some q_15)))) he_24 (hw_kd he_24 he_23 rfl)
              have he_28 := va_up_self (va_up g q_15 (some (cLo (nI i) (nI pn) (aR k) d none 0))) (ad 3) (some (arQ t 4 60 (va_up fI i (some q_15)) : va_E))
              have hP : hw D vwCl A (va_up (va_up g q_15 (some (cLo (nI i) (nI pn) (aR k) d none 0))) (ad 3) (some (arQ t 4 60 (va_up fI i (some q_15))))) H := hP
              refine lv_aload_n hx hb d_F_loan_79 rfl (lv_at hl 2 rfl) ?_
              refine g_F_17 X hb hP he_25 rfl d_F_loan_80 ?_
              refine lv_aload_n hx hb d_F_loan_83 rfl (lv_at hl 2 rfl) ?_
              refine g_F_93 X hb hP he_25 rfl d_F_loan_84 ?_
              refine lv_aload hx hb d_F_loan_87 (lv_at hl 0 rfl) ?_
              refine n_aast X hb hP hS 4 4 he_26 rfl he_27 rfl ⟨hlt, by decide⟩ d_F_loan_89 (fun H locs hP hS => ?_)
              have he_29 := up_at (o := some (arQ t 4 120 (va_up fL (sNL σ) (some q_15)))) he_25 (hw_kd he_25 he_26 rfl)
              have he_30 := up_at (o := some (arQ t 4 120 (va_up fL (sNL σ) (some q_15)))) he_27 (hw_kd he_27 he_26 rfl)
              have he_31 := up_at (o := some (arQ t 4 120 (va_up fL (sNL σ) (some q_15)))) he_28 (hw_kd he_28 he_26 rfl)
              have he_32 := va_up_self (va_up (va_up g q_15 (some (cLo (nI i) (nI pn) (aR k) d none 0))) (ad 3) (some (arQ t 4 60 (va_up fI i (some q_15))))) (ad 2) (some (arQ t 4 120 (va_up fL (sNL σ) (some q_15)) : va_E))
              have hP : hw D vwCl A (va_up (va_up (va_up g q_15 (some (cLo (nI i) (nI pn) (aR k) d none 0))) (ad 3) (some (arQ t 4 60 (va_up fI i (some q_15))))) (ad 2) (some (arQ t 4 120 (va_up fL (sNL σ) (some q_15))))) H := hP
              refine lv_aload_n hx hb d_F_loan_90 rfl (lv_at hl 2 rfl) ?_
              refine lv_dup hx hb d_F_loan_91 rfl ?_
              refine g_F_93 X hb hP he_29 rfl d_F_loan_92 ?_
              refine lv_iconst (v := 1) hx hb d_F_loan_95 (by decide) ?_
              refine lv_iadd hx hb d_F_loan_96 ?_
              refine lv_topi (fun x_33 ex_33 => ?_)
              refine p_F_93 X hb hP hS he_29 (Nat.le_of_ble_eq_true rfl) d_F_loan_97 (fun H locs hP hS => ?_)
              have he_34 := up_at (o := some (.inr (0, [.ref (ad 1), .int (nI (sNR σ)), .ref (ad 2), .int x_33, .ref (ad 3), .ref (ad 4), .ref (ad 5), .ref (ad 6), .int (sTH σ)]))) he_30 (hw_kd he_30 he_29 rfl)
              have he_35 := up_at (o := some (.inr (0, [.ref (ad 1), .int (nI (sNR σ)), .ref (ad 2), .int x_33, .ref (ad 3), .ref (ad 4), .ref (ad 5), .ref (ad 6), .int (sTH σ)]))) he_31 (hw_kd he_31 he_29 rfl)
              have he_36 := up_at (o := some (.inr (0, [.ref (ad 1), .int (nI (sNR σ)), .ref (ad 2), .int x_33, .ref (ad 3), .ref (ad 4), .ref (ad 5), .ref (ad 6), .int (sTH σ)]))) he_32 (hw_kd he_32 he_29 rfl)
              have he_37 := va_up_self (va_up (va_up (va_up g q_15 (some (cLo (nI i) (nI pn) (aR k) d none 0))) (ad 3) (some (arQ t 4 60 (va_up fI i (some q_15))))) (ad 2) (some (arQ t 4 120 (va_up fL (sNL σ) (some q_15))))) (ad 0) (some (.inr (0, [.ref (ad 1), .int (nI (sNR σ)), .ref (ad 2), .int x_33, .ref (ad 3), .ref (ad 4), .ref (ad 5), .ref (ad 6), .int (sTH σ)]) : va_E))
              have hP : hw D vwCl A (va_up (va_up (va_up (va_up g q_15 (some (cLo (nI i) (nI pn) (aR k) d none 0))) (ad 3) (some (arQ t 4 60 (va_up fI i (some q_15))))) (ad 2) (some (arQ t 4 120 (va_up fL (sNL σ) (some q_15))))) (ad 0) (some (.inr (0, [.ref (ad 1), .int (nI (sNR σ)), .ref (ad 2), .int x_33, .ref (ad 3), .ref (ad 4), .ref (ad 5), .ref (ad 6), .int (sTH σ)])))) H := hP
              obtain rfl : x_33 = nI (sNL σ + 1) := by rw [ex_33]; exact nI_1 _
              refine lv_aload_n hx hb d_F_loan_100 rfl (lv_at hl 2 rfl) ?_
              refine g_F_93 X hb hP he_37 rfl d_F_loan_101 ?_
              have e9 : spLoan σ (nI i) (nI pn) (nI k) d = (nI (sNL σ + 1), (σ.1, (sNL σ + 1, va_up (sLV σ) (sNL σ) (i, pn, k, d, 1, 0)), σ.2.2.1, σ.2.2.2.1, σ.2.2.2.2.1, sTH σ, va_up (sIT σ) i (some (sNL σ)))) := by simp [spLoan, hwk, t_7, t_9, t_11, hno, hlt, nI_k0 (show i < 1000000 by omega), nI_k0 (show pn < 1000000 by omega), nI_k0 (show k < 1000000 by omega)]
              exact h_iret hx hb hr hlocks (Nat.le_of_ble_eq_true rfl) (Nat.le_of_ble_eq_true rfl) hP hS (⟨by rw [e9], by rw [e9]; exact ⟨_, _, _, _, _, _, _, _, RC.loanNew hRc q_15 i pn k d hq_15 hV hi⟩, Keep.up (Keep.up (Keep.up (Keep.up Keep.rf (Or.inr hq_15)) (Or.inl (f0 3 (by decide)))) (Or.inl (f0 2 (by decide)))) (Or.inl (f0 0 (by decide)))⟩) d_F_loan_104
            · have hlt : ¬ sNL σ < 120 := fun q => c_14 (nI_lt (b := 120) q (by decide))
              refine lv_iconst (v := 0) hx hb d_F_loan_54 (by decide) ?_
              have e9 : spLoan σ (nI i) (nI pn) (nI k) d = (0, σ) := by simp [spLoan, nI_k0, hwk, t_7, t_9, t_11, hno, hlt, nI_k0 (show i < 1000000 by omega)]
              exact h_iret hx hb hr hlocks (Nat.le_of_ble_eq_true rfl) (Nat.le_of_ble_eq_true rfl) hP hS (⟨by rw [e9], by rw [e9]; exact hRx.mono (fun _ h => Or.inl h), Keep.rf⟩) d_F_loan_55
          · have hno : (sIT σ i).isNone = false := by have h := h3f i hi; rw [ey_13] at h; cases hq : sIT σ i with | none => (rw [hq] at h; cases h) | some z => rfl
            refine lv_ifnonnull (tgt := 54) hx hb d_F_loan_42 (by decide) ?_
            refine lv_iconst (v := 0) hx hb d_F_loan_54 (by decide) ?_
            have e9 : spLoan σ (nI i) (nI pn) (nI k) d = (0, σ) := by simp [spLoan, nI_k0, hwk, t_7, t_9, t_11, hno, nI_k0 (show i < 1000000 by omega)]
            exact h_iret hx hb hr hlocks (Nat.le_of_ble_eq_true rfl) (Nat.le_of_ble_eq_true rfl) hP hS (⟨by rw [e9], by rw [e9]; exact hRx.mono (fun _ h => Or.inl h), Keep.rf⟩) d_F_loan_55
        · have t_11 := bi_0.mp (er_11 ▸ c_12)
          refine lv_iconst (v := 0) hx hb d_F_loan_34 (by decide) ?_
          have e9 : spLoan σ (nI i) (nI pn) (nI k) d = (0, σ) := by simp [spLoan, nI_k0, hwk, t_7, t_9, t_11]
          exact h_iret hx hb hr hlocks (Nat.le_of_ble_eq_true rfl) (Nat.le_of_ble_eq_true rfl) hP hS (⟨by rw [e9], by rw [e9]; exact hRx.mono (fun _ h => Or.inl h), Keep.rf⟩) d_F_loan_35
theorem k_W_40 {p : Program} {l : Launch} {e : Env} {R : Room} {s : State} {m : MethodId} {args : Array Value} {below : List Frame} {meth : Method} {c : Code} {H : Heap} {locs : List Loc} {cells slots : Nat} {Q : State → Prop} {cc : ByteArray} {pc : Nat} {ls : Array Slot} {rest : List Value} {D : va_G} {A : Nat → Prop} {t : Nat → ClassId} {g : hG} {nL : Nat} {ret0 : Option FieldType} {nm : String} (X : Cx p s m args meth c R_W cc nL ret0 TB D vwCl (tyL t) EX A nm) (hR : 2 + 1 ≤ R.frames ∧ 8 + (8 + 11) + 49 ≤ R.locals) (hf : cells + 1 ≤ R.cells ∧ slots + 6 ≤ R.slots) (hls : ls.size = nL) (hP : hw D vwCl A g H) (hS : va_S A s.heap H locs) {F : Nat → Prop} {ad : Nat → Nat} {σ : SS} {x y z : Int32} {d : Int64} {fs9 : List Value} (he9 : g (ad 0) = some (.inr (0, fs9))) (hRx : RCx F t ad σ g) (hV : Inv σ) (hW : (rest.map fun v => v.category).sum ≤ 8) (hdg : decode cc pc = .ok (.invokevirtual 40, 3)) (kk : ∀ (r : Int32) (u : hG) (H1 : Heap) (locs1 : List Loc), ((fun r u => r = (spLoan σ x y z d).1 ∧ RCx (gr F g) t ad (spLoan σ x y z d).2 u ∧ Keep F g u) r u) → hw D vwCl A u H1 → va_S A s.heap H1 locs1 → W p l e R s m args below meth c H1 locs1 (cells + 1) (slots + 6) Q (F0 m (pc + 3) ls (.int r :: rest))) : W p l e R s m args below meth c H locs cells slots Q (F0 m pc ls (.long d :: .int z :: .int y :: .int x :: .ref (ad 0) :: rest)) :=
  h_ci (runV (C := R_F) (T := F_F) (N := 9) X (c_F_loan l D t A g F ad σ x y z d hRx hV) (tbm 154 (by decide +kernel)) (tbm 155 (by decide +kernel)) (tbm 156 (by decide +kernel)) (tbm 20 (by decide +kernel)) (tbm 157 (by decide +kernel)) rfl (n := 4) (by decide +kernel) hR hf hP he9 hS hls rfl rfl hW hdg) hS kk
