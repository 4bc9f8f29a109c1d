set_option maxHeartbeats 4000000 in
set_option maxRecDepth 100000 in
theorem lp_F_pay {p : Program} {l : Launch} {e : Env} {s : State} {m : MethodId} {below : List Frame} {meth : Method} {c : Code} {D : va_G} {t : Nat → ClassId} {A : Nat → Prop} (g : hG) (F : Nat → Prop) (ad aR aL aD : Nat → Nat) (fR fL fI fN fB : Nat → Option Nat) (σ : SS) (q cc0 : Nat) (y : Int32) (PO : Int32 → hG → Prop) (hV : Inv σ) (hq : q < 30) (hB : sKR σ q + cc0 < 4611686018427387904) (hPO : ∀ G, RC F t G ad aR aL aD fR fL fI fN fB (stK (pyS σ (payF σ q cc0 (sND σ)).2.2) q (payF σ q cc0 (sND σ)).1) → Keep F g G → PO (nI (payF σ q cc0 (sND σ)).2.1) G) (X : Cx p s m ([.ref (ad 0), .int (nI q), .int y] : List Value).toArray meth c R_F b_F_pay 8 (some .int) TB D vwCl (tyL t) EX A "pay") : ∀ (k : Nat) (i pu sv : Nat) (dv : Nat → DV) (G : hG) (H : Heap) (locs : List Loc) (ls : Array Slot) (_ : i ≤ sND σ) (_ : sND σ + 1 ≤ i + k) (_ : payF σ q cc0 i = (pu, sv, dv)) (_ : RC F t G ad aR aL aD fR fL fI fN fB (pyS σ dv)) (_ : Keep F g G) (_ : hw D vwCl A G H) (_ : va_S A s.heap H locs) (_ : lv_has ls 8 [(6, .int (nI i)), (5, .int (nI sv)), (3, .long (lN pu)), (0, .ref (ad 0)), (1, .int (nI q)), (2, .int y)]), W p l e ({ frames := 2, cells := 0, slots := 0, locals := 48 } : Room) s m ([.ref (ad 0), .int (nI q), .int y] : List Value).toArray below meth c H locs 0 0 (MQ below (va_Qi (PO) (fun u v => hw D vwCl A u v.heap) A) ([.ref (ad 0), .int (nI q), .int y] : List Value).toArray s 0 0 A) (F0 m 35 ls []) := by
  obtain ⟨hx, hb, hml, hr, hts, hown, hlocks, hK, hEs, hA, hnm⟩ := id X
  intro k
  induction k with
  | zero => exact fun i pu sv dv G H locs ls h1 h2 => absurd h2 (by omega)
  | succ k ih =>
    intro i pu sv dv G H locs ls hi hk hpf hRi hKi hP hS hl
    have hV1 : Inv (pyS σ dv) := by have h9 := payF_inv hV (q := q) (c := cc0) i hi; rw [hpf] at h9; exact h9
    have hpu : pu < 4611686018427387904 := by have h9 := (payF_b (σ := σ) (q := q) (c := cc0) i).1; rw [hpf] at h9; exact Nat.lt_of_le_of_lt h9 hB
    have hn3 := hV.1.2.2.1
    obtain ⟨b0, ⟨b1, b1f⟩, ⟨b2, b2f⟩, ⟨b3, b3f⟩, b4, b5, b6, ⟨b7, b7f⟩, ⟨b8, b8f⟩, b9, bRr, bLl, bDd, b78, -, bf0, -, bf2, bf3⟩ := id hRi
    refine lv_iload hx hb d_F_pay_35 (lv_at hl 0 rfl) ?_
    refine lv_aload_n hx hb d_F_pay_37 rfl (lv_at hl 3 rfl) ?_
    refine g_F_27 X hb hP b0 rfl d_F_pay_38 ?_
    refine g_F_148 X hb hP b4 rfl d_F_pay_41 ?_
    refine lv_icmp_ge (tgt := 106) hx hb d_F_pay_44 (by decide) (fun c_1 => ?_) (fun c_1 => ?_)
    · refine lv_aload_n hx hb d_F_pay_106 rfl (lv_at hl 3 rfl) ?_
      refine g_F_38 X hb hP b0 rfl d_F_pay_107 ?_
      refine lv_iload_n hx hb d_F_pay_110 rfl (lv_at hl 4 rfl) ?_
      refine lv_lload_n hx hb d_F_pay_111 rfl (lv_at hl 2 rfl) ?_
      refine n_last X hb hP hS b6 ⟨hq, by decide⟩ d_F_pay_112 (fun H locs hP hS => ?_)
      have he_2 := up_at (o := some (arJ t 30 (va_up (fun i => lN (sKR σ i)) q (lN pu)))) b0 (hw_kd b0 b6 rfl)
      have he_3 := up_at (o := some (arJ t 30 (va_up (fun i => lN (sKR σ i)) q (lN pu)))) b4 (hw_kd b4 b6 rfl)
      have he_4 := va_up_self G (ad 6) (some (arJ t 30 (va_up (fun i => lN (sKR σ i)) q (lN pu)) : va_E))
      have hP : hw D vwCl A (va_up G (ad 6) (some (arJ t 30 (va_up (fun i => lN (sKR σ i)) q (lN pu))))) H := hP
      refine lv_iload hx hb d_F_pay_113 (lv_at hl 1 rfl) ?_
      have hfi : payF σ q cc0 (sND σ) = (pu, sv, dv) := by rw [show sND σ = i from Nat.le_antisymm ((nI_leI (by omega) (by omega)).mp c_1) hi]; exact hpf
      exact h_iret hx hb hr hlocks (Nat.le_of_ble_eq_true rfl) (Nat.le_of_ble_eq_true rfl) hP hS (by rw [hfi] at hPO; exact hPO _ (RC.credit hRi q pu) (Keep.up hKi (Or.inl (bf0 6 (by decide))))) d_F_pay_115
    · have hlt : i < sND σ := Nat.lt_of_not_le (fun z => c_1 (nI_le z (by omega)))
      have hod := hV.2.2.2.2.2.1 i hlt
      have hlf : (dv (sOD σ i)).2.2.1 < 4611686018427387904 := by have h1 := (hV1.2.2.2.1 _ hod).2; have h2 : (dv (sOD σ i)).2.1 ≤ 10000000 := h1.1; have h3 : (dv (sOD σ i)).2.2.1 + (dv (sOD σ i)).2.2.2.1 ≤ (dv (sOD σ i)).2.1 := h1.2; omega
      refine lv_lload_n hx hb d_F_pay_47 rfl (lv_at hl 2 rfl) ?_
      refine lv_lconst (v := 0) hx hb d_F_pay_48 (by decide) ?_
      refine W.lcmp hx hb d_F_pay_49 ?_
      refine lv_if_le (tgt := 106) hx hb d_F_pay_50 (by decide) (fun c_5 => ?_) (fun c_5 => ?_)
      · rw [lg_cmp_le] at c_5
        refine lv_aload_n hx hb d_F_pay_106 rfl (lv_at hl 3 rfl) ?_
        refine g_F_38 X hb hP b0 rfl d_F_pay_107 ?_
        refine lv_iload_n hx hb d_F_pay_110 rfl (lv_at hl 4 rfl) ?_
        refine lv_lload_n hx hb d_F_pay_111 rfl (lv_at hl 2 rfl) ?_
        refine n_last X hb hP hS b6 ⟨hq, by decide⟩ d_F_pay_112 (fun H locs hP hS => ?_)
        have he_6 := up_at (o := some (arJ t 30 (va_up (fun i => lN (sKR σ i)) q (lN pu)))) b0 (hw_kd b0 b6 rfl)
        have he_7 := up_at (o := some (arJ t 30 (va_up (fun i => lN (sKR σ i)) q (lN pu)))) b4 (hw_kd b4 b6 rfl)
        have he_8 := va_up_self G (ad 6) (some (arJ t 30 (va_up (fun i => lN (sKR σ i)) q (lN pu)) : va_E))
        have hP : hw D vwCl A (va_up G (ad 6) (some (arJ t 30 (va_up (fun i => lN (sKR σ i)) q (lN pu))))) H := hP
        refine lv_iload hx hb d_F_pay_113 (lv_at hl 1 rfl) ?_
        have hfi : payF σ q cc0 (sND σ) = (pu, sv, dv) := by have h9 := payF_z hpf (lN_le0 hpu c_5) (sND σ - i); rw [show i + (sND σ - i) = sND σ by omega] at h9; exact h9
        exact h_iret hx hb hr hlocks (Nat.le_of_ble_eq_true rfl) (Nat.le_of_ble_eq_true rfl) hP hS (by rw [hfi] at hPO; exact hPO _ (RC.credit hRi q pu) (Keep.up hKi (Or.inl (bf0 6 (by decide))))) d_F_pay_115
      · rw [lg_cmp_le] at c_5
        refine lv_aload_n hx hb d_F_pay_53 rfl (lv_at hl 3 rfl) ?_
        refine g_F_27 X hb hP b0 rfl d_F_pay_54 ?_
        refine lv_iload hx hb d_F_pay_57 (lv_at hl 0 rfl) ?_
        refine k_F_149 X ⟨Nat.le_of_ble_eq_true rfl, Nat.le_of_ble_eq_true rfl⟩ ⟨Nat.le_of_ble_eq_true rfl, Nat.le_of_ble_eq_true rfl⟩ hl.1 hP hS b4 b4 b8 hn3 (by exact Nat.le_of_ble_eq_true rfl) d_F_pay_59 (fun r_9 H locs er_9 hP hS => ?_)
        refine lv_some (y := (aD (sOD σ i))) (er_9.trans ((ordQ_at (by omega) hlt).trans (b8f i hlt))) ?_
        refine lv_astore (lv' := [(7, .ref (aD (sOD σ i))), (6, .int (nI i)), (5, .int (nI sv)), (3, .long (lN pu)), (0, .ref (ad 0)), (1, .int (nI q)), (2, .int y)]) hx hb d_F_pay_62 hl (by decide) rfl (fun ls hl => ?_)
        refine lv_aload hx hb d_F_pay_64 (lv_at hl 0 rfl) ?_
        refine lv_ifnull hx hb d_F_pay_66 ?_
        refine lv_aload hx hb d_F_pay_69 (lv_at hl 0 rfl) ?_
        refine g_F_152 X hb hP (bDd _ hod) rfl d_F_pay_71 ?_
        refine lv_iload_n hx hb d_F_pay_74 rfl (lv_at hl 5 rfl) ?_
        refine lv_icmp_ne (tgt := 100) hx hb d_F_pay_75 (by decide) (fun c_11 => ?_) (fun c_11 => ?_)
        · obtain ⟨x_12, ex_12⟩ : ∃ z : Int32, z = (nI i) + 1 := ⟨_, rfl⟩
          refine lv_iinc (v := x_12) (lv' := [(6, .int x_12), (7, .ref (aD (sOD σ i))), (5, .int (nI sv)), (3, .long (lN pu)), (0, .ref (ad 0)), (1, .int (nI q)), (2, .int y)]) hx hb d_F_pay_100 hl (k := 1) rfl (by rw [ex_12]; rfl) (by decide) rfl (fun ls hl => ?_)
          refine lv_goto (tgt := 35) hx hb d_F_pay_103 (by decide) ?_
          obtain rfl : x_12 = nI (i + 1) := by rw [ex_12]; exact nI_1 i
          exact ih (i + 1) pu sv dv G H locs ls (by omega) (by omega) (payF_n hpf (fun z => c_11 (by show nI (sLV σ (dv (sOD σ i)).1).2.1 = nI q; rw [show (sLV σ (dv (sOD σ i)).1).2.1 = q from z.1]))) hRi hKi hP hS (lv_sub hl [0, 2, 3, 4, 5, 6] rfl)
        · refine lv_aload hx hb d_F_pay_78 (lv_at hl 0 rfl) ?_
          refine g_F_138 X hb hP (bDd _ hod) rfl d_F_pay_80 ?_
          refine lv_lconst (v := 0) hx hb d_F_pay_83 (by decide) ?_
          refine W.lcmp hx hb d_F_pay_84 ?_
          refine lv_if_le (tgt := 100) hx hb d_F_pay_85 (by decide) (fun c_13 => ?_) (fun c_13 => ?_)
          · rw [lg_cmp_le] at c_13
            obtain ⟨x_14, ex_14⟩ : ∃ z : Int32, z = (nI i) + 1 := ⟨_, rfl⟩
            refine lv_iinc (v := x_14) (lv' := [(6, .int x_14), (7, .ref (aD (sOD σ i))), (5, .int (nI sv)), (3, .long (lN pu)), (0, .ref (ad 0)), (1, .int (nI q)), (2, .int y)]) hx hb d_F_pay_100 hl (k := 1) rfl (by rw [ex_14]; rfl) (by decide) rfl (fun ls hl => ?_)
            refine lv_goto (tgt := 35) hx hb d_F_pay_103 (by decide) ?_
            obtain rfl : x_14 = nI (i + 1) := by rw [ex_14]; exact nI_1 i
            exact ih (i + 1) pu sv dv G H locs ls (by omega) (by omega) (payF_n hpf (fun z => by have h0 := lN_le0 hlf c_13; have h1 : 0 < (dv (sOD σ i)).2.2.1 := z.2.2; omega)) hRi hKi hP hS (lv_sub hl [0, 2, 3, 4, 5, 6] rfl)
          · rw [lg_cmp_le] at c_13
            refine lv_lload_n hx hb d_F_pay_88 rfl (lv_at hl 3 rfl) ?_
            refine lv_aload hx hb d_F_pay_89 (lv_at hl 0 rfl) ?_
            refine lv_lload_n hx hb d_F_pay_91 rfl (lv_at hl 3 rfl) ?_
            refine k_F_153 X ⟨Nat.le_of_ble_eq_true rfl, Nat.le_of_ble_eq_true rfl⟩ ⟨Nat.le_of_ble_eq_true rfl, Nat.le_of_ble_eq_true rfl⟩ hl.1 hP hS (bDd _ hod) (bDd _ hod) (by exact Nat.le_of_ble_eq_true rfl) d_F_pay_92 (fun r_15 H locs er_15 hP hS => ?_)
            have hP : hw D vwCl A (va_up G (aD (sOD σ i)) (some (cDv (dcOf aR (sLV σ) (pyT (dv (sOD σ i)) pu))))) H := by rw [← take_cell hpu hlf]; exact hP
            have hr9 : r_15 = lN (min pu (dv (sOD σ i)).2.2.1) := er_15.trans (mnJ_N hpu hlf)
            refine lv_lsub hx hb d_F_pay_95 ?_
            refine lv_topl (fun x_16 ex_16 => ?_)
            refine lv_lstore_n (lv' := [(3, .long x_16), (7, .ref (aD (sOD σ i))), (6, .int (nI i)), (5, .int (nI sv)), (0, .ref (ad 0)), (1, .int (nI q)), (2, .int y)]) hx hb d_F_pay_96 rfl hl (by decide) rfl (fun ls hl => ?_)
            obtain ⟨x_17, ex_17⟩ : ∃ z : Int32, z = (nI sv) + 1 := ⟨_, rfl⟩
            refine lv_iinc (v := x_17) (lv' := [(5, .int x_17), (3, .long x_16), (7, .ref (aD (sOD σ i))), (6, .int (nI i)), (0, .ref (ad 0)), (1, .int (nI q)), (2, .int y)]) hx hb d_F_pay_97 hl (k := 3) rfl (by rw [ex_17]; rfl) (by decide) rfl (fun ls hl => ?_)
            obtain ⟨x_18, ex_18⟩ : ∃ z : Int32, z = (nI i) + 1 := ⟨_, rfl⟩
            refine lv_iinc (v := x_18) (lv' := [(6, .int x_18), (5, .int x_17), (3, .long x_16), (7, .ref (aD (sOD σ i))), (0, .ref (ad 0)), (1, .int (nI q)), (2, .int y)]) hx hb d_F_pay_100 hl (k := 3) rfl (by rw [ex_18]; rfl) (by decide) rfl (fun ls hl => ?_)
            refine lv_goto (tgt := 35) hx hb d_F_pay_103 (by decide) ?_
            obtain rfl : x_18 = nI (i + 1) := by rw [ex_18]; exact nI_1 i
            obtain rfl : x_17 = nI (sv + 1) := by rw [ex_17]; exact nI_1 sv
            obtain rfl : x_16 = lN (pu - min pu (dv (sOD σ i)).2.2.1) := by rw [ex_16, hr9, lN_sub (Nat.min_le_left _ _)]
            have hper : (sLV σ (dv (sOD σ i)).1).2.1 = q := (nI_eq (by have h9 : (sLV σ (dv (sOD σ i)).1).2.1 < 30 := (hV.2.2.1 _ (hV1.2.2.2.1 _ hod).1).2.1; omega) (by omega)).mp c_11
            have hcc : pyC σ q (pu, sv, dv) (sOD σ i) := ⟨hper, Nat.pos_of_ne_zero (fun z => c_5 (by rw [show pu = 0 from z]; decide)), Nat.pos_of_ne_zero (fun z => c_13 (by show lN (dv (sOD σ i)).2.2.1 ≤ 0; rw [z]; decide))⟩
            exact ih (i + 1) _ _ _ _ H locs ls (by omega) (by omega) (payF_y hpf hcc) (RC.debt hRi (sOD σ i) (pyT (dv (sOD σ i)) pu) hod) (Keep.up hKi (Or.inl (bf3 _ hod))) hP hS (lv_sub hl [0, 1, 2, 4, 5, 6] rfl)

set_option maxHeartbeats 4000000 in
set_option maxRecDepth 100000 in
theorem c_F_pay (l : Launch) (D : va_G) (t : Nat → ClassId) (A : Nat → Prop) (g : hG) (F : Nat → Prop) (ad : Nat → Nat) (σ : SS) (x y : Int32) (hRx : RCx F t ad σ g) (hV : Inv σ) (hKB : ∀ i, i < 30 → sKR σ i ≤ 1000000000000) : Met l y_F_pay (Cond.code y_F_pay b_F_pay 8 (some .int) :: TB) ({ frames := 2, cells := 0, slots := 0, locals := 48 } : Room) (va_Pc [.ref (ad 0), .int x, .int y] (hI D vwCl (tyL t) EX A g)) (va_Qi (fun r u => ∃ σ2, spPay σ x y (r, σ2) ∧ RCx (gr F g) t ad σ2 u ∧ Keep F g u) (fun u v => hw D vwCl A u v.heap) A) 0 0 A := by
  refine Met.ofH (cc := b_F_pay) (maxL := 8) (ret := (some .int)) (lv := [(0, .ref (ad 0)), (1, .int x), (2, .int y)]) (by decide) (Nat.le_of_ble_eq_true rfl) rfl ?_
  intro p e s m below meth c ls X hP hS hl
  obtain ⟨hx, hb, hml, hr, hts, hown, hlocks, hK, hEs, hA, hnm⟩ := id X
  obtain ⟨aR, aL, aD, fR, fL, fI, fN, fB, hRc⟩ := id hRx
  obtain ⟨h0, ⟨h1, h1f⟩, ⟨h2, h2f⟩, ⟨h3, h3f⟩, h4, h5, h6, ⟨h7, h7f⟩, ⟨h8, h8f⟩, h9, hRr, hLl, hDd, h78, ⟨iR, iL, iD⟩, f0, f1, f2, f3⟩ := id hRc
  have hn1 := hV.1.1
  have hn2 := hV.1.2.1
  have hn3 := hV.1.2.2.1
  have hn4 := hV.1.2.2.2
  refine lv_iload_n hx hb d_F_pay_0 rfl (lv_at hl 1 rfl) ?_
  refine k_F_90 X ⟨Nat.le_of_ble_eq_true rfl, Nat.le_of_ble_eq_true rfl⟩ ⟨Nat.le_of_ble_eq_true rfl, Nat.le_of_ble_eq_true rfl⟩ hl.1 hP hS (by exact Nat.le_of_ble_eq_true rfl) d_F_pay_1 (fun r_1 H locs er_1 hP hS => ?_)
  refine lv_if_eq (tgt := 17) hx hb d_F_pay_4 (by decide) (fun c_2 => ?_) (fun c_2 => ?_)
  · have t_1 := bi_0.mp (er_1 ▸ c_2)
    refine lv_iconst (v := (-1)) hx hb d_F_pay_17 (by decide) ?_
    exact h_iret hx hb hr hlocks (Nat.le_of_ble_eq_true rfl) (Nat.le_of_ble_eq_true rfl) hP hS (⟨σ, by rw [spPay, if_neg (by simp [t_1])], hRx.mono (fun _ h => Or.inl h), Keep.rf⟩) d_F_pay_18
  · have t_1 := bi_n0.mp (er_1 ▸ c_2)
    obtain ⟨q, hq, rfl⟩ := wi_pl (M := 29) (n := 29) rfl (by decide) t_1
    refine lv_iload_n hx hb d_F_pay_7 rfl (lv_at hl 2 rfl) ?_
    refine lv_iconst (v := 1) hx hb d_F_pay_8 (by decide) ?_
    refine lv_ldc (v := 10000000) hx hb hown (hts _ (tbm 114 (by decide +kernel))) d_F_pay_9 ?_
    refine k_F_47 X ⟨Nat.le_of_ble_eq_true rfl, Nat.le_of_ble_eq_true rfl⟩ ⟨Nat.le_of_ble_eq_true rfl, Nat.le_of_ble_eq_true rfl⟩ hl.1 hP hS (by exact Nat.le_of_ble_eq_true rfl) d_F_pay_11 (fun r_3 H locs er_3 hP hS => ?_)
    refine lv_if_ne (tgt := 19) hx hb d_F_pay_14 (by decide) (fun c_4 => ?_) (fun c_4 => ?_)
    · have t_3 := bi_n0.mp (er_3 ▸ c_4)
      refine lv_aload_n hx hb d_F_pay_19 rfl (lv_at hl 0 rfl) ?_
      refine g_F_38 X hb hP h0 rfl d_F_pay_20 ?_
      refine lv_iload_n hx hb d_F_pay_23 rfl (lv_at hl 1 rfl) ?_
      refine n_lald X hb hP h6 ⟨hq, by decide⟩ d_F_pay_24 ?_
      refine lv_iload_n hx hb d_F_pay_25 rfl (lv_at hl 2 rfl) ?_
      refine lv_i2l hx hb d_F_pay_26 rfl ?_
      refine lv_ladd hx hb d_F_pay_27 ?_
      refine lv_topl (fun x_5 ex_5 => ?_)
      refine lv_lstore_n (lv' := [(3, .long x_5), (0, .ref (ad 0)), (1, .int (nI q)), (2, .int y)]) hx hb d_F_pay_28 rfl hl (by decide) rfl (fun ls hl => ?_)
      refine lv_iconst (v := 0) hx hb d_F_pay_29 (by decide) ?_
      refine lv_istore (lv' := [(5, .int 0), (3, .long x_5), (0, .ref (ad 0)), (1, .int (nI q)), (2, .int y)]) hx hb d_F_pay_30 hl (by decide) rfl (fun ls hl => ?_)
      refine lv_iconst (v := 0) hx hb d_F_pay_32 (by decide) ?_
      refine lv_istore (lv' := [(6, .int 0), (5, .int 0), (3, .long x_5), (0, .ref (ad 0)), (1, .int (nI q)), (2, .int y)]) hx hb d_F_pay_33 hl (by decide) rfl (fun ls hl => ?_)
      obtain ⟨c0, hc0, rfl⟩ := wi_c t_3
      obtain rfl : x_5 = lN (sKR σ q + c0) := by rw [ex_5, nI_l (by omega), lN_add]
      exact lp_F_pay g F ad aR aL aD fR fL fI fN fB σ q c0 (nI c0) _ hV (by omega) (by have := hKB q (by omega); omega) (fun G h9 h8 => by refine ⟨_, ?_, ⟨_, _, _, _, _, _, _, _, h9.mono (fun _ z => Or.inl z)⟩, h8⟩; rw [spPay, if_pos (by simp [t_1, t_3]), nI_k0 (by omega), nI_k9 hc0]) X (sND σ + 1) 0 (sKR σ q + c0) 0 (sDV σ) g _ _ ls (Nat.zero_le _) (by omega) rfl hRc Keep.rf hP hS (lv_sub hl [0, 1, 2, 3, 4, 5] rfl)
    · have t_3 := bi_0.mp (er_3 ▸ c_4)
      refine lv_iconst (v := (-1)) hx hb d_F_pay_17 (by decide) ?_
      exact h_iret hx hb hr hlocks (Nat.le_of_ble_eq_true rfl) (Nat.le_of_ble_eq_true rfl) hP hS (⟨σ, by rw [spPay, if_neg (by simp [t_1, t_3])], hRx.mono (fun _ h => Or.inl h), Keep.rf⟩) d_F_pay_18
theorem k_W_64 {p : Program} {l : Launch} {e : Env} {R : Room} {s : State} {m : MethodId} {args : Array Value} {below : List Frame} {meth : Method} {c : Code} {H : Heap} {locs : List Loc} {cells slots : Nat} {Q : State → Prop} {cc : ByteArray} {pc : Nat} {ls : Array Slot} {rest : List Value} {D : va_G} {A : Nat → Prop} {t : Nat → ClassId} {g : hG} {nL : Nat} {ret0 : Option FieldType} {nm : String} (X : Cx p s m args meth c R_W cc nL ret0 TB D vwCl (tyL t) EX A nm) (hR : 2 + 1 ≤ R.frames ∧ 8 + (8 + 11) + 48 ≤ R.locals) (hf : cells + 0 ≤ R.cells ∧ slots + 0 ≤ R.slots) (hls : ls.size = nL) (hP : hw D vwCl A g H) (hS : va_S A s.heap H locs) {F : Nat → Prop} {ad : Nat → Nat} {σ : SS} {x y : Int32} {fs9 : List Value} (he9 : g (ad 0) = some (.inr (0, fs9))) (hRx : RCx F t ad σ g) (hV : Inv σ) (hKB : ∀ i, i < 30 → sKR σ i ≤ 1000000000000) (hW : (rest.map fun v => v.category).sum ≤ 8) (hdg : decode cc pc = .ok (.invokevirtual 64, 3)) (kk : ∀ (r : Int32) (u : hG) (H1 : Heap) (locs1 : List Loc), ((fun r u => ∃ σ2, spPay σ x y (r, σ2) ∧ RCx (gr F g) t ad σ2 u ∧ Keep F g u) r u) → hw D vwCl A u H1 → va_S A s.heap H1 locs1 → W p l e R s m args below meth c H1 locs1 (cells + 0) (slots + 0) Q (F0 m (pc + 3) ls (.int r :: rest))) : W p l e R s m args below meth c H locs cells slots Q (F0 m pc ls (.int y :: .int x :: .ref (ad 0) :: rest)) :=
  h_ci (runV (C := R_F) (T := F_F) (N := 9) X (c_F_pay l D t A g F ad σ x y hRx hV hKB) (tbm 305 (by decide +kernel)) (tbm 306 (by decide +kernel)) (tbm 307 (by decide +kernel)) (tbm 20 (by decide +kernel)) (tbm 308 (by decide +kernel)) rfl (n := 2) (by decide +kernel) hR hf hP he9 hS hls rfl rfl hW hdg) hS kk
