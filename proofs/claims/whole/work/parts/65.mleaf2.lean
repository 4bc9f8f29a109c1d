theorem cB_sub (x : Int64) (c : Int32) {n : Nat} (h : n < 1000) : x - (nI n + 1).toInt64 = x - (nI n).toInt64 - 1 := by
  rw [nI_1, nI_l (by omega), nI_l (by omega), ← lN_1]
  rw [Int64.sub_eq_add_neg, Int64.sub_eq_add_neg, Int64.sub_eq_add_neg, Int64.neg_add, Int64.add_assoc, Int64.sub_eq_add_neg]
theorem cB_nat (f : Nat → Int64) (x y : Int64) : ∀ n, ∃ m, m ≤ n ∧ cB f x y n = nI m
  | 0 => ⟨0, Nat.le_refl 0, rfl⟩
  | n + 1 => by
    obtain ⟨m, h1, h2⟩ := cB_nat f x y n
    rw [cB, h2]
    split
    · exact ⟨m + 1, by omega, nI_1 m⟩
    · exact ⟨m, by omega, rfl⟩
set_option maxHeartbeats 4000000 in
set_option maxRecDepth 100000 in
theorem lp_M_late {p : Program} {l : Launch} {e : Env} {s : State} {m : MethodId} {below : List Frame} {meth : Method} {c : Code} {D : va_G} {t : Nat → ClassId} {A : Nat → Prop} (g : hG) (ma : Nat → Nat) (tv : Int32) (σ : SS) (fm : Nat → Nat → Int32) (fj : Nat → Nat → Int64) (j : Nat) (d : Int64) (hM : MC t g ma tv (nI (sNR σ)) (nI (sNL σ)) (nI (sND σ)) (nI (sNC σ)) (sTH σ) fm fj) (hR : MRel fm fj σ) (hV : Inv σ) (hj : j < sNL σ) (X : Cx p s m ([.ref (ma 0), .int (nI (j + 1)), .long d] : List Value).toArray meth c R_M b_M_late 9 (some .long) TB D vwCl (tyL t) EX A "late") : ∀ (k : Nat) (i : Nat) (b : Int64) (H : Heap) (locs : List Loc) (ls : Array Slot) (_ : i ≤ sNC σ) (_ : sNC σ + 1 ≤ i + k) (_ : b = d - (fj 12 (j + 1)) - (cB (fj 6) (fj 12 (j + 1)) d i).toInt64) (_ : hw D vwCl A g H) (_ : va_S A s.heap H locs) (_ : lv_has ls 9 [(6, .int (nI i)), (4, .long b), (0, .ref (ma 0)), (1, .int (nI (j + 1))), (2, .long d)]), W p l e ({ frames := 0, cells := 0, slots := 0, locals := 0 } : Room) s m ([.ref (ma 0), .int (nI (j + 1)), .long d] : List Value).toArray below meth c H locs 0 0 (MQ below (va_Ql (fun r u => r = lateJ σ j d ∧ u = g) (fun u v => hw D vwCl A u v.heap) A) ([.ref (ma 0), .int (nI (j + 1)), .long d] : List Value).toArray s 0 0 A) (F0 m 13 ls []) := by
  obtain ⟨hx, hb, hml, hr, hts, hown, hlocks, hK, hEs, hA, hnm⟩ := id X
  intro k
  induction k with
  | zero => exact fun i b H locs ls h1 h2 => absurd h2 (by omega)
  | succ k ih =>
    intro i b H locs ls hi hk hbt hP hS hl
    obtain ⟨hR1, hR2, hR3, hR6, hR20, hR11⟩ := id hR
    have m0 := hM.1
    have hinj := hM.2.2
    have m12 : g (ma 12) = some (arJ t 121 (fj 12)) := hM.2.1 12 (by decide) (by decide)
    have m6 : g (ma 6) = some (arJ t 100 (fj 6)) := hM.2.1 6 (by decide) (by decide)
    have m9 : g (ma 9) = some (arI t 121 (fm 9)) := hM.2.1 9 (by decide) (by decide)
    have m3 : g (ma 3) = some (arI t 10 (fm 3)) := hM.2.1 3 (by decide) (by decide)
    have m1 : g (ma 1) = some (arI t 10 (fm 1)) := hM.2.1 1 (by decide) (by decide)
    have m2 : g (ma 2) = some (arI t 10 (fm 2)) := hM.2.1 2 (by decide) (by decide)
    have hn1 := hV.1.1
    have hn2 := hV.1.2.1
    have hn3 := hV.1.2.2.1
    have hn4 := hV.1.2.2.2
    refine lv_iload hx hb d_M_late_13 (lv_at hl 0 rfl) ?_
    refine lv_aload_n hx hb d_M_late_15 rfl (lv_at hl 2 rfl) ?_
    refine g_M_97 X hb hP m0 rfl d_M_late_16 ?_
    refine lv_icmp_ge (tgt := 67) hx hb d_M_late_19 (by decide) (fun c_1 => ?_) (fun c_1 => ?_)
    · refine lv_aload_n hx hb d_M_late_67 rfl (lv_at hl 2 rfl) ?_
      refine g_M_35 X hb hP m0 rfl d_M_late_68 ?_
      refine lv_iload_n hx hb d_M_late_71 rfl (lv_at hl 3 rfl) ?_
      refine n_iald X hb hP m9 ⟨by omega, by decide⟩ d_M_late_72 ?_
      rw [(hR2 j hj).2.2.1]
      have hrl := (hV.2.2.1 j hj).2.2.1
      refine lv_istore (lv' := [(6, .int (nI (sLV σ j).2.2.1)), (4, .long b), (0, .ref (ma 0)), (1, .int (nI (j + 1))), (2, .long d)]) hx hb d_M_late_73 hl (by decide) rfl (fun ls hl => ?_)
      refine lv_lload_n hx hb d_M_late_75 rfl (lv_at hl 4 rfl) ?_
      refine lv_aload_n hx hb d_M_late_76 rfl (lv_at hl 2 rfl) ?_
      refine g_M_44 X hb hP m0 rfl d_M_late_77 ?_
      refine lv_iload_n hx hb d_M_late_80 rfl (lv_at hl 3 rfl) ?_
      refine n_lald X hb hP m12 ⟨by omega, by decide⟩ d_M_late_81 ?_
      refine W.lcmp hx hb d_M_late_82 ?_
      refine lv_if_le (tgt := 100) hx hb d_M_late_83 (by decide) (fun c_2 => ?_) (fun c_2 => ?_)
      · rw [lg_cmp_le] at c_2
        refine lv_lconst (v := 0) hx hb d_M_late_100 (by decide) ?_
        have ei : i = sNC σ := Nat.le_antisymm hi ((nI_leI (by omega) (by omega)).mp c_1)
        have hb9 : b = d - (sLV σ j).2.2.2.1 - (cB (sCD σ) (sLV σ j).2.2.2.1 d (sNC σ)).toInt64 := by rw [← hR6, ← (hR2 j hj).2.2.2.2.2, ← ei]; exact hbt
        obtain ⟨g1, g2, g3, -, -⟩ := hR1 _ hrl
        exact h_lret hx hb hr hlocks (Nat.le_of_ble_eq_true rfl) (Nat.le_of_ble_eq_true rfl) hP hS (⟨by rw [late_m hV hj hb9, if_pos (Or.inl (by rw [← (hR2 j hj).2.2.2.2.2]; exact c_2))], rfl⟩) d_M_late_101
      · rw [lg_cmp_le] at c_2
        refine lv_lload hx hb d_M_late_86 (lv_at hl 1 rfl) ?_
        refine lv_aload_n hx hb d_M_late_88 rfl (lv_at hl 2 rfl) ?_
        refine g_M_16 X hb hP m0 rfl d_M_late_89 ?_
        refine lv_iload hx hb d_M_late_92 (lv_at hl 0 rfl) ?_
        refine n_iald X hb hP m3 ⟨by omega, by decide⟩ d_M_late_94 ?_
        refine lv_i2l hx hb d_M_late_95 rfl ?_
        refine W.lcmp hx hb d_M_late_96 ?_
        refine lv_if_gt (tgt := 102) hx hb d_M_late_97 (by decide) (fun c_3 => ?_) (fun c_3 => ?_)
        · rw [lg_cmp_gt] at c_3
          refine lv_lload hx hb d_M_late_102 (lv_at hl 1 rfl) ?_
          refine lv_aload_n hx hb d_M_late_104 rfl (lv_at hl 2 rfl) ?_
          refine g_M_7 X hb hP m0 rfl d_M_late_105 ?_
          refine lv_iload hx hb d_M_late_108 (lv_at hl 0 rfl) ?_
          refine n_iald X hb hP m1 ⟨by omega, by decide⟩ d_M_late_110 ?_
          refine lv_i2l hx hb d_M_late_111 rfl ?_
          refine lv_lmul hx hb d_M_late_112 ?_
          refine lv_topl (fun x_4 ex_4 => ?_)
          refine lv_lstore (lv' := [(7, .long x_4), (6, .int (nI (sLV σ j).2.2.1)), (4, .long b), (0, .ref (ma 0)), (1, .int (nI (j + 1))), (2, .long d)]) hx hb d_M_late_113 hl (by decide) rfl (fun ls hl => ?_)
          refine lv_lload hx hb d_M_late_115 (lv_at hl 0 rfl) ?_
          refine lv_aload_n hx hb d_M_late_117 rfl (lv_at hl 3 rfl) ?_
          refine g_M_13 X hb hP m0 rfl d_M_late_118 ?_
          refine lv_iload hx hb d_M_late_121 (lv_at hl 1 rfl) ?_
          refine n_iald X hb hP m2 ⟨by omega, by decide⟩ d_M_late_123 ?_
          refine lv_i2l hx hb d_M_late_124 rfl ?_
          refine W.lcmp hx hb d_M_late_125 ?_
          refine lv_if_le (tgt := 140) hx hb d_M_late_126 (by decide) (fun c_5 => ?_) (fun c_5 => ?_)
          · rw [lg_cmp_le] at c_5
            refine lv_lload hx hb d_M_late_140 (lv_at hl 0 rfl) ?_
            have ei : i = sNC σ := Nat.le_antisymm hi ((nI_leI (by omega) (by omega)).mp c_1)
            have hb9 : b = d - (sLV σ j).2.2.2.1 - (cB (sCD σ) (sLV σ j).2.2.2.1 d (sNC σ)).toInt64 := by rw [← hR6, ← (hR2 j hj).2.2.2.2.2, ← ei]; exact hbt
            obtain ⟨g1, g2, g3, -, -⟩ := hR1 _ hrl
            exact h_lret hx hb hr hlocks (Nat.le_of_ble_eq_true rfl) (Nat.le_of_ble_eq_true rfl) hP hS (⟨by rw [late_m hV hj hb9, if_neg (fun z => z.elim (by rw [← (hR2 j hj).2.2.2.2.2]; exact c_2) (Int64.not_le.mpr (by rw [← g3]; exact c_3))), if_neg (Int64.not_lt.mpr (by rw [← g2, ← g1, ← ex_4]; exact c_5)), ex_4, g1], rfl⟩) d_M_late_142
          · rw [lg_cmp_le] at c_5
            refine lv_aload_n hx hb d_M_late_129 rfl (lv_at hl 3 rfl) ?_
            refine g_M_13 X hb hP m0 rfl d_M_late_130 ?_
            refine lv_iload hx hb d_M_late_133 (lv_at hl 1 rfl) ?_
            refine n_iald X hb hP m2 ⟨by omega, by decide⟩ d_M_late_135 ?_
            refine lv_i2l hx hb d_M_late_136 rfl ?_
            refine lv_goto (tgt := 142) hx hb d_M_late_137 (by decide) ?_
            have ei : i = sNC σ := Nat.le_antisymm hi ((nI_leI (by omega) (by omega)).mp c_1)
            have hb9 : b = d - (sLV σ j).2.2.2.1 - (cB (sCD σ) (sLV σ j).2.2.2.1 d (sNC σ)).toInt64 := by rw [← hR6, ← (hR2 j hj).2.2.2.2.2, ← ei]; exact hbt
            obtain ⟨g1, g2, g3, -, -⟩ := hR1 _ hrl
            exact h_lret hx hb hr hlocks (Nat.le_of_ble_eq_true rfl) (Nat.le_of_ble_eq_true rfl) hP hS (⟨by rw [late_m hV hj hb9, if_neg (fun z => z.elim (by rw [← (hR2 j hj).2.2.2.2.2]; exact c_2) (Int64.not_le.mpr (by rw [← g3]; exact c_3))), if_pos (by rw [← g2, ← g1, ← ex_4]; exact Int64.not_le.mp c_5), g2], rfl⟩) d_M_late_142
        · rw [lg_cmp_gt] at c_3
          refine lv_lconst (v := 0) hx hb d_M_late_100 (by decide) ?_
          have ei : i = sNC σ := Nat.le_antisymm hi ((nI_leI (by omega) (by omega)).mp c_1)
          have hb9 : b = d - (sLV σ j).2.2.2.1 - (cB (sCD σ) (sLV σ j).2.2.2.1 d (sNC σ)).toInt64 := by rw [← hR6, ← (hR2 j hj).2.2.2.2.2, ← ei]; exact hbt
          obtain ⟨g1, g2, g3, -, -⟩ := hR1 _ hrl
          exact h_lret hx hb hr hlocks (Nat.le_of_ble_eq_true rfl) (Nat.le_of_ble_eq_true rfl) hP hS (⟨by rw [late_m hV hj hb9, if_pos (Or.inr (by rw [← g3]; exact Int64.not_lt.mp c_3))], rfl⟩) d_M_late_101
    · have hlt : i < sNC σ := Nat.lt_of_not_le (fun z => c_1 (nI_le z (by omega)))
      refine lv_lload hx hb d_M_late_22 (lv_at hl 1 rfl) ?_
      refine lv_aload_n hx hb d_M_late_24 rfl (lv_at hl 2 rfl) ?_
      refine g_M_25 X hb hP m0 rfl d_M_late_25 ?_
      refine lv_iload hx hb d_M_late_28 (lv_at hl 0 rfl) ?_
      refine n_lald X hb hP m6 ⟨by omega, by decide⟩ d_M_late_30 ?_
      refine lv_aload_n hx hb d_M_late_31 rfl (lv_at hl 2 rfl) ?_
      refine g_M_44 X hb hP m0 rfl d_M_late_32 ?_
      refine lv_iload_n hx hb d_M_late_35 rfl (lv_at hl 3 rfl) ?_
      refine n_lald X hb hP m12 ⟨by omega, by decide⟩ d_M_late_36 ?_
      refine W.lcmp hx hb d_M_late_37 ?_
      refine lv_if_le (tgt := 57) hx hb d_M_late_38 (by decide) (fun c_6 => ?_) (fun c_6 => ?_)
      · rw [lg_cmp_le] at c_6
        refine lv_lconst (v := 0) hx hb d_M_late_57 (by decide) ?_
        refine lv_lsub hx hb d_M_late_58 ?_
        refine lv_topl (fun x_7 ex_7 => ?_)
        refine lv_lstore (lv' := [(4, .long x_7), (6, .int (nI i)), (0, .ref (ma 0)), (1, .int (nI (j + 1))), (2, .long d)]) hx hb d_M_late_59 hl (by decide) rfl (fun ls hl => ?_)
        obtain ⟨x_8, ex_8⟩ : ∃ z : Int32, z = (nI i) + 1 := ⟨_, rfl⟩
        refine lv_iinc (v := x_8) (lv' := [(6, .int x_8), (4, .long x_7), (0, .ref (ma 0)), (1, .int (nI (j + 1))), (2, .long d)]) hx hb d_M_late_61 hl (k := 1) rfl (by rw [ex_8]; rfl) (by decide) rfl (fun ls hl => ?_)
        refine lv_goto (tgt := 13) hx hb d_M_late_64 (by decide) ?_
        obtain rfl : x_8 = nI (i + 1) := by rw [ex_8]; exact nI_1 i
        exact ih (i + 1) x_7 H locs ls (by omega) (by omega) (by rw [ex_7, cB_no1 c_6, hbt, i64s0]) hP hS (lv_sub hl [0, 1, 2, 3, 4] rfl)
      · rw [lg_cmp_le] at c_6
        refine lv_aload_n hx hb d_M_late_41 rfl (lv_at hl 2 rfl) ?_
        refine g_M_25 X hb hP m0 rfl d_M_late_42 ?_
        refine lv_iload hx hb d_M_late_45 (lv_at hl 0 rfl) ?_
        refine n_lald X hb hP m6 ⟨by omega, by decide⟩ d_M_late_47 ?_
        refine lv_lload_n hx hb d_M_late_48 rfl (lv_at hl 4 rfl) ?_
        refine W.lcmp hx hb d_M_late_49 ?_
        refine lv_if_gt (tgt := 57) hx hb d_M_late_50 (by decide) (fun c_9 => ?_) (fun c_9 => ?_)
        · rw [lg_cmp_gt] at c_9
          refine lv_lconst (v := 0) hx hb d_M_late_57 (by decide) ?_
          refine lv_lsub hx hb d_M_late_58 ?_
          refine lv_topl (fun x_10 ex_10 => ?_)
          refine lv_lstore (lv' := [(4, .long x_10), (6, .int (nI i)), (0, .ref (ma 0)), (1, .int (nI (j + 1))), (2, .long d)]) hx hb d_M_late_59 hl (by decide) rfl (fun ls hl => ?_)
          obtain ⟨x_11, ex_11⟩ : ∃ z : Int32, z = (nI i) + 1 := ⟨_, rfl⟩
          refine lv_iinc (v := x_11) (lv' := [(6, .int x_11), (4, .long x_10), (0, .ref (ma 0)), (1, .int (nI (j + 1))), (2, .long d)]) hx hb d_M_late_61 hl (k := 1) rfl (by rw [ex_11]; rfl) (by decide) rfl (fun ls hl => ?_)
          refine lv_goto (tgt := 13) hx hb d_M_late_64 (by decide) ?_
          obtain rfl : x_11 = nI (i + 1) := by rw [ex_11]; exact nI_1 i
          exact ih (i + 1) x_10 H locs ls (by omega) (by omega) (by rw [ex_10, cB_no2 c_9, hbt, i64s0]) hP hS (lv_sub hl [0, 1, 2, 3, 4] rfl)
        · rw [lg_cmp_gt] at c_9
          refine lv_lconst (v := 1) hx hb d_M_late_53 (by decide) ?_
          refine lv_goto (tgt := 58) hx hb d_M_late_54 (by decide) ?_
          refine lv_lsub hx hb d_M_late_58 ?_
          refine lv_topl (fun x_12 ex_12 => ?_)
          refine lv_lstore (lv' := [(4, .long x_12), (6, .int (nI i)), (0, .ref (ma 0)), (1, .int (nI (j + 1))), (2, .long d)]) hx hb d_M_late_59 hl (by decide) rfl (fun ls hl => ?_)
          obtain ⟨x_13, ex_13⟩ : ∃ z : Int32, z = (nI i) + 1 := ⟨_, rfl⟩
          refine lv_iinc (v := x_13) (lv' := [(6, .int x_13), (4, .long x_12), (0, .ref (ma 0)), (1, .int (nI (j + 1))), (2, .long d)]) hx hb d_M_late_61 hl (k := 1) rfl (by rw [ex_13]; rfl) (by decide) rfl (fun ls hl => ?_)
          refine lv_goto (tgt := 13) hx hb d_M_late_64 (by decide) ?_
          obtain rfl : x_13 = nI (i + 1) := by rw [ex_13]; exact nI_1 i
          exact ih (i + 1) x_12 H locs ls (by omega) (by omega) (by rw [ex_12, cB_yes c_6 c_9, hbt]; obtain ⟨m9, h8, h9⟩ := cB_nat (fj 6) (fj 12 (j + 1)) d i; rw [h9]; exact (cB_sub _ 0 (by omega)).symm) hP hS (lv_sub hl [0, 1, 2, 3, 4] rfl)

set_option maxHeartbeats 4000000 in
set_option maxRecDepth 100000 in
theorem c_M_late (l : Launch) (D : va_G) (t : Nat → ClassId) (A : Nat → Prop) (g : hG) (ma : Nat → Nat) (tv : Int32) (σ : SS) (j : Nat) (d : Int64) (hMx : RMx t ma tv σ g) (hV : Inv σ) (hj : j < sNL σ) : Met l y_M_late (Cond.code y_M_late b_M_late 9 (some .long) :: TB) ({ frames := 0, cells := 0, slots := 0, locals := 0 } : Room) (va_Pc [.ref (ma 0), .int (nI (j + 1)), .long d] (hI D vwCl (tyL t) EX A g)) (va_Ql (fun r u => r = lateJ σ j d ∧ u = g) (fun u v => hw D vwCl A u v.heap) A) 0 0 A := by
  refine Met.ofH (cc := b_M_late) (maxL := 9) (ret := (some .long)) (lv := [(0, .ref (ma 0)), (1, .int (nI (j + 1))), (2, .long d)]) (by decide) (Nat.le_of_ble_eq_true rfl) rfl ?_
  intro p e s m below meth c ls X hP hS hl
  obtain ⟨hx, hb, hml, hr, hts, hown, hlocks, hK, hEs, hA, hnm⟩ := id X
  obtain ⟨fm, fj, hM, hR1, hR2, hR3, hR6, hR20, hR11⟩ := id hMx
  have m0 := hM.1
  have hinj := hM.2.2
  have m12 : g (ma 12) = some (arJ t 121 (fj 12)) := hM.2.1 12 (by decide) (by decide)
  have hn1 := hV.1.1
  have hn2 := hV.1.2.1
  have hn3 := hV.1.2.2.1
  have hn4 := hV.1.2.2.2
  refine lv_lload_n hx hb d_M_late_0 rfl (lv_at hl 2 rfl) ?_
  refine lv_aload_n hx hb d_M_late_1 rfl (lv_at hl 0 rfl) ?_
  refine g_M_44 X hb hP m0 rfl d_M_late_2 ?_
  refine lv_iload_n hx hb d_M_late_5 rfl (lv_at hl 1 rfl) ?_
  refine n_lald X hb hP m12 ⟨by omega, by decide⟩ d_M_late_6 ?_
  refine lv_lsub hx hb d_M_late_7 ?_
  refine lv_topl (fun x_1 ex_1 => ?_)
  refine lv_lstore (lv' := [(4, .long x_1), (0, .ref (ma 0)), (1, .int (nI (j + 1))), (2, .long d)]) hx hb d_M_late_8 hl (by decide) rfl (fun ls hl => ?_)
  refine lv_iconst (v := 0) hx hb d_M_late_10 (by decide) ?_
  refine lv_istore (lv' := [(6, .int 0), (4, .long x_1), (0, .ref (ma 0)), (1, .int (nI (j + 1))), (2, .long d)]) hx hb d_M_late_11 hl (by decide) rfl (fun ls hl => ?_)
  exact lp_M_late g ma tv σ fm fj j d hM ⟨hR1, hR2, hR3, hR6, hR20, hR11⟩ hV hj X (sNC σ + 1) 0 x_1 _ _ ls (Nat.zero_le _) (by omega) (by rw [ex_1, cB_0]; exact (i64s0 _).symm) hP hS (lv_sub hl [0, 1, 2, 3, 4] rfl)
theorem k_M_122 {p : Program} {l : Launch} {e : Env} {R : Room} {s : State} {m : MethodId} {args : Array Value} {below : List Frame} {meth : Method} {c : Code} {H : Heap} {locs : List Loc} {cells slots : Nat} {Q : State → Prop} {cc : ByteArray} {pc : Nat} {ls : Array Slot} {rest : List Value} {D : va_G} {A : Nat → Prop} {t : Nat → ClassId} {g : hG} {nL : Nat} {ret0 : Option FieldType} {nm : String} (X : Cx p s m args meth c R_M cc nL ret0 TB D vwCl (tyL t) EX A nm) (hR : 0 + 1 ≤ R.frames ∧ 8 + (9 + 11) + 0 ≤ R.locals) (hf : cells + 0 ≤ R.cells ∧ slots + 0 ≤ R.slots) (hls : ls.size = nL) (hP : hw D vwCl A g H) (hS : va_S A s.heap H locs) {ma : Nat → Nat} {tv : Int32} {σ : SS} {j : Nat} {d : Int64} {fs9 : List Value} (he9 : g (ma 0) = some (.inr (6, fs9))) (hMx : RMx t ma tv σ g) (hV : Inv σ) (hj : j < sNL σ) (hW : (rest.map fun v => v.category).sum ≤ 8) (hdg : decode cc pc = .ok (.invokevirtual 122, 3)) (kk : ∀ (r : Int64) (H1 : Heap) (locs1 : List Loc), r = lateJ σ j d → hw D vwCl A (g) H1 → va_S A s.heap H1 locs1 → W p l e R s m args below meth c H1 locs1 (cells + 0) (slots + 0) Q (F0 m (pc + 3) ls (.long r :: rest))) : W p l e R s m args below meth c H locs cells slots Q (F0 m pc ls (.long d :: .int (nI (j + 1)) :: .ref (ma 0) :: rest)) :=
  h_cl (runV (C := R_M) (T := F_M) (N := 26) X (c_M_late l D t A g ma tv σ j d hMx hV hj) (tbm 583 (by decide +kernel)) (tbm 585 (by decide +kernel)) (tbm 12 (by decide +kernel)) (tbm 23 (by decide +kernel)) (tbm 586 (by decide +kernel)) rfl (n := 2) (by decide +kernel) hR hf hP he9 hS hls rfl rfl hW hdg) hS (fun r u H1 locs1 hp hP1 hS1 => kk r H1 locs1 hp.1 (hp.2 ▸ hP1) hS1)

set_option maxHeartbeats 4000000 in
set_option maxRecDepth 100000 in
theorem c_M_personOf (l : Launch) (D : va_G) (t : Nat → ClassId) (A : Nat → Prop) (g : hG) (ma : Nat → Nat) (tv : Int32) (σ : SS) (j : Nat) (hMx : RMx t ma tv σ g) (hV : Inv σ) (hj : j < sND σ) : Met l y_M_personOf (Cond.code y_M_personOf b_M_personOf 2 (some .int) :: TB) ({ frames := 0, cells := 0, slots := 0, locals := 0 } : Room) (va_Pc [.ref (ma 0), .int (nI (j + 1))] (hI D vwCl (tyL t) EX A g)) (va_Qi (fun r u => r = nI (sLV σ (sDV σ j).1).2.1 ∧ u = g) (fun u v => hw D vwCl A u v.heap) A) 0 0 A := by
  refine Met.ofH (cc := b_M_personOf) (maxL := 2) (ret := (some .int)) (lv := [(0, .ref (ma 0)), (1, .int (nI (j + 1)))]) (by decide) (Nat.le_of_ble_eq_true rfl) rfl ?_
  intro p e s m below meth c ls X hP hS hl
  obtain ⟨hx, hb, hml, hr, hts, hown, hlocks, hK, hEs, hA, hnm⟩ := id X
  obtain ⟨fm, fj, hM, hR1, hR2, hR3, hR6, hR20, hR11⟩ := id hMx
  have m0 := hM.1
  have hinj := hM.2.2
  have m8 : g (ma 8) = some (arI t 121 (fm 8)) := hM.2.1 8 (by decide) (by decide)
  have m13 : g (ma 13) = some (arI t 201 (fm 13)) := hM.2.1 13 (by decide) (by decide)
  have hn1 := hV.1.1
  have hn2 := hV.1.2.1
  have hn3 := hV.1.2.2.1
  have hn4 := hV.1.2.2.2
  have hl9 := (hV.2.2.2.1 j hj).1
  refine lv_aload_n hx hb d_M_personOf_0 rfl (lv_at hl 0 rfl) ?_
  refine g_M_32 X hb hP m0 rfl d_M_personOf_1 ?_
  refine lv_aload_n hx hb d_M_personOf_4 rfl (lv_at hl 0 rfl) ?_
  refine g_M_47 X hb hP m0 rfl d_M_personOf_5 ?_
  refine lv_iload_n hx hb d_M_personOf_8 rfl (lv_at hl 1 rfl) ?_
  refine n_iald X hb hP m13 ⟨by omega, by decide⟩ d_M_personOf_9 ?_
  rw [(hR3 j hj).1]
  refine n_iald X hb hP m8 ⟨by omega, by decide⟩ d_M_personOf_10 ?_
  exact h_iret hx hb hr hlocks (Nat.le_of_ble_eq_true rfl) (Nat.le_of_ble_eq_true rfl) hP hS (⟨(hR2 _ hl9).2.1, rfl⟩) d_M_personOf_11
theorem k_M_135 {p : Program} {l : Launch} {e : Env} {R : Room} {s : State} {m : MethodId} {args : Array Value} {below : List Frame} {meth : Method} {c : Code} {H : Heap} {locs : List Loc} {cells slots : Nat} {Q : State → Prop} {cc : ByteArray} {pc : Nat} {ls : Array Slot} {rest : List Value} {D : va_G} {A : Nat → Prop} {t : Nat → ClassId} {g : hG} {nL : Nat} {ret0 : Option FieldType} {nm : String} (X : Cx p s m args meth c R_M cc nL ret0 TB D vwCl (tyL t) EX A nm) (hR : 0 + 1 ≤ R.frames ∧ 8 + (2 + 11) + 0 ≤ R.locals) (hf : cells + 0 ≤ R.cells ∧ slots + 0 ≤ R.slots) (hls : ls.size = nL) (hP : hw D vwCl A g H) (hS : va_S A s.heap H locs) {ma : Nat → Nat} {tv : Int32} {σ : SS} {j : Nat} {fs9 : List Value} (he9 : g (ma 0) = some (.inr (6, fs9))) (hMx : RMx t ma tv σ g) (hV : Inv σ) (hj : j < sND σ) (hW : (rest.map fun v => v.category).sum ≤ 8) (hdg : decode cc pc = .ok (.invokevirtual 135, 3)) (kk : ∀ (r : Int32) (H1 : Heap) (locs1 : List Loc), r = nI (sLV σ (sDV σ j).1).2.1 → hw D vwCl A (g) H1 → va_S A s.heap H1 locs1 → W p l e R s m args below meth c H1 locs1 (cells + 0) (slots + 0) Q (F0 m (pc + 3) ls (.int r :: rest))) : W p l e R s m args below meth c H locs cells slots Q (F0 m pc ls (.int (nI (j + 1)) :: .ref (ma 0) :: rest)) :=
  h_ci (runV (C := R_M) (T := F_M) (N := 26) X (c_M_personOf l D t A g ma tv σ j hMx hV hj) (tbm 612 (by decide +kernel)) (tbm 614 (by decide +kernel)) (tbm 15 (by decide +kernel)) (tbm 23 (by decide +kernel)) (tbm 615 (by decide +kernel)) rfl (n := 1) (by decide +kernel) hR hf hP he9 hS hls rfl rfl hW hdg) hS (fun r u H1 locs1 hp hP1 hS1 => kk r H1 locs1 hp.1 (hp.2 ▸ hP1) hS1)

set_option maxHeartbeats 4000000 in
set_option maxRecDepth 100000 in
theorem c_M_isDebt (l : Launch) (D : va_G) (t : Nat → ClassId) (A : Nat → Prop) (g : hG) (ma : Nat → Nat) (tv : Int32) (σ : SS) (x : Int32) (hMx : RMx t ma tv σ g) (hV : Inv σ) : Met l y_M_isDebt (Cond.code y_M_isDebt b_M_isDebt 2 (some .boolean) :: TB) ({ frames := 1, cells := 0, slots := 0, locals := 25 } : Room) (va_Pc [.ref (ma 0), .int x] (hI D vwCl (tyL t) EX A g)) (va_Qi (fun r u => r = bi (wi x 1 (nI (sND σ))) ∧ u = g) (fun u v => hw D vwCl A u v.heap) A) 0 0 A := by
  refine Met.ofH (cc := b_M_isDebt) (maxL := 2) (ret := (some .boolean)) (lv := [(0, .ref (ma 0)), (1, .int x)]) (by decide) (Nat.le_of_ble_eq_true rfl) rfl ?_
  intro p e s m below meth c ls X hP hS hl
  obtain ⟨hx, hb, hml, hr, hts, hown, hlocks, hK, hEs, hA, hnm⟩ := id X
  obtain ⟨fm, fj, hM, hR1, hR2, hR3, hR6, hR20, hR11⟩ := id hMx
  have m0 := hM.1
  have hinj := hM.2.2
  have hn1 := hV.1.1
  have hn2 := hV.1.2.1
  have hn3 := hV.1.2.2.1
  have hn4 := hV.1.2.2.2
  refine lv_iload_n hx hb d_M_isDebt_0 rfl (lv_at hl 1 rfl) ?_
  refine lv_i2l hx hb d_M_isDebt_1 rfl ?_
  refine lv_lconst (v := 1) hx hb d_M_isDebt_2 (by decide) ?_
  refine lv_aload_n hx hb d_M_isDebt_3 rfl (lv_at hl 0 rfl) ?_
  refine g_M_128 X hb hP m0 rfl d_M_isDebt_4 ?_
  refine lv_i2l hx hb d_M_isDebt_7 rfl ?_
  refine k_M_81 X ⟨Nat.le_of_ble_eq_true rfl, Nat.le_of_ble_eq_true rfl⟩ ⟨Nat.le_of_ble_eq_true rfl, Nat.le_of_ble_eq_true rfl⟩ hl.1 hP hS (by exact Nat.le_of_ble_eq_true rfl) d_M_isDebt_8 (fun r_1 H locs er_1 hP hS => ?_)
  exact h_zret hx hb hr hlocks (by rw [er_1]; exact bi_nar _) (Nat.le_of_ble_eq_true rfl) (Nat.le_of_ble_eq_true rfl) hP hS (⟨by rw [er_1, ← wl_i]; rfl, rfl⟩) d_M_isDebt_11
theorem k_M_141 {p : Program} {l : Launch} {e : Env} {R : Room} {s : State} {m : MethodId} {args : Array Value} {below : List Frame} {meth : Method} {c : Code} {H : Heap} {locs : List Loc} {cells slots : Nat} {Q : State → Prop} {cc : ByteArray} {pc : Nat} {ls : Array Slot} {rest : List Value} {D : va_G} {A : Nat → Prop} {t : Nat → ClassId} {g : hG} {nL : Nat} {ret0 : Option FieldType} {nm : String} (X : Cx p s m args meth c R_M cc nL ret0 TB D vwCl (tyL t) EX A nm) (hR : 1 + 1 ≤ R.frames ∧ 8 + (2 + 11) + 25 ≤ R.locals) (hf : cells + 0 ≤ R.cells ∧ slots + 0 ≤ R.slots) (hls : ls.size = nL) (hP : hw D vwCl A g H) (hS : va_S A s.heap H locs) {ma : Nat → Nat} {tv : Int32} {σ : SS} {x : Int32} {fs9 : List Value} (he9 : g (ma 0) = some (.inr (6, fs9))) (hMx : RMx t ma tv σ g) (hV : Inv σ)  (hW : (rest.map fun v => v.category).sum ≤ 8) (hdg : decode cc pc = .ok (.invokevirtual 141, 3)) (kk : ∀ (r : Int32) (H1 : Heap) (locs1 : List Loc), r = bi (wi x 1 (nI (sND σ))) → hw D vwCl A (g) H1 → va_S A s.heap H1 locs1 → W p l e R s m args below meth c H1 locs1 (cells + 0) (slots + 0) Q (F0 m (pc + 3) ls (.int r :: rest))) : W p l e R s m args below meth c H locs cells slots Q (F0 m pc ls (.int x :: .ref (ma 0) :: rest)) :=
  h_ci (runV (C := R_M) (T := F_M) (N := 26) X (c_M_isDebt l D t A g ma tv σ x hMx hV) (tbm 620 (by decide +kernel)) (tbm 622 (by decide +kernel)) (tbm 16 (by decide +kernel)) (tbm 23 (by decide +kernel)) (tbm 623 (by decide +kernel)) rfl (n := 1) (by decide +kernel) hR hf hP he9 hS hls rfl rfl hW hdg) hS (fun r u H1 locs1 hp hP1 hS1 => kk r H1 locs1 hp.1 (hp.2 ▸ hP1) hS1)

set_option maxHeartbeats 4000000 in
set_option maxRecDepth 100000 in
theorem c_M_interestOf (l : Launch) (D : va_G) (t : Nat → ClassId) (A : Nat → Prop) (g : hG) (ma : Nat → Nat) (tv : Int32) (σ : SS) (j : Nat) (y : Int64) (hMx : RMx t ma tv σ g) (hV : Inv σ) (hj : j < sND σ) : Met l y_M_interestOf (Cond.code y_M_interestOf b_M_interestOf 7 (some .long) :: TB) ({ frames := 0, cells := 0, slots := 0, locals := 0 } : Room) (va_Pc [.ref (ma 0), .int (nI (j + 1)), .long y] (hI D vwCl (tyL t) EX A g)) (va_Ql (fun r u => r = intD σ j y ∧ u = g) (fun u v => hw D vwCl A u v.heap) A) 0 0 A := by
  refine Met.ofH (cc := b_M_interestOf) (maxL := 7) (ret := (some .long)) (lv := [(0, .ref (ma 0)), (1, .int (nI (j + 1))), (2, .long y)]) (by decide) (Nat.le_of_ble_eq_true rfl) rfl ?_
  intro p e s m below meth c ls X hP hS hl
  obtain ⟨hx, hb, hml, hr, hts, hown, hlocks, hK, hEs, hA, hnm⟩ := id X
  obtain ⟨fm, fj, hM, hR1, hR2, hR3, hR6, hR20, hR11⟩ := id hMx
  have m0 := hM.1
  have hinj := hM.2.2
  have m18 : g (ma 18) = some (arJ t 201 (fj 18)) := hM.2.1 18 (by decide) (by decide)
  have m9 : g (ma 9) = some (arI t 121 (fm 9)) := hM.2.1 9 (by decide) (by decide)
  have m13 : g (ma 13) = some (arI t 201 (fm 13)) := hM.2.1 13 (by decide) (by decide)
  have m15 : g (ma 15) = some (arI t 201 (fm 15)) := hM.2.1 15 (by decide) (by decide)
  have m4 : g (ma 4) = some (arI t 10 (fm 4)) := hM.2.1 4 (by decide) (by decide)
  have m5 : g (ma 5) = some (arI t 10 (fm 5)) := hM.2.1 5 (by decide) (by decide)
  have hn1 := hV.1.1
  have hn2 := hV.1.2.1
  have hn3 := hV.1.2.2.1
  have hn4 := hV.1.2.2.2
  have hl9 := (hV.2.2.2.1 j hj).1
  have hrl := (hV.2.2.1 _ hl9).2.2.1
  refine lv_lload_n hx hb d_M_interestOf_0 rfl (lv_at hl 2 rfl) ?_
  refine lv_aload_n hx hb d_M_interestOf_1 rfl (lv_at hl 0 rfl) ?_
  refine g_M_62 X hb hP m0 rfl d_M_interestOf_2 ?_
  refine lv_iload_n hx hb d_M_interestOf_5 rfl (lv_at hl 1 rfl) ?_
  refine n_lald X hb hP m18 ⟨by omega, by decide⟩ d_M_interestOf_6 ?_
  refine W.lcmp hx hb d_M_interestOf_7 ?_
  refine lv_if_ge (tgt := 15) hx hb d_M_interestOf_8 (by decide) (fun c_1 => ?_) (fun c_1 => ?_)
  · rw [lg_cmp_ge] at c_1
    refine lv_lload_n hx hb d_M_interestOf_15 rfl (lv_at hl 2 rfl) ?_
    refine lv_aload_n hx hb d_M_interestOf_16 rfl (lv_at hl 0 rfl) ?_
    refine g_M_62 X hb hP m0 rfl d_M_interestOf_17 ?_
    refine lv_iload_n hx hb d_M_interestOf_20 rfl (lv_at hl 1 rfl) ?_
    refine n_lald X hb hP m18 ⟨by omega, by decide⟩ d_M_interestOf_21 ?_
    refine lv_lsub hx hb d_M_interestOf_22 ?_
    refine lv_ldc2 (v := 30) hx hb hown (hts _ (tbm 637 (by decide +kernel))) d_M_interestOf_23 ?_
    refine lv_ldiv hx hb d_M_interestOf_26 (by decide) ?_
    refine lv_topl (fun x_2 ex_2 => ?_)
    refine lv_lstore (lv' := [(4, .long x_2), (0, .ref (ma 0)), (1, .int (nI (j + 1))), (2, .long y)]) hx hb d_M_interestOf_27 hl (by decide) rfl (fun ls hl => ?_)
    refine lv_aload_n hx hb d_M_interestOf_29 rfl (lv_at hl 1 rfl) ?_
    refine g_M_35 X hb hP m0 rfl d_M_interestOf_30 ?_
    refine lv_aload_n hx hb d_M_interestOf_33 rfl (lv_at hl 1 rfl) ?_
    refine g_M_47 X hb hP m0 rfl d_M_interestOf_34 ?_
    refine lv_iload_n hx hb d_M_interestOf_37 rfl (lv_at hl 2 rfl) ?_
    refine n_iald X hb hP m13 ⟨by omega, by decide⟩ d_M_interestOf_38 ?_
    rw [(hR3 j hj).1]
    refine n_iald X hb hP m9 ⟨by omega, by decide⟩ d_M_interestOf_39 ?_
    rw [(hR2 _ hl9).2.2.1]
    refine lv_istore (lv' := [(6, .int (nI (sLV σ (sDV σ j).1).2.2.1)), (4, .long x_2), (0, .ref (ma 0)), (1, .int (nI (j + 1))), (2, .long y)]) hx hb d_M_interestOf_40 hl (by decide) rfl (fun ls hl => ?_)
    refine lv_aload_n hx hb d_M_interestOf_42 rfl (lv_at hl 2 rfl) ?_
    refine g_M_53 X hb hP m0 rfl d_M_interestOf_43 ?_
    refine lv_iload_n hx hb d_M_interestOf_46 rfl (lv_at hl 3 rfl) ?_
    refine n_iald X hb hP m15 ⟨by omega, by decide⟩ d_M_interestOf_47 ?_
    refine lv_i2l hx hb d_M_interestOf_48 rfl ?_
    refine lv_aload_n hx hb d_M_interestOf_49 rfl (lv_at hl 2 rfl) ?_
    refine g_M_19 X hb hP m0 rfl d_M_interestOf_50 ?_
    refine lv_iload hx hb d_M_interestOf_53 (lv_at hl 0 rfl) ?_
    refine n_iald X hb hP m4 ⟨by omega, by decide⟩ d_M_interestOf_55 ?_
    refine lv_i2l hx hb d_M_interestOf_56 rfl ?_
    refine lv_lmul hx hb d_M_interestOf_57 ?_
    refine lv_lload hx hb d_M_interestOf_58 (lv_at hl 1 rfl) ?_
    refine lv_lmul hx hb d_M_interestOf_60 ?_
    refine lv_aload_n hx hb d_M_interestOf_61 rfl (lv_at hl 2 rfl) ?_
    refine g_M_22 X hb hP m0 rfl d_M_interestOf_62 ?_
    refine lv_iload hx hb d_M_interestOf_65 (lv_at hl 0 rfl) ?_
    refine n_iald X hb hP m5 ⟨by omega, by decide⟩ d_M_interestOf_67 ?_
    refine lv_i2l hx hb d_M_interestOf_68 rfl ?_
    refine lv_ldiv hx hb d_M_interestOf_69 (by rw [(hR1 _ hrl).2.2.2.2]; exact dn1_ne0 _) ?_
    obtain ⟨-, -, -, g4, g5⟩ := hR1 _ hrl
    exact h_lret hx hb hr hlocks (Nat.le_of_ble_eq_true rfl) (Nat.le_of_ble_eq_true rfl) hP hS (⟨by rw [(hR3 j hj).2.2.1, g4, g5, nI_l (by have := (hV.2.2.2.1 j hj).2; omega)]; exact int_m (hV.2.1 _ hrl).2.2.2.2.1 (hV.2.1 _ hrl).2.2.2.2.2 (by rw [if_neg (Int64.not_lt.mpr (by rw [← (hR3 j hj).2.2.2.2.2]; exact c_1)), ex_2, (hR3 j hj).2.2.2.2.2]), rfl⟩) d_M_interestOf_70
  · rw [lg_cmp_ge] at c_1
    refine lv_lconst (v := 0) hx hb d_M_interestOf_11 (by decide) ?_
    refine lv_goto (tgt := 27) hx hb d_M_interestOf_12 (by decide) ?_
    refine lv_lstore (lv' := [(4, .long 0), (0, .ref (ma 0)), (1, .int (nI (j + 1))), (2, .long y)]) hx hb d_M_interestOf_27 hl (by decide) rfl (fun ls hl => ?_)
    refine lv_aload_n hx hb d_M_interestOf_29 rfl (lv_at hl 1 rfl) ?_
    refine g_M_35 X hb hP m0 rfl d_M_interestOf_30 ?_
    refine lv_aload_n hx hb d_M_interestOf_33 rfl (lv_at hl 1 rfl) ?_
    refine g_M_47 X hb hP m0 rfl d_M_interestOf_34 ?_
    refine lv_iload_n hx hb d_M_interestOf_37 rfl (lv_at hl 2 rfl) ?_
    refine n_iald X hb hP m13 ⟨by omega, by decide⟩ d_M_interestOf_38 ?_
    rw [(hR3 j hj).1]
    refine n_iald X hb hP m9 ⟨by omega, by decide⟩ d_M_interestOf_39 ?_
    rw [(hR2 _ hl9).2.2.1]
    refine lv_istore (lv' := [(6, .int (nI (sLV σ (sDV σ j).1).2.2.1)), (4, .long 0), (0, .ref (ma 0)), (1, .int (nI (j + 1))), (2, .long y)]) hx hb d_M_interestOf_40 hl (by decide) rfl (fun ls hl => ?_)
    refine lv_aload_n hx hb d_M_interestOf_42 rfl (lv_at hl 2 rfl) ?_
    refine g_M_53 X hb hP m0 rfl d_M_interestOf_43 ?_
    refine lv_iload_n hx hb d_M_interestOf_46 rfl (lv_at hl 3 rfl) ?_
    refine n_iald X hb hP m15 ⟨by omega, by decide⟩ d_M_interestOf_47 ?_
    refine lv_i2l hx hb d_M_interestOf_48 rfl ?_
    refine lv_aload_n hx hb d_M_interestOf_49 rfl (lv_at hl 2 rfl) ?_
    refine g_M_19 X hb hP m0 rfl d_M_interestOf_50 ?_
    refine lv_iload hx hb d_M_interestOf_53 (lv_at hl 0 rfl) ?_
    refine n_iald X hb hP m4 ⟨by omega, by decide⟩ d_M_interestOf_55 ?_
    refine lv_i2l hx hb d_M_interestOf_56 rfl ?_
    refine lv_lmul hx hb d_M_interestOf_57 ?_
    refine lv_lload hx hb d_M_interestOf_58 (lv_at hl 1 rfl) ?_
    refine lv_lmul hx hb d_M_interestOf_60 ?_
    refine lv_aload_n hx hb d_M_interestOf_61 rfl (lv_at hl 2 rfl) ?_
    refine g_M_22 X hb hP m0 rfl d_M_interestOf_62 ?_
    refine lv_iload hx hb d_M_interestOf_65 (lv_at hl 0 rfl) ?_
    refine n_iald X hb hP m5 ⟨by omega, by decide⟩ d_M_interestOf_67 ?_
    refine lv_i2l hx hb d_M_interestOf_68 rfl ?_
    refine lv_ldiv hx hb d_M_interestOf_69 (by rw [(hR1 _ hrl).2.2.2.2]; exact dn1_ne0 _) ?_
    obtain ⟨-, -, -, g4, g5⟩ := hR1 _ hrl
    exact h_lret hx hb hr hlocks (Nat.le_of_ble_eq_true rfl) (Nat.le_of_ble_eq_true rfl) hP hS (⟨by rw [(hR3 j hj).2.2.1, g4, g5, nI_l (by have := (hV.2.2.2.1 j hj).2; omega)]; exact int_m (hV.2.1 _ hrl).2.2.2.2.1 (hV.2.1 _ hrl).2.2.2.2.2 (by rw [if_pos (by rw [← (hR3 j hj).2.2.2.2.2]; exact Int64.not_le.mp c_1)]), rfl⟩) d_M_interestOf_70
theorem k_M_152 {p : Program} {l : Launch} {e : Env} {R : Room} {s : State} {m : MethodId} {args : Array Value} {below : List Frame} {meth : Method} {c : Code} {H : Heap} {locs : List Loc} {cells slots : Nat} {Q : State → Prop} {cc : ByteArray} {pc : Nat} {ls : Array Slot} {rest : List Value} {D : va_G} {A : Nat → Prop} {t : Nat → ClassId} {g : hG} {nL : Nat} {ret0 : Option FieldType} {nm : String} (X : Cx p s m args meth c R_M cc nL ret0 TB D vwCl (tyL t) EX A nm) (hR : 0 + 1 ≤ R.frames ∧ 8 + (7 + 11) + 0 ≤ R.locals) (hf : cells + 0 ≤ R.cells ∧ slots + 0 ≤ R.slots) (hls : ls.size = nL) (hP : hw D vwCl A g H) (hS : va_S A s.heap H locs) {ma : Nat → Nat} {tv : Int32} {σ : SS} {j : Nat} {y : Int64} {fs9 : List Value} (he9 : g (ma 0) = some (.inr (6, fs9))) (hMx : RMx t ma tv σ g) (hV : Inv σ) (hj : j < sND σ) (hW : (rest.map fun v => v.category).sum ≤ 8) (hdg : decode cc pc = .ok (.invokevirtual 152, 3)) (kk : ∀ (r : Int64) (H1 : Heap) (locs1 : List Loc), r = intD σ j y → hw D vwCl A (g) H1 → va_S A s.heap H1 locs1 → W p l e R s m args below meth c H1 locs1 (cells + 0) (slots + 0) Q (F0 m (pc + 3) ls (.long r :: rest))) : W p l e R s m args below meth c H locs cells slots Q (F0 m pc ls (.long y :: .int (nI (j + 1)) :: .ref (ma 0) :: rest)) :=
  h_cl (runV (C := R_M) (T := F_M) (N := 26) X (c_M_interestOf l D t A g ma tv σ j y hMx hV hj) (tbm 633 (by decide +kernel)) (tbm 635 (by decide +kernel)) (tbm 18 (by decide +kernel)) (tbm 23 (by decide +kernel)) (tbm 636 (by decide +kernel)) rfl (n := 2) (by decide +kernel) hR hf hP he9 hS hls rfl rfl hW hdg) hS (fun r u H1 locs1 hp hP1 hS1 => kk r H1 locs1 hp.1 (hp.2 ▸ hP1) hS1)

set_option maxHeartbeats 4000000 in
set_option maxRecDepth 100000 in
theorem lp_M_leftOf {p : Program} {l : Launch} {e : Env} {s : State} {m : MethodId} {below : List Frame} {meth : Method} {c : Code} {D : va_G} {t : Nat → ClassId} {A : Nat → Prop} (g : hG) (ma : Nat → Nat) (tv : Int32) (σ : SS) (fm : Nat → Nat → Int32) (fj : Nat → Nat → Int64) (x : Int32) (hM : MC t g ma tv (nI (sNR σ)) (nI (sNL σ)) (nI (sND σ)) (nI (sNC σ)) (sTH σ) fm fj) (hR : MRel fm fj σ) (hV : Inv σ)  (X : Cx p s m ([.ref (ma 0), .int x] : List Value).toArray meth c R_M b_M_leftOf 5 (some .long) TB D vwCl (tyL t) EX A "leftOf") : ∀ (k : Nat) (i : Nat) (b : Int64) (H : Heap) (locs : List Loc) (ls : Array Slot) (_ : i ≤ sND σ) (_ : sND σ + 1 ≤ i + k) (_ : b = sumL σ x i) (_ : hw D vwCl A g H) (_ : va_S A s.heap H locs) (_ : lv_has ls 5 [(4, .int (nI (i + 1))), (2, .long b), (0, .ref (ma 0)), (1, .int x)]), W p l e ({ frames := 1, cells := 0, slots := 0, locals := 21 } : Room) s m ([.ref (ma 0), .int x] : List Value).toArray below meth c H locs 0 0 (MQ below (va_Ql (fun r u => r = sumL σ x (sND σ) ∧ u = g) (fun u v => hw D vwCl A u v.heap) A) ([.ref (ma 0), .int x] : List Value).toArray s 0 0 A) (F0 m 5 ls []) := by
  obtain ⟨hx, hb, hml, hr, hts, hown, hlocks, hK, hEs, hA, hnm⟩ := id X
  intro k
  induction k with
  | zero => exact fun i b H locs ls h1 h2 => absurd h2 (by omega)
  | succ k ih =>
    intro i b H locs ls hi hk hbt hP hS hl
    obtain ⟨hR1, hR2, hR3, hR6, hR20, hR11⟩ := id hR
    have m0 := hM.1
    have hinj := hM.2.2
    have m15 : g (ma 15) = some (arI t 201 (fm 15)) := hM.2.1 15 (by decide) (by decide)
    have hn1 := hV.1.1
    have hn2 := hV.1.2.1
    have hn3 := hV.1.2.2.1
    have hn4 := hV.1.2.2.2
    refine lv_iload hx hb d_M_leftOf_5 (lv_at hl 0 rfl) ?_
    refine lv_aload_n hx hb d_M_leftOf_7 rfl (lv_at hl 2 rfl) ?_
    refine g_M_128 X hb hP m0 rfl d_M_leftOf_8 ?_
    refine lv_icmp_gt (tgt := 45) hx hb d_M_leftOf_11 (by decide) (fun c_1 => ?_) (fun c_1 => ?_)
    · refine lv_lload_n hx hb d_M_leftOf_45 rfl (lv_at hl 1 rfl) ?_
      exact h_lret hx hb hr hlocks (Nat.le_of_ble_eq_true rfl) (Nat.le_of_ble_eq_true rfl) hP hS (⟨by rw [hbt, show i = sND σ from Nat.le_antisymm hi (Nat.le_of_lt_succ ((nI_ltI (by omega) (by omega)).mp c_1))], rfl⟩) d_M_leftOf_46
    · have hlt : i < sND σ := Nat.lt_of_not_le (fun z => c_1 (nI_lt (by omega) (by omega)))
      refine lv_lload_n hx hb d_M_leftOf_14 rfl (lv_at hl 1 rfl) ?_
      refine lv_aload_n hx hb d_M_leftOf_15 rfl (lv_at hl 2 rfl) ?_
      refine lv_iload hx hb d_M_leftOf_16 (lv_at hl 0 rfl) ?_
      refine k_M_135 X ⟨Nat.le_of_ble_eq_true rfl, Nat.le_of_ble_eq_true rfl⟩ ⟨Nat.le_of_ble_eq_true rfl, Nat.le_of_ble_eq_true rfl⟩ hl.1 hP hS m0 ⟨fm, fj, hM, hR⟩ hV hlt (by exact Nat.le_of_ble_eq_true rfl) d_M_leftOf_18 (fun r_2 H locs er_2 hP hS => ?_)
      refine lv_iload_n hx hb d_M_leftOf_21 rfl (lv_at hl 3 rfl) ?_
      refine lv_icmp_ne (tgt := 36) hx hb d_M_leftOf_22 (by decide) (fun c_3 => ?_) (fun c_3 => ?_)
      · refine lv_lconst (v := 0) hx hb d_M_leftOf_36 (by decide) ?_
        refine lv_ladd hx hb d_M_leftOf_37 ?_
        refine lv_topl (fun x_4 ex_4 => ?_)
        refine lv_lstore_n (lv' := [(2, .long x_4), (4, .int (nI (i + 1))), (0, .ref (ma 0)), (1, .int x)]) hx hb d_M_leftOf_38 rfl hl (by decide) rfl (fun ls hl => ?_)
        obtain ⟨x_5, ex_5⟩ : ∃ z : Int32, z = (nI (i + 1)) + 1 := ⟨_, rfl⟩
        refine lv_iinc (v := x_5) (lv' := [(4, .int x_5), (2, .long x_4), (0, .ref (ma 0)), (1, .int x)]) hx hb d_M_leftOf_39 hl (k := 1) rfl (by rw [ex_5]; rfl) (by decide) rfl (fun ls hl => ?_)
        refine lv_goto (tgt := 5) hx hb d_M_leftOf_42 (by decide) ?_
        obtain rfl : x_5 = nI (i + 1 + 1) := by rw [ex_5]; exact nI_1 _
        exact ih (i + 1) x_4 H locs ls (by omega) (by omega) (by rw [ex_4, hbt, sumL, if_neg (by rw [← er_2]; exact c_3)]; simp) hP hS (lv_sub hl [0, 1, 2, 3] rfl)
      · refine lv_aload_n hx hb d_M_leftOf_25 rfl (lv_at hl 2 rfl) ?_
        refine g_M_53 X hb hP m0 rfl d_M_leftOf_26 ?_
        refine lv_iload hx hb d_M_leftOf_29 (lv_at hl 0 rfl) ?_
        refine n_iald X hb hP m15 ⟨by omega, by decide⟩ d_M_leftOf_31 ?_
        refine lv_i2l hx hb d_M_leftOf_32 rfl ?_
        refine lv_goto (tgt := 37) hx hb d_M_leftOf_33 (by decide) ?_
        refine lv_ladd hx hb d_M_leftOf_37 ?_
        refine lv_topl (fun x_6 ex_6 => ?_)
        refine lv_lstore_n (lv' := [(2, .long x_6), (4, .int (nI (i + 1))), (0, .ref (ma 0)), (1, .int x)]) hx hb d_M_leftOf_38 rfl hl (by decide) rfl (fun ls hl => ?_)
        obtain ⟨x_7, ex_7⟩ : ∃ z : Int32, z = (nI (i + 1)) + 1 := ⟨_, rfl⟩
        refine lv_iinc (v := x_7) (lv' := [(4, .int x_7), (2, .long x_6), (0, .ref (ma 0)), (1, .int x)]) hx hb d_M_leftOf_39 hl (k := 1) rfl (by rw [ex_7]; rfl) (by decide) rfl (fun ls hl => ?_)
        refine lv_goto (tgt := 5) hx hb d_M_leftOf_42 (by decide) ?_
        obtain rfl : x_7 = nI (i + 1 + 1) := by rw [ex_7]; exact nI_1 _
        exact ih (i + 1) x_6 H locs ls (by omega) (by omega) (by rw [ex_6, hbt, sumL, if_pos (by rw [← er_2]; exact c_3), (hR3 i hlt).2.2.1, nI_l (by have := (hV.2.2.2.1 i hlt).2; omega)]) hP hS (lv_sub hl [0, 1, 2, 3] rfl)

set_option maxHeartbeats 4000000 in
set_option maxRecDepth 100000 in
theorem c_M_leftOf (l : Launch) (D : va_G) (t : Nat → ClassId) (A : Nat → Prop) (g : hG) (ma : Nat → Nat) (tv : Int32) (σ : SS) (x : Int32) (hMx : RMx t ma tv σ g) (hV : Inv σ) : Met l y_M_leftOf (Cond.code y_M_leftOf b_M_leftOf 5 (some .long) :: TB) ({ frames := 1, cells := 0, slots := 0, locals := 21 } : Room) (va_Pc [.ref (ma 0), .int x] (hI D vwCl (tyL t) EX A g)) (va_Ql (fun r u => r = sumL σ x (sND σ) ∧ u = g) (fun u v => hw D vwCl A u v.heap) A) 0 0 A := by
  refine Met.ofH (cc := b_M_leftOf) (maxL := 5) (ret := (some .long)) (lv := [(0, .ref (ma 0)), (1, .int x)]) (by decide) (Nat.le_of_ble_eq_true rfl) rfl ?_
  intro p e s m below meth c ls X hP hS hl
  obtain ⟨hx, hb, hml, hr, hts, hown, hlocks, hK, hEs, hA, hnm⟩ := id X
  obtain ⟨fm, fj, hM, hR1, hR2, hR3, hR6, hR20, hR11⟩ := id hMx
  have m0 := hM.1
  have hinj := hM.2.2
  have m15 : g (ma 15) = some (arI t 201 (fm 15)) := hM.2.1 15 (by decide) (by decide)
  have hn1 := hV.1.1
  have hn2 := hV.1.2.1
  have hn3 := hV.1.2.2.1
  have hn4 := hV.1.2.2.2
  refine lv_lconst (v := 0) hx hb d_M_leftOf_0 (by decide) ?_
  refine lv_lstore_n (lv' := [(2, .long 0), (0, .ref (ma 0)), (1, .int x)]) hx hb d_M_leftOf_1 rfl hl (by decide) rfl (fun ls hl => ?_)
  refine lv_iconst (v := 1) hx hb d_M_leftOf_2 (by decide) ?_
  refine lv_istore (lv' := [(4, .int 1), (2, .long 0), (0, .ref (ma 0)), (1, .int x)]) hx hb d_M_leftOf_3 hl (by decide) rfl (fun ls hl => ?_)
  exact lp_M_leftOf g ma tv σ fm fj x hM ⟨hR1, hR2, hR3, hR6, hR20, hR11⟩ hV X (sND σ + 1) 0 0 _ _ ls (Nat.zero_le _) (by omega) rfl hP hS (lv_sub hl [0, 1, 2, 3] rfl)
theorem k_M_148 {p : Program} {l : Launch} {e : Env} {R : Room} {s : State} {m : MethodId} {args : Array Value} {below : List Frame} {meth : Method} {c : Code} {H : Heap} {locs : List Loc} {cells slots : Nat} {Q : State → Prop} {cc : ByteArray} {pc : Nat} {ls : Array Slot} {rest : List Value} {D : va_G} {A : Nat → Prop} {t : Nat → ClassId} {g : hG} {nL : Nat} {ret0 : Option FieldType} {nm : String} (X : Cx p s m args meth c R_M cc nL ret0 TB D vwCl (tyL t) EX A nm) (hR : 1 + 1 ≤ R.frames ∧ 8 + (5 + 11) + 21 ≤ R.locals) (hf : cells + 0 ≤ R.cells ∧ slots + 0 ≤ R.slots) (hls : ls.size = nL) (hP : hw D vwCl A g H) (hS : va_S A s.heap H locs) {ma : Nat → Nat} {tv : Int32} {σ : SS} {x : Int32} {fs9 : List Value} (he9 : g (ma 0) = some (.inr (6, fs9))) (hMx : RMx t ma tv σ g) (hV : Inv σ)  (hW : (rest.map fun v => v.category).sum ≤ 8) (hdg : decode cc pc = .ok (.invokevirtual 148, 3)) (kk : ∀ (r : Int64) (H1 : Heap) (locs1 : List Loc), r = sumL σ x (sND σ) → hw D vwCl A (g) H1 → va_S A s.heap H1 locs1 → W p l e R s m args below meth c H1 locs1 (cells + 0) (slots + 0) Q (F0 m (pc + 3) ls (.long r :: rest))) : W p l e R s m args below meth c H locs cells slots Q (F0 m pc ls (.int x :: .ref (ma 0) :: rest)) :=
  h_cl (runV (C := R_M) (T := F_M) (N := 26) X (c_M_leftOf l D t A g ma tv σ x hMx hV) (tbm 629 (by decide +kernel)) (tbm 631 (by decide +kernel)) (tbm 17 (by decide +kernel)) (tbm 23 (by decide +kernel)) (tbm 632 (by decide +kernel)) rfl (n := 1) (by decide +kernel) hR hf hP he9 hS hls rfl rfl hW hdg) hS (fun r u H1 locs1 hp hP1 hS1 => kk r H1 locs1 hp.1 (hp.2 ▸ hP1) hS1)
