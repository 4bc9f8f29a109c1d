set_option maxHeartbeats 4000000 in
set_option maxRecDepth 100000 in
theorem lp_M_next {p : Program} {l : Launch} {e : Env} {s : State} {m : MethodId} {below : List Frame} {meth : Method} {c : Code} {D : va_G} {t : Nat → ClassId} {A : Nat → Prop} (g : hG) (ma : Nat → Nat) (tv : Int32) (σ : SS) (fm : Nat → Nat → Int32) (fj : Nat → Nat → Int64) (x : Int32) (hM : MC t g ma tv (nI (sNR σ)) (nI (sNL σ)) (nI (sND σ)) (nI (sNC σ)) (sTH σ) fm fj) (hR : MRel fm fj σ) (hV : Inv σ)  (X : Cx p s m ([.ref (ma 0), .int x] : List Value).toArray meth c R_M b_M_next 5 (some .int) TB D vwCl (tyL t) EX A "next") : ∀ (k : Nat) (i b : Nat) (H : Heap) (locs : List Loc) (ls : Array Slot) (_ : i ≤ sND σ) (_ : sND σ + 1 ≤ i + k) (_ : b = nxt σ x (fm 19) i) (_ : hw D vwCl A g H) (_ : va_S A s.heap H locs) (_ : lv_has ls 5 [(3, .int (nI (i + 1))), (2, .int (nI b)), (0, .ref (ma 0)), (1, .int x)]), W p l e ({ frames := 1, cells := 0, slots := 0, locals := 21 } : Room) s m ([.ref (ma 0), .int x] : List Value).toArray below meth c H locs 0 0 (MQ below (va_Qi (fun r u => r = nI (nxt σ x (fm 19) (sND σ)) ∧ u = g) (fun u v => hw D vwCl A u v.heap) A) ([.ref (ma 0), .int x] : List Value).toArray s 0 0 A) (F0 m 4 ls []) := by
  obtain ⟨hx, hb, hml, hr, hts, hown, hlocks, hK, hEs, hA, hnm⟩ := id X
  intro k
  induction k with
  | zero => exact fun i b H locs ls h1 h2 => absurd h2 (by omega)
  | succ k ih =>
    intro i b H locs ls hi hk hbt hP hS hl
    obtain ⟨hR1, hR2, hR3, hR6, hR20, hR11⟩ := id hR
    have m0 := hM.1
    have hinj := hM.2.2
    have m19 : g (ma 19) = some (arZ t 201 (fm 19)) := hM.2.1 19 (by decide) (by decide)
    have m18 : g (ma 18) = some (arJ t 201 (fj 18)) := hM.2.1 18 (by decide) (by decide)
    have hn1 := hV.1.1
    have hn2 := hV.1.2.1
    have hn3 := hV.1.2.2.1
    have hn4 := hV.1.2.2.2
    have hble : b ≤ i := by rw [hbt]; exact nxt_le _ _ _ _
    refine lv_iload_n hx hb d_M_next_4 rfl (lv_at hl 0 rfl) ?_
    refine lv_aload_n hx hb d_M_next_5 rfl (lv_at hl 2 rfl) ?_
    refine g_M_128 X hb hP m0 rfl d_M_next_6 ?_
    refine lv_icmp_gt (tgt := 74) hx hb d_M_next_9 (by decide) (fun c_1 => ?_) (fun c_1 => ?_)
    · refine lv_iload_n hx hb d_M_next_74 rfl (lv_at hl 1 rfl) ?_
      exact h_iret hx hb hr hlocks (Nat.le_of_ble_eq_true rfl) (Nat.le_of_ble_eq_true rfl) hP hS (⟨by rw [hbt, show i = sND σ from Nat.le_antisymm hi (Nat.le_of_lt_succ ((nI_ltI (by omega) (by omega)).mp c_1))], rfl⟩) d_M_next_75
    · have hlt : i < sND σ := Nat.lt_of_not_le (fun z => c_1 (nI_lt (by omega) (by omega)))
      refine lv_aload_n hx hb d_M_next_12 rfl (lv_at hl 2 rfl) ?_
      refine lv_iload_n hx hb d_M_next_13 rfl (lv_at hl 0 rfl) ?_
      refine k_M_135 X ⟨Nat.le_of_ble_eq_true rfl, Nat.le_of_ble_eq_true rfl⟩ ⟨Nat.le_of_ble_eq_true rfl, Nat.le_of_ble_eq_true rfl⟩ hl.1 hP hS m0 ⟨fm, fj, hM, hR⟩ hV hlt (by exact Nat.le_of_ble_eq_true rfl) d_M_next_14 (fun r_2 H locs er_2 hP hS => ?_)
      refine lv_iload_n hx hb d_M_next_17 rfl (lv_at hl 3 rfl) ?_
      refine lv_icmp_ne (tgt := 34) hx hb d_M_next_18 (by decide) (fun c_3 => ?_) (fun c_3 => ?_)
      · refine lv_iconst (v := 0) hx hb d_M_next_34 (by decide) ?_
        refine lv_istore (lv' := [(4, .int 0), (3, .int (nI (i + 1))), (2, .int (nI b)), (0, .ref (ma 0)), (1, .int x)]) hx hb d_M_next_35 hl (by decide) rfl (fun ls hl => ?_)
        refine lv_iload hx hb d_M_next_37 (lv_at hl 0 rfl) ?_
        refine lv_if_eq (tgt := 66) hx hb d_M_next_39 (by decide) (fun c_4 => ?_) (fun c_4 => ?_)
        · refine lv_iload_n hx hb d_M_next_66 rfl (lv_at hl 2 rfl) ?_
          refine lv_istore_n (lv' := [(2, .int (nI b)), (4, .int 0), (3, .int (nI (i + 1))), (0, .ref (ma 0)), (1, .int x)]) hx hb d_M_next_67 rfl hl (by decide) rfl (fun ls hl => ?_)
          obtain ⟨x_5, ex_5⟩ : ∃ z : Int32, z = (nI (i + 1)) + 1 := ⟨_, rfl⟩
          refine lv_iinc (v := x_5) (lv' := [(3, .int x_5), (2, .int (nI b)), (4, .int 0), (0, .ref (ma 0)), (1, .int x)]) hx hb d_M_next_68 hl (k := 2) rfl (by rw [ex_5]; rfl) (by decide) rfl (fun ls hl => ?_)
          refine lv_goto (tgt := 4) hx hb d_M_next_71 (by decide) ?_
          obtain rfl : x_5 = nI (i + 1 + 1) := by rw [ex_5]; exact nI_1 _
          exact ih (i + 1) b H locs ls (by omega) (by omega) (by rw [nxt_n (fun z => c_3 (by rw [er_2]; exact z.1.1))]; exact hbt) hP hS (lv_sub hl [0, 1, 3, 4] rfl)
        · exact absurd c_4 (by decide)
      · refine lv_aload_n hx hb d_M_next_21 rfl (lv_at hl 2 rfl) ?_
        refine g_M_65 X hb hP m0 rfl d_M_next_22 ?_
        refine lv_iload_n hx hb d_M_next_25 rfl (lv_at hl 0 rfl) ?_
        refine n_zald X hb hP m19 ⟨by omega, by decide⟩ d_M_next_26 ?_
        refine lv_if_ne (tgt := 34) hx hb d_M_next_27 (by decide) (fun c_6 => ?_) (fun c_6 => ?_)
        · refine lv_iconst (v := 0) hx hb d_M_next_34 (by decide) ?_
          refine lv_istore (lv' := [(4, .int 0), (3, .int (nI (i + 1))), (2, .int (nI b)), (0, .ref (ma 0)), (1, .int x)]) hx hb d_M_next_35 hl (by decide) rfl (fun ls hl => ?_)
          refine lv_iload hx hb d_M_next_37 (lv_at hl 0 rfl) ?_
          refine lv_if_eq (tgt := 66) hx hb d_M_next_39 (by decide) (fun c_7 => ?_) (fun c_7 => ?_)
          · refine lv_iload_n hx hb d_M_next_66 rfl (lv_at hl 2 rfl) ?_
            refine lv_istore_n (lv' := [(2, .int (nI b)), (4, .int 0), (3, .int (nI (i + 1))), (0, .ref (ma 0)), (1, .int x)]) hx hb d_M_next_67 rfl hl (by decide) rfl (fun ls hl => ?_)
            obtain ⟨x_8, ex_8⟩ : ∃ z : Int32, z = (nI (i + 1)) + 1 := ⟨_, rfl⟩
            refine lv_iinc (v := x_8) (lv' := [(3, .int x_8), (2, .int (nI b)), (4, .int 0), (0, .ref (ma 0)), (1, .int x)]) hx hb d_M_next_68 hl (k := 2) rfl (by rw [ex_8]; rfl) (by decide) rfl (fun ls hl => ?_)
            refine lv_goto (tgt := 4) hx hb d_M_next_71 (by decide) ?_
            obtain rfl : x_8 = nI (i + 1 + 1) := by rw [ex_8]; exact nI_1 _
            exact ih (i + 1) b H locs ls (by omega) (by omega) (by rw [nxt_n (fun z => c_6 z.1.2)]; exact hbt) hP hS (lv_sub hl [0, 1, 3, 4] rfl)
          · exact absurd c_7 (by decide)
        · refine lv_iconst (v := 1) hx hb d_M_next_30 (by decide) ?_
          refine lv_goto (tgt := 35) hx hb d_M_next_31 (by decide) ?_
          refine lv_istore (lv' := [(4, .int 1), (3, .int (nI (i + 1))), (2, .int (nI b)), (0, .ref (ma 0)), (1, .int x)]) hx hb d_M_next_35 hl (by decide) rfl (fun ls hl => ?_)
          refine lv_iload hx hb d_M_next_37 (lv_at hl 0 rfl) ?_
          refine lv_if_eq (tgt := 66) hx hb d_M_next_39 (by decide) (fun c_9 => ?_) (fun c_9 => ?_)
          · exact absurd c_9 (by decide)
          · refine lv_iload_n hx hb d_M_next_42 rfl (lv_at hl 2 rfl) ?_
            refine lv_if_eq (tgt := 62) hx hb d_M_next_43 (by decide) (fun c_10 => ?_) (fun c_10 => ?_)
            · refine lv_iload_n hx hb d_M_next_62 rfl (lv_at hl 1 rfl) ?_
              refine lv_goto (tgt := 67) hx hb d_M_next_63 (by decide) ?_
              refine lv_istore_n (lv' := [(2, .int (nI (i + 1))), (4, .int 1), (3, .int (nI (i + 1))), (0, .ref (ma 0)), (1, .int x)]) hx hb d_M_next_67 rfl hl (by decide) rfl (fun ls hl => ?_)
              obtain ⟨x_11, ex_11⟩ : ∃ z : Int32, z = (nI (i + 1)) + 1 := ⟨_, rfl⟩
              refine lv_iinc (v := x_11) (lv' := [(3, .int x_11), (2, .int (nI (i + 1))), (4, .int 1), (0, .ref (ma 0)), (1, .int x)]) hx hb d_M_next_68 hl (k := 2) rfl (by rw [ex_11]; rfl) (by decide) rfl (fun ls hl => ?_)
              refine lv_goto (tgt := 4) hx hb d_M_next_71 (by decide) ?_
              obtain rfl : x_11 = nI (i + 1 + 1) := by rw [ex_11]; exact nI_1 _
              exact ih (i + 1) (i + 1) H locs ls (by omega) (by omega) ((nxt_y ⟨⟨by rw [← er_2]; exact c_3, c_6⟩, Or.inl (by rw [← hbt]; exact (nI_small (b := 0) (by omega) (by decide)).mp c_10)⟩).symm) hP hS (lv_sub hl [0, 1, 3, 4] rfl)
            · obtain ⟨b9, rfl⟩ : ∃ b9, b = b9 + 1 := ⟨b - 1, by have h9 : ¬ b = 0 := fun z => c_10 (by rw [z]; rfl); omega⟩
              refine lv_aload_n hx hb d_M_next_46 rfl (lv_at hl 3 rfl) ?_
              refine g_M_62 X hb hP m0 rfl d_M_next_47 ?_
              refine lv_iload_n hx hb d_M_next_50 rfl (lv_at hl 1 rfl) ?_
              refine n_lald X hb hP m18 ⟨by omega, by decide⟩ d_M_next_51 ?_
              refine lv_aload_n hx hb d_M_next_52 rfl (lv_at hl 3 rfl) ?_
              refine g_M_62 X hb hP m0 rfl d_M_next_53 ?_
              refine lv_iload_n hx hb d_M_next_56 rfl (lv_at hl 2 rfl) ?_
              refine n_lald X hb hP m18 ⟨by omega, by decide⟩ d_M_next_57 ?_
              refine W.lcmp hx hb d_M_next_58 ?_
              refine lv_if_ge (tgt := 66) hx hb d_M_next_59 (by decide) (fun c_12 => ?_) (fun c_12 => ?_)
              · rw [lg_cmp_ge] at c_12
                refine lv_iload_n hx hb d_M_next_66 rfl (lv_at hl 2 rfl) ?_
                refine lv_istore_n (lv' := [(2, .int (nI (b9 + 1))), (4, .int 1), (3, .int (nI (i + 1))), (0, .ref (ma 0)), (1, .int x)]) hx hb d_M_next_67 rfl hl (by decide) rfl (fun ls hl => ?_)
                obtain ⟨x_13, ex_13⟩ : ∃ z : Int32, z = (nI (i + 1)) + 1 := ⟨_, rfl⟩
                refine lv_iinc (v := x_13) (lv' := [(3, .int x_13), (2, .int (nI (b9 + 1))), (4, .int 1), (0, .ref (ma 0)), (1, .int x)]) hx hb d_M_next_68 hl (k := 2) rfl (by rw [ex_13]; rfl) (by decide) rfl (fun ls hl => ?_)
                refine lv_goto (tgt := 4) hx hb d_M_next_71 (by decide) ?_
                obtain rfl : x_13 = nI (i + 1 + 1) := by rw [ex_13]; exact nI_1 _
                exact ih (i + 1) (b9 + 1) H locs ls (by omega) (by omega) (by rw [nxt_n (fun z => z.2.elim (fun q => by rw [← hbt] at q; omega) (fun q => by rw [← hbt, Nat.add_sub_cancel, ← (hR3 i hlt).2.2.2.2.2, ← (hR3 b9 (by omega)).2.2.2.2.2] at q; exact absurd q (Int64.not_lt.mpr c_12)))]; exact hbt) hP hS (lv_sub hl [0, 1, 3, 4] rfl)
              · rw [lg_cmp_ge] at c_12
                refine lv_iload_n hx hb d_M_next_62 rfl (lv_at hl 1 rfl) ?_
                refine lv_goto (tgt := 67) hx hb d_M_next_63 (by decide) ?_
                refine lv_istore_n (lv' := [(2, .int (nI (i + 1))), (4, .int 1), (3, .int (nI (i + 1))), (0, .ref (ma 0)), (1, .int x)]) hx hb d_M_next_67 rfl hl (by decide) rfl (fun ls hl => ?_)
                obtain ⟨x_14, ex_14⟩ : ∃ z : Int32, z = (nI (i + 1)) + 1 := ⟨_, rfl⟩
                refine lv_iinc (v := x_14) (lv' := [(3, .int x_14), (2, .int (nI (i + 1))), (4, .int 1), (0, .ref (ma 0)), (1, .int x)]) hx hb d_M_next_68 hl (k := 2) rfl (by rw [ex_14]; rfl) (by decide) rfl (fun ls hl => ?_)
                refine lv_goto (tgt := 4) hx hb d_M_next_71 (by decide) ?_
                obtain rfl : x_14 = nI (i + 1 + 1) := by rw [ex_14]; exact nI_1 _
                exact ih (i + 1) (i + 1) H locs ls (by omega) (by omega) ((nxt_y ⟨⟨by rw [← er_2]; exact c_3, c_6⟩, Or.inr (by rw [← hbt, Nat.add_sub_cancel, ← (hR3 i hlt).2.2.2.2.2, ← (hR3 b9 (by omega)).2.2.2.2.2]; exact Int64.not_le.mp c_12)⟩).symm) hP hS (lv_sub hl [0, 1, 3, 4] rfl)

set_option maxHeartbeats 4000000 in
set_option maxRecDepth 100000 in
theorem c_M_next (l : Launch) (D : va_G) (t : Nat → ClassId) (A : Nat → Prop) (g : hG) (ma : Nat → Nat) (tv : Int32) (σ : SS) (fm : Nat → Nat → Int32) (fj : Nat → Nat → Int64) (x : Int32) (hM : MC t g ma tv (nI (sNR σ)) (nI (sNL σ)) (nI (sND σ)) (nI (sNC σ)) (sTH σ) fm fj) (hRq : MRel fm fj σ) (hV : Inv σ) : Met l y_M_next (Cond.code y_M_next b_M_next 5 (some .int) :: TB) ({ frames := 1, cells := 0, slots := 0, locals := 21 } : Room) (va_Pc [.ref (ma 0), .int x] (hI D vwCl (tyL t) EX A g)) (va_Qi (fun r u => r = nI (nxt σ x (fm 19) (sND σ)) ∧ u = g) (fun u v => hw D vwCl A u v.heap) A) 0 0 A := by
  refine Met.ofH (cc := b_M_next) (maxL := 5) (ret := (some .int)) (lv := [(0, .ref (ma 0)), (1, .int x)]) (by decide) (Nat.le_of_ble_eq_true rfl) rfl ?_
  intro p e s m below meth c ls X hP hS hl
  obtain ⟨hx, hb, hml, hr, hts, hown, hlocks, hK, hEs, hA, hnm⟩ := id X
  refine lv_iconst (v := 0) hx hb d_M_next_0 (by decide) ?_
  refine lv_istore_n (lv' := [(2, .int 0), (0, .ref (ma 0)), (1, .int x)]) hx hb d_M_next_1 rfl hl (by decide) rfl (fun ls hl => ?_)
  refine lv_iconst (v := 1) hx hb d_M_next_2 (by decide) ?_
  refine lv_istore_n (lv' := [(3, .int 1), (2, .int 0), (0, .ref (ma 0)), (1, .int x)]) hx hb d_M_next_3 rfl hl (by decide) rfl (fun ls hl => ?_)
  exact lp_M_next g ma tv σ fm fj x hM hRq hV X (sND σ + 1) 0 0 _ _ ls (Nat.zero_le _) (by omega) rfl hP hS (lv_sub hl [0, 1, 2, 3] rfl)
theorem k_M_138 {p : Program} {l : Launch} {e : Env} {R : Room} {s : State} {m : MethodId} {args : Array Value} {below : List Frame} {meth : Method} {c : Code} {H : Heap} {locs : List Loc} {cells slots : Nat} {Q : State → Prop} {cc : ByteArray} {pc : Nat} {ls : Array Slot} {rest : List Value} {D : va_G} {A : Nat → Prop} {t : Nat → ClassId} {g : hG} {nL : Nat} {ret0 : Option FieldType} {nm : String} (X : Cx p s m args meth c R_M cc nL ret0 TB D vwCl (tyL t) EX A nm) (hR : 1 + 1 ≤ R.frames ∧ 8 + (5 + 11) + 21 ≤ R.locals) (hf : cells + 0 ≤ R.cells ∧ slots + 0 ≤ R.slots) (hls : ls.size = nL) (hP : hw D vwCl A g H) (hS : va_S A s.heap H locs) {ma : Nat → Nat} {tv : Int32} {σ : SS} {fm : Nat → Nat → Int32} {fj : Nat → Nat → Int64} {x : Int32} {fs9 : List Value} (he9 : g (ma 0) = some (.inr (6, fs9))) (hM : MC t g ma tv (nI (sNR σ)) (nI (sNL σ)) (nI (sND σ)) (nI (sNC σ)) (sTH σ) fm fj) (hRq : MRel fm fj σ) (hV : Inv σ) (hW : (rest.map fun v => v.category).sum ≤ 8) (hdg : decode cc pc = .ok (.invokevirtual 138, 3)) (kk : ∀ (r : Int32) (H1 : Heap) (locs1 : List Loc), r = nI (nxt σ x (fm 19) (sND σ)) → hw D vwCl A (g) H1 → va_S A s.heap H1 locs1 → W p l e R s m args below meth c H1 locs1 (cells + 0) (slots + 0) Q (F0 m (pc + 3) ls (.int r :: rest))) : W p l e R s m args below meth c H locs cells slots Q (F0 m pc ls (.int x :: .ref (ma 0) :: rest)) :=
  h_ci (runV (C := R_M) (T := F_M) (N := 26) X (c_M_next l D t A g ma tv σ fm fj x hM hRq hV) (tbm 608 (by decide +kernel)) (tbm 610 (by decide +kernel)) (tbm 14 (by decide +kernel)) (tbm 23 (by decide +kernel)) (tbm 611 (by decide +kernel)) rfl (n := 1) (by decide +kernel) hR hf hP he9 hS hls rfl rfl hW hdg) hS (fun r u H1 locs1 hp hP1 hS1 => kk r H1 locs1 hp.1 (hp.2 ▸ hP1) hS1)

set_option maxHeartbeats 4000000 in
set_option maxRecDepth 100000 in
theorem lp_M_pay2 {p : Program} {l : Launch} {e : Env} {s : State} {m : MethodId} {below : List Frame} {meth : Method} {c : Code} {D : va_G} {t : Nat → ClassId} {A : Nat → Prop} (g0 : hG) (ma : Nat → Nat) (σ : SS) (q cc0 : Nat) (y : Int32) (PO : Int32 → hG → Prop) (hV : Inv σ) (hq : q < 30) (hB : sKR σ q + cc0 < 4611686018427387904) (hPO : ∀ G, RMx t ma 0 (stK (pyS σ (payF σ q cc0 (sND σ)).2.2) q (payF σ q cc0 (sND σ)).1) G → Keep (mF ma) g0 G → PO (nI (payF σ q cc0 (sND σ)).2.1) G) (X : Cx p s m ([.ref (ma 0), .int (nI q), .int y] : List Value).toArray meth c R_M b_M_pay 8 (some .int) TB D vwCl (tyL t) EX A "pay") : ∀ (k : Nat) (i pu sv nx : Nat) (dv : Nat → DV) (fm : Nat → Nat → Int32) (fj : Nat → Nat → Int64) (G : hG) (H : Heap) (locs : List Loc) (ls : Array Slot) (_ : i ≤ sND σ) (_ : sND σ + 1 ≤ i + k) (_ : payF σ q cc0 i = (pu, sv, dv)) (_ : MC t G ma 0 (nI (sNR σ)) (nI (sNL σ)) (nI (sND σ)) (nI (sNC σ)) (sTH σ) fm fj) (_ : MRel fm fj (pyS σ dv)) (_ : ∀ d, d < sND σ → (sLV σ (dv d).1).2.1 = q → (fm 19 (d + 1) = 0 ↔ ∀ j, j < i → sOD σ j ≠ d)) (_ : nx = nxt (pyS σ dv) (nI q) (fm 19) (sND σ)) (_ : Keep (mF ma) g0 G) (_ : hw D vwCl A G H) (_ : va_S A s.heap H locs) (_ : lv_has ls 8 [(6, .int (nI nx)), (5, .int (nI sv)), (3, .long (lN pu)), (0, .ref (ma 0)), (1, .int (nI q)), (2, .int y)]), W p l e ({ frames := 2, cells := 0, slots := 0, locals := 45 } : Room) s m ([.ref (ma 0), .int (nI q), .int y] : List Value).toArray below meth c H locs 0 0 (MQ below (va_Qi (PO) (fun u v => hw D vwCl A u v.heap) A) ([.ref (ma 0), .int (nI q), .int y] : List Value).toArray s 0 0 A) (F0 m 77 ls []) := by
  obtain ⟨hx, hb, hml, hr, hts, hown, hlocks, hK, hEs, hA, hnm⟩ := id X
  intro k
  induction k with
  | zero => exact fun i pu sv nx dv fm fj G H locs ls h1 h2 => absurd h2 (by omega)
  | succ k ih =>
    intro i pu sv nx dv fm fj G H locs ls hi hk hpf hMi hRi hsv hnx hKi hP hS hl
    have hV1 : Inv (pyS σ dv) := by have h9 := payF_inv hV (q := q) (c := cc0) i hi; rw [hpf] at h9; exact h9
    have hpu : pu < 4611686018427387904 := by have h9 := (payF_b (σ := σ) (q := q) (c := cc0) i).1; rw [hpf] at h9; exact Nat.lt_of_le_of_lt h9 hB
    have hsb : sv ≤ i := by have h9 := (payF_b (σ := σ) (q := q) (c := cc0) i).2; rw [hpf] at h9; exact h9
    have hn3 := hV.1.2.2.1
    have hinj := hMi.2.2
    have b0 := hMi.1
    have hnb : nx ≤ sND σ := by rw [hnx]; exact nxt_le _ _ _ _
    have b19 : G (ma 19) = some (arZ t 201 (fm 19)) := hMi.2.1 19 (by decide) (by decide)
    have b15 : G (ma 15) = some (arI t 201 (fm 15)) := hMi.2.1 15 (by decide) (by decide)
    have b16 : G (ma 16) = some (arI t 201 (fm 16)) := hMi.2.1 16 (by decide) (by decide)
    have b20 : G (ma 20) = some (arJ t 30 (fj 20)) := hMi.2.1 20 (by decide) (by decide)
    refine lv_iload hx hb d_M_pay_77 (lv_at hl 0 rfl) ?_
    refine lv_if_le (tgt := 172) hx hb d_M_pay_79 (by decide) (fun c_1 => ?_) (fun c_1 => ?_)
    · refine lv_aload_n hx hb d_M_pay_172 rfl (lv_at hl 3 rfl) ?_
      refine g_M_69 X hb hP b0 rfl d_M_pay_173 ?_
      refine lv_iload_n hx hb d_M_pay_176 rfl (lv_at hl 4 rfl) ?_
      refine lv_lload_n hx hb d_M_pay_177 rfl (lv_at hl 2 rfl) ?_
      refine n_last X hb hP hS b20 ⟨by omega, by decide⟩ d_M_pay_178 (fun H locs hP hS => ?_)
      have he_2 := up_at (o := some (arJ t 30 (va_up (fj 20) q (lN pu)))) b0 (mne hinj 0 20 (by decide) (by decide) (by decide))
      have he_3 := up_at (o := some (arJ t 30 (va_up (fj 20) q (lN pu)))) b19 (mne hinj 19 20 (by decide) (by decide) (by decide))
      have he_4 := up_at (o := some (arJ t 30 (va_up (fj 20) q (lN pu)))) b15 (mne hinj 15 20 (by decide) (by decide) (by decide))
      have he_5 := up_at (o := some (arJ t 30 (va_up (fj 20) q (lN pu)))) b16 (mne hinj 16 20 (by decide) (by decide) (by decide))
      have he_6 := va_up_self G (ma 20) (some (arJ t 30 (va_up (fj 20) q (lN pu)) : va_E))
      have hP : hw D vwCl A (va_up G (ma 20) (some (arJ t 30 (va_up (fj 20) q (lN pu))))) H := hP
      refine lv_iload hx hb d_M_pay_179 (lv_at hl 1 rfl) ?_
      have hfi : payF σ q cc0 (sND σ) = (pu, sv, dv) := by
        rcases nxt_ord (τ := pyS σ dv) hV1 hq hsv with ⟨_, h2⟩ | ⟨i2, _, _, h3, _⟩
        · have h9 := payF_skip hpf (sND σ - i) (fun k h1 h3 => h2 k h1 (show k < sND σ by omega)); rw [show i + (sND σ - i) = sND σ by omega] at h9; exact h9
        · have h4 := hnx.trans h3; have h5 := nxt_le (pyS σ dv) (nI q) (fm 19) (sND σ); have h6 := (nI_leI (a := nx) (b := 0) (by omega) (by omega)).mp c_1; omega
      exact h_iret hx hb hr hlocks (Nat.le_of_ble_eq_true rfl) (Nat.le_of_ble_eq_true rfl) hP hS (by rw [hfi] at hPO; exact hPO _ ⟨_, _, MC.aj (hMi) 20 ⟨by decide, by decide⟩ q (lN pu), MRel_credit hRi q pu⟩ (Keep.up (hKi) (Or.inl (mF_i ma 20 (by decide))))) d_M_pay_181
    · obtain ⟨i2, hi1, hi2, hn2, hper, hgap⟩ := (nxt_ord (τ := pyS σ dv) hV1 hq hsv).resolve_left (fun h => c_1 (by rw [hnx]; show nI (nxt (pyS σ dv) (nI q) (fm 19) (sND (pyS σ dv))) ≤ 0; rw [h.1]; decide))
      have hi2 : i2 < sND σ := hi2
      obtain rfl : nx = sOD σ i2 + 1 := hnx.trans hn2
      have hod : sOD σ i2 < sND σ := hV.2.2.2.2.2.1 i2 hi2
      obtain ⟨-, -, d3, d4, -, -⟩ := hRi.2.2.1 (sOD σ i2) hod
      have d3 : fm 15 (sOD σ i2 + 1) = nI (dv (sOD σ i2)).2.2.1 := d3
      have d4 : fm 16 (sOD σ i2 + 1) = nI (dv (sOD σ i2)).2.2.2.1 := d4
      have hdv : (dv (sOD σ i2)).2.1 ≤ 10000000 ∧ (dv (sOD σ i2)).2.2.1 + (dv (sOD σ i2)).2.2.2.1 ≤ (dv (sOD σ i2)).2.1 := (hV1.2.2.2.1 _ hod).2
      have hpf1 : payF σ q cc0 i2 = (pu, sv, dv) := by have h9 := payF_skip hpf (i2 - i) (fun k h1 h2 => hgap k h1 (by omega)); rw [show i + (i2 - i) = i2 by omega] at h9; exact h9
      have hpf2 := payF_step hpf1 hper
      refine lv_aload_n hx hb d_M_pay_82 rfl (lv_at hl 3 rfl) ?_
      refine g_M_65 X hb hP b0 rfl d_M_pay_83 ?_
      refine lv_iload hx hb d_M_pay_86 (lv_at hl 0 rfl) ?_
      refine lv_iconst (v := 1) hx hb d_M_pay_88 (by decide) ?_
      refine n_zast X hb hP hS b19 ⟨by omega, by decide⟩ rfl d_M_pay_89 (fun H locs hP hS => ?_)
      have he_7 := up_at (o := some (arZ t 201 (va_up (fm 19) (sOD σ i2 + 1) 1))) b0 (mne hinj 0 19 (by decide) (by decide) (by decide))
      have he_8 := up_at (o := some (arZ t 201 (va_up (fm 19) (sOD σ i2 + 1) 1))) b15 (mne hinj 15 19 (by decide) (by decide) (by decide))
      have he_9 := up_at (o := some (arZ t 201 (va_up (fm 19) (sOD σ i2 + 1) 1))) b16 (mne hinj 16 19 (by decide) (by decide) (by decide))
      have he_10 := up_at (o := some (arZ t 201 (va_up (fm 19) (sOD σ i2 + 1) 1))) b20 (mne hinj 20 19 (by decide) (by decide) (by decide))
      have he_11 := va_up_self G (ma 19) (some (arZ t 201 (va_up (fm 19) (sOD σ i2 + 1) 1) : va_E))
      have hP : hw D vwCl A (va_up G (ma 19) (some (arZ t 201 (va_up (fm 19) (sOD σ i2 + 1) 1)))) H := hP
      refine lv_aload_n hx hb d_M_pay_90 rfl (lv_at hl 3 rfl) ?_
      refine g_M_53 X hb hP he_7 rfl d_M_pay_91 ?_
      refine lv_iload hx hb d_M_pay_94 (lv_at hl 0 rfl) ?_
      refine n_iald X hb hP he_8 ⟨by omega, by decide⟩ d_M_pay_96 ?_
      refine lv_i2l hx hb d_M_pay_97 rfl ?_
      refine lv_lload_n hx hb d_M_pay_98 rfl (lv_at hl 2 rfl) ?_
      refine W.lcmp hx hb d_M_pay_99 ?_
      refine lv_if_ge (tgt := 113) hx hb d_M_pay_100 (by decide) (fun c_12 => ?_) (fun c_12 => ?_)
      · rw [lg_cmp_ge] at c_12
        refine lv_lload_n hx hb d_M_pay_113 rfl (lv_at hl 2 rfl) ?_
        refine lv_l2i hx hb d_M_pay_114 rfl ?_
        refine lv_topi (fun x_13 ex_13 => ?_)
        refine lv_istore (lv' := [(7, .int x_13), (6, .int (nI (sOD σ i2 + 1))), (5, .int (nI sv)), (3, .long (lN pu)), (0, .ref (ma 0)), (1, .int (nI q)), (2, .int y)]) hx hb d_M_pay_115 hl (by decide) rfl (fun ls hl => ?_)
        obtain rfl : x_13 = nI (min pu (dv (sOD σ i2)).2.2.1) := by rw [ex_13]; have h9 := c_12; rw [d3, nI_l (by omega)] at h9; have h8 := (pk_lLE (by omega) (by omega)).mp h9; rw [Nat.min_eq_left h8]; exact l2iP (by omega)
        refine lv_aload_n hx hb d_M_pay_117 rfl (lv_at hl 4 rfl) ?_
        refine g_M_53 X hb hP he_7 rfl d_M_pay_118 ?_
        refine lv_iload hx hb d_M_pay_121 (lv_at hl 1 rfl) ?_
        refine lv_dup2_11 hx hb d_M_pay_123 rfl rfl ?_
        refine n_iald X hb hP he_8 ⟨by omega, by decide⟩ d_M_pay_124 ?_
        refine lv_iload hx hb d_M_pay_125 (lv_at hl 0 rfl) ?_
        refine lv_isub hx hb d_M_pay_127 ?_
        rw [show ((fm 15) (sOD σ i2 + 1)) - (nI (min pu (dv (sOD σ i2)).2.2.1)) = nI ((dv (sOD σ i2)).2.2.1 - (min pu (dv (sOD σ i2)).2.2.1)) from by rw [d3, nI_sub (Nat.min_le_right _ _)]]
        refine n_iast X hb hP hS he_8 ⟨by omega, by decide⟩ d_M_pay_128 (fun H locs hP hS => ?_)
        have he_14 := up_at (o := some (arI t 201 (va_up (fm 15) (sOD σ i2 + 1) (nI ((dv (sOD σ i2)).2.2.1 - (min pu (dv (sOD σ i2)).2.2.1)))))) he_7 (mne hinj 0 15 (by decide) (by decide) (by decide))
        have he_15 := up_at (o := some (arI t 201 (va_up (fm 15) (sOD σ i2 + 1) (nI ((dv (sOD σ i2)).2.2.1 - (min pu (dv (sOD σ i2)).2.2.1)))))) he_9 (mne hinj 16 15 (by decide) (by decide) (by decide))
        have he_16 := up_at (o := some (arI t 201 (va_up (fm 15) (sOD σ i2 + 1) (nI ((dv (sOD σ i2)).2.2.1 - (min pu (dv (sOD σ i2)).2.2.1)))))) he_10 (mne hinj 20 15 (by decide) (by decide) (by decide))
        have he_17 := up_at (o := some (arI t 201 (va_up (fm 15) (sOD σ i2 + 1) (nI ((dv (sOD σ i2)).2.2.1 - (min pu (dv (sOD σ i2)).2.2.1)))))) he_11 (mne hinj 19 15 (by decide) (by decide) (by decide))
        have he_18 := va_up_self (va_up G (ma 19) (some (arZ t 201 (va_up (fm 19) (sOD σ i2 + 1) 1)))) (ma 15) (some (arI t 201 (va_up (fm 15) (sOD σ i2 + 1) (nI ((dv (sOD σ i2)).2.2.1 - (min pu (dv (sOD σ i2)).2.2.1)))) : va_E))
        have hP : hw D vwCl A (va_up (va_up G (ma 19) (some (arZ t 201 (va_up (fm 19) (sOD σ i2 + 1) 1)))) (ma 15) (some (arI t 201 (va_up (fm 15) (sOD σ i2 + 1) (nI ((dv (sOD σ i2)).2.2.1 - (min pu (dv (sOD σ i2)).2.2.1))))))) H := hP
        refine lv_aload_n hx hb d_M_pay_129 rfl (lv_at hl 4 rfl) ?_
        refine g_M_56 X hb hP he_14 rfl d_M_pay_130 ?_
        refine lv_iload hx hb d_M_pay_133 (lv_at hl 1 rfl) ?_
        refine lv_dup2_11 hx hb d_M_pay_135 rfl rfl ?_
        refine n_iald X hb hP he_15 ⟨by omega, by decide⟩ d_M_pay_136 ?_
        refine lv_iload hx hb d_M_pay_137 (lv_at hl 0 rfl) ?_
        refine lv_iadd hx hb d_M_pay_139 ?_
        rw [show ((fm 16) (sOD σ i2 + 1)) + (nI (min pu (dv (sOD σ i2)).2.2.1)) = nI ((dv (sOD σ i2)).2.2.2.1 + (min pu (dv (sOD σ i2)).2.2.1)) from by rw [d4, nI_add]]
        refine n_iast X hb hP hS he_15 ⟨by omega, by decide⟩ d_M_pay_140 (fun H locs hP hS => ?_)
        have he_19 := up_at (o := some (arI t 201 (va_up (fm 16) (sOD σ i2 + 1) (nI ((dv (sOD σ i2)).2.2.2.1 + (min pu (dv (sOD σ i2)).2.2.1)))))) he_14 (mne hinj 0 16 (by decide) (by decide) (by decide))
        have he_20 := up_at (o := some (arI t 201 (va_up (fm 16) (sOD σ i2 + 1) (nI ((dv (sOD σ i2)).2.2.2.1 + (min pu (dv (sOD σ i2)).2.2.1)))))) he_16 (mne hinj 20 16 (by decide) (by decide) (by decide))
        have he_21 := up_at (o := some (arI t 201 (va_up (fm 16) (sOD σ i2 + 1) (nI ((dv (sOD σ i2)).2.2.2.1 + (min pu (dv (sOD σ i2)).2.2.1)))))) he_17 (mne hinj 19 16 (by decide) (by decide) (by decide))
        have he_22 := up_at (o := some (arI t 201 (va_up (fm 16) (sOD σ i2 + 1) (nI ((dv (sOD σ i2)).2.2.2.1 + (min pu (dv (sOD σ i2)).2.2.1)))))) he_18 (mne hinj 15 16 (by decide) (by decide) (by decide))
        have he_23 := va_up_self (va_up (va_up G (ma 19) (some (arZ t 201 (va_up (fm 19) (sOD σ i2 + 1) 1)))) (ma 15) (some (arI t 201 (va_up (fm 15) (sOD σ i2 + 1) (nI ((dv (sOD σ i2)).2.2.1 - (min pu (dv (sOD σ i2)).2.2.1))))))) (ma 16) (some (arI t 201 (va_up (fm 16) (sOD σ i2 + 1) (nI ((dv (sOD σ i2)).2.2.2.1 + (min pu (dv (sOD σ i2)).2.2.1)))) : va_E))
        have hP : hw D vwCl A (va_up (va_up (va_up G (ma 19) (some (arZ t 201 (va_up (fm 19) (sOD σ i2 + 1) 1)))) (ma 15) (some (arI t 201 (va_up (fm 15) (sOD σ i2 + 1) (nI ((dv (sOD σ i2)).2.2.1 - (min pu (dv (sOD σ i2)).2.2.1))))))) (ma 16) (some (arI t 201 (va_up (fm 16) (sOD σ i2 + 1) (nI ((dv (sOD σ i2)).2.2.2.1 + (min pu (dv (sOD σ i2)).2.2.1))))))) H := hP
        refine lv_lload_n hx hb d_M_pay_141 rfl (lv_at hl 3 rfl) ?_
        refine lv_iload hx hb d_M_pay_142 (lv_at hl 0 rfl) ?_
        refine lv_i2l hx hb d_M_pay_144 rfl ?_
        refine lv_lsub hx hb d_M_pay_145 ?_
        refine lv_topl (fun x_24 ex_24 => ?_)
        refine lv_lstore_n (lv' := [(3, .long x_24), (7, .int (nI (min pu (dv (sOD σ i2)).2.2.1))), (6, .int (nI (sOD σ i2 + 1))), (5, .int (nI sv)), (0, .ref (ma 0)), (1, .int (nI q)), (2, .int y)]) hx hb d_M_pay_146 rfl hl (by decide) rfl (fun ls hl => ?_)
        obtain rfl : x_24 = lN (pu - (min pu (dv (sOD σ i2)).2.2.1)) := by rw [ex_24, nI_l (by omega), lN_sub (Nat.min_le_left _ _)]
        refine lv_iload hx hb d_M_pay_147 (lv_at hl 3 rfl) ?_
        refine lv_iload hx hb d_M_pay_149 (lv_at hl 1 rfl) ?_
        refine lv_if_le (tgt := 158) hx hb d_M_pay_151 (by decide) (fun c_25 => ?_) (fun c_25 => ?_)
        · refine lv_iconst (v := 0) hx hb d_M_pay_158 (by decide) ?_
          refine lv_iadd hx hb d_M_pay_159 ?_
          refine lv_topi (fun x_26 ex_26 => ?_)
          refine lv_istore (lv' := [(5, .int x_26), (3, .long (lN (pu - (min pu (dv (sOD σ i2)).2.2.1)))), (7, .int (nI (min pu (dv (sOD σ i2)).2.2.1))), (6, .int (nI (sOD σ i2 + 1))), (0, .ref (ma 0)), (1, .int (nI q)), (2, .int y)]) hx hb d_M_pay_160 hl (by decide) rfl (fun ls hl => ?_)
          obtain rfl : x_26 = nI (if (min pu (dv (sOD σ i2)).2.2.1) = 0 then sv else sv + 1) := by rw [ex_26, if_pos (by have h9 := (nI_leI (b := 0) (by omega) (by omega)).mp c_25; omega)]; simp
          obtain ⟨fm2, hfm2⟩ : ∃ z : Nat → Nat → Int32, z = va_up (va_up (va_up fm 19 (va_up (fm 19) (sOD σ i2 + 1) 1)) 15 (va_up (fm 15) (sOD σ i2 + 1) (nI ((dv (sOD σ i2)).2.2.1 - (min pu (dv (sOD σ i2)).2.2.1))))) 16 (va_up (fm 16) (sOD σ i2 + 1) (nI ((dv (sOD σ i2)).2.2.2.1 + (min pu (dv (sOD σ i2)).2.2.1)))) := ⟨_, rfl⟩
          have hM2 : MC t (va_up (va_up (va_up G (ma 19) (some (arZ t 201 (va_up (fm 19) (sOD σ i2 + 1) 1)))) (ma 15) (some (arI t 201 (va_up (fm 15) (sOD σ i2 + 1) (nI ((dv (sOD σ i2)).2.2.1 - (min pu (dv (sOD σ i2)).2.2.1))))))) (ma 16) (some (arI t 201 (va_up (fm 16) (sOD σ i2 + 1) (nI ((dv (sOD σ i2)).2.2.2.1 + (min pu (dv (sOD σ i2)).2.2.1))))))) ma 0 (nI (sNR σ)) (nI (sNL σ)) (nI (sND σ)) (nI (sNC σ)) (sTH σ) fm2 fj := by rw [hfm2]; exact MC.ai (MC.ai (MC.ai (hMi) 19 ⟨by decide, by decide⟩ (sOD σ i2 + 1) 1) 15 ⟨by decide, by decide⟩ (sOD σ i2 + 1) (nI ((dv (sOD σ i2)).2.2.1 - (min pu (dv (sOD σ i2)).2.2.1)))) 16 ⟨by decide, by decide⟩ (sOD σ i2 + 1) (nI ((dv (sOD σ i2)).2.2.2.1 + (min pu (dv (sOD σ i2)).2.2.1)))
          have hR2 : MRel fm2 fj (pyS σ (va_up dv (sOD σ i2) (pyT (dv (sOD σ i2)) pu))) := by rw [hfm2]; exact MRel_paid (MRel_served hRi (sOD σ i2 + 1) 1) (sOD σ i2) (pyT (dv (sOD σ i2)) pu) ⟨rfl, rfl, rfl⟩
          have hV2 : Inv (pyS σ (va_up dv (sOD σ i2) (pyT (dv (sOD σ i2)) pu))) := Inv_pyT hV1 hod
          have h19 : fm2 19 = va_up (fm 19) (sOD σ i2 + 1) 1 := by rw [hfm2]; rfl
          have hK2 : Keep (mF ma) g0 (va_up (va_up (va_up G (ma 19) (some (arZ t 201 (va_up (fm 19) (sOD σ i2 + 1) 1)))) (ma 15) (some (arI t 201 (va_up (fm 15) (sOD σ i2 + 1) (nI ((dv (sOD σ i2)).2.2.1 - (min pu (dv (sOD σ i2)).2.2.1))))))) (ma 16) (some (arI t 201 (va_up (fm 16) (sOD σ i2 + 1) (nI ((dv (sOD σ i2)).2.2.2.1 + (min pu (dv (sOD σ i2)).2.2.1))))))) := Keep.up (Keep.up (Keep.up (hKi) (Or.inl (mF_i ma 19 (by decide)))) (Or.inl (mF_i ma 15 (by decide)))) (Or.inl (mF_i ma 16 (by decide)))
          have hs2 := sv_step (L := sLV σ) (od := sOD σ) (i2 := i2) (dv2 := va_up dv (sOD σ i2) (pyT (dv (sOD σ i2)) pu)) hsv hi1 hgap (fun d hd => va_up_ne _ _ hd)
          rw [← h19] at hs2
          refine lv_aload_n hx hb d_M_pay_162 rfl (lv_at hl 4 rfl) ?_
          refine lv_iload_n hx hb d_M_pay_163 rfl (lv_at hl 5 rfl) ?_
          refine k_M_138 X ⟨Nat.le_of_ble_eq_true rfl, Nat.le_of_ble_eq_true rfl⟩ ⟨Nat.le_of_ble_eq_true rfl, Nat.le_of_ble_eq_true rfl⟩ hl.1 hP hS (σ := pyS σ (va_up dv (sOD σ i2) (pyT (dv (sOD σ i2)) pu))) he_19 hM2 hR2 hV2 (by exact Nat.le_of_ble_eq_true rfl) d_M_pay_164 (fun r_27 H locs er_27 hP hS => ?_)
          refine lv_istore (lv' := [(6, .int r_27), (5, .int (nI (if (min pu (dv (sOD σ i2)).2.2.1) = 0 then sv else sv + 1))), (3, .long (lN (pu - (min pu (dv (sOD σ i2)).2.2.1)))), (7, .int (nI (min pu (dv (sOD σ i2)).2.2.1))), (0, .ref (ma 0)), (1, .int (nI q)), (2, .int y)]) hx hb d_M_pay_167 hl (by decide) rfl (fun ls hl => ?_)
          refine lv_goto (tgt := 77) hx hb d_M_pay_169 (by decide) ?_
          subst er_27
          exact ih (i2 + 1) _ _ _ _ fm2 fj _ H locs ls (by omega) (by omega) hpf2 hM2 hR2 hs2 rfl hK2 hP hS (lv_sub hl [0, 1, 2, 4, 5, 6] rfl)
        · refine lv_iconst (v := 1) hx hb d_M_pay_154 (by decide) ?_
          refine lv_goto (tgt := 159) hx hb d_M_pay_155 (by decide) ?_
          refine lv_iadd hx hb d_M_pay_159 ?_
          refine lv_topi (fun x_28 ex_28 => ?_)
          refine lv_istore (lv' := [(5, .int x_28), (3, .long (lN (pu - (min pu (dv (sOD σ i2)).2.2.1)))), (7, .int (nI (min pu (dv (sOD σ i2)).2.2.1))), (6, .int (nI (sOD σ i2 + 1))), (0, .ref (ma 0)), (1, .int (nI q)), (2, .int y)]) hx hb d_M_pay_160 hl (by decide) rfl (fun ls hl => ?_)
          obtain rfl : x_28 = nI (if (min pu (dv (sOD σ i2)).2.2.1) = 0 then sv else sv + 1) := by rw [ex_28, if_neg (fun z => c_25 (by rw [z]; decide)), nI_1]
          obtain ⟨fm2, hfm2⟩ : ∃ z : Nat → Nat → Int32, z = va_up (va_up (va_up fm 19 (va_up (fm 19) (sOD σ i2 + 1) 1)) 15 (va_up (fm 15) (sOD σ i2 + 1) (nI ((dv (sOD σ i2)).2.2.1 - (min pu (dv (sOD σ i2)).2.2.1))))) 16 (va_up (fm 16) (sOD σ i2 + 1) (nI ((dv (sOD σ i2)).2.2.2.1 + (min pu (dv (sOD σ i2)).2.2.1)))) := ⟨_, rfl⟩
          have hM2 : MC t (va_up (va_up (va_up G (ma 19) (some (arZ t 201 (va_up (fm 19) (sOD σ i2 + 1) 1)))) (ma 15) (some (arI t 201 (va_up (fm 15) (sOD σ i2 + 1) (nI ((dv (sOD σ i2)).2.2.1 - (min pu (dv (sOD σ i2)).2.2.1))))))) (ma 16) (some (arI t 201 (va_up (fm 16) (sOD σ i2 + 1) (nI ((dv (sOD σ i2)).2.2.2.1 + (min pu (dv (sOD σ i2)).2.2.1))))))) ma 0 (nI (sNR σ)) (nI (sNL σ)) (nI (sND σ)) (nI (sNC σ)) (sTH σ) fm2 fj := by rw [hfm2]; exact MC.ai (MC.ai (MC.ai (hMi) 19 ⟨by decide, by decide⟩ (sOD σ i2 + 1) 1) 15 ⟨by decide, by decide⟩ (sOD σ i2 + 1) (nI ((dv (sOD σ i2)).2.2.1 - (min pu (dv (sOD σ i2)).2.2.1)))) 16 ⟨by decide, by decide⟩ (sOD σ i2 + 1) (nI ((dv (sOD σ i2)).2.2.2.1 + (min pu (dv (sOD σ i2)).2.2.1)))
          have hR2 : MRel fm2 fj (pyS σ (va_up dv (sOD σ i2) (pyT (dv (sOD σ i2)) pu))) := by rw [hfm2]; exact MRel_paid (MRel_served hRi (sOD σ i2 + 1) 1) (sOD σ i2) (pyT (dv (sOD σ i2)) pu) ⟨rfl, rfl, rfl⟩
          have hV2 : Inv (pyS σ (va_up dv (sOD σ i2) (pyT (dv (sOD σ i2)) pu))) := Inv_pyT hV1 hod
          have h19 : fm2 19 = va_up (fm 19) (sOD σ i2 + 1) 1 := by rw [hfm2]; rfl
          have hK2 : Keep (mF ma) g0 (va_up (va_up (va_up G (ma 19) (some (arZ t 201 (va_up (fm 19) (sOD σ i2 + 1) 1)))) (ma 15) (some (arI t 201 (va_up (fm 15) (sOD σ i2 + 1) (nI ((dv (sOD σ i2)).2.2.1 - (min pu (dv (sOD σ i2)).2.2.1))))))) (ma 16) (some (arI t 201 (va_up (fm 16) (sOD σ i2 + 1) (nI ((dv (sOD σ i2)).2.2.2.1 + (min pu (dv (sOD σ i2)).2.2.1))))))) := Keep.up (Keep.up (Keep.up (hKi) (Or.inl (mF_i ma 19 (by decide)))) (Or.inl (mF_i ma 15 (by decide)))) (Or.inl (mF_i ma 16 (by decide)))
          have hs2 := sv_step (L := sLV σ) (od := sOD σ) (i2 := i2) (dv2 := va_up dv (sOD σ i2) (pyT (dv (sOD σ i2)) pu)) hsv hi1 hgap (fun d hd => va_up_ne _ _ hd)
          rw [← h19] at hs2
          refine lv_aload_n hx hb d_M_pay_162 rfl (lv_at hl 4 rfl) ?_
          refine lv_iload_n hx hb d_M_pay_163 rfl (lv_at hl 5 rfl) ?_
          refine k_M_138 X ⟨Nat.le_of_ble_eq_true rfl, Nat.le_of_ble_eq_true rfl⟩ ⟨Nat.le_of_ble_eq_true rfl, Nat.le_of_ble_eq_true rfl⟩ hl.1 hP hS (σ := pyS σ (va_up dv (sOD σ i2) (pyT (dv (sOD σ i2)) pu))) he_19 hM2 hR2 hV2 (by exact Nat.le_of_ble_eq_true rfl) d_M_pay_164 (fun r_29 H locs er_29 hP hS => ?_)
          refine lv_istore (lv' := [(6, .int r_29), (5, .int (nI (if (min pu (dv (sOD σ i2)).2.2.1) = 0 then sv else sv + 1))), (3, .long (lN (pu - (min pu (dv (sOD σ i2)).2.2.1)))), (7, .int (nI (min pu (dv (sOD σ i2)).2.2.1))), (0, .ref (ma 0)), (1, .int (nI q)), (2, .int y)]) hx hb d_M_pay_167 hl (by decide) rfl (fun ls hl => ?_)
          refine lv_goto (tgt := 77) hx hb d_M_pay_169 (by decide) ?_
          subst er_29
          exact ih (i2 + 1) _ _ _ _ fm2 fj _ H locs ls (by omega) (by omega) hpf2 hM2 hR2 hs2 rfl hK2 hP hS (lv_sub hl [0, 1, 2, 4, 5, 6] rfl)
      · rw [lg_cmp_ge] at c_12
        refine lv_aload_n hx hb d_M_pay_103 rfl (lv_at hl 3 rfl) ?_
        refine g_M_53 X hb hP he_7 rfl d_M_pay_104 ?_
        refine lv_iload hx hb d_M_pay_107 (lv_at hl 0 rfl) ?_
        refine n_iald X hb hP he_8 ⟨by omega, by decide⟩ d_M_pay_109 ?_
        refine lv_goto (tgt := 115) hx hb d_M_pay_110 (by decide) ?_
        refine lv_topi (fun x_30 ex_30 => ?_)
        refine lv_istore (lv' := [(7, .int x_30), (6, .int (nI (sOD σ i2 + 1))), (5, .int (nI sv)), (3, .long (lN pu)), (0, .ref (ma 0)), (1, .int (nI q)), (2, .int y)]) hx hb d_M_pay_115 hl (by decide) rfl (fun ls hl => ?_)
        obtain rfl : x_30 = nI (min pu (dv (sOD σ i2)).2.2.1) := by rw [ex_30, d3]; have h9 := c_12; rw [d3, nI_l (by omega)] at h9; have h8 : ¬ pu ≤ (dv (sOD σ i2)).2.2.1 := fun z => h9 ((pk_lLE (by omega) (by omega)).mpr z); rw [Nat.min_eq_right (by omega)]
        refine lv_aload_n hx hb d_M_pay_117 rfl (lv_at hl 4 rfl) ?_
        refine g_M_53 X hb hP he_7 rfl d_M_pay_118 ?_
        refine lv_iload hx hb d_M_pay_121 (lv_at hl 1 rfl) ?_
        refine lv_dup2_11 hx hb d_M_pay_123 rfl rfl ?_
        refine n_iald X hb hP he_8 ⟨by omega, by decide⟩ d_M_pay_124 ?_
        refine lv_iload hx hb d_M_pay_125 (lv_at hl 0 rfl) ?_
        refine lv_isub hx hb d_M_pay_127 ?_
        rw [show ((fm 15) (sOD σ i2 + 1)) - (nI (min pu (dv (sOD σ i2)).2.2.1)) = nI ((dv (sOD σ i2)).2.2.1 - (min pu (dv (sOD σ i2)).2.2.1)) from by rw [d3, nI_sub (Nat.min_le_right _ _)]]
        refine n_iast X hb hP hS he_8 ⟨by omega, by decide⟩ d_M_pay_128 (fun H locs hP hS => ?_)
        have he_31 := up_at (o := some (arI t 201 (va_up (fm 15) (sOD σ i2 + 1) (nI ((dv (sOD σ i2)).2.2.1 - (min pu (dv (sOD σ i2)).2.2.1)))))) he_7 (mne hinj 0 15 (by decide) (by decide) (by decide))
        have he_32 := up_at (o := some (arI t 201 (va_up (fm 15) (sOD σ i2 + 1) (nI ((dv (sOD σ i2)).2.2.1 - (min pu (dv (sOD σ i2)).2.2.1)))))) he_9 (mne hinj 16 15 (by decide) (by decide) (by decide))
        have he_33 := up_at (o := some (arI t 201 (va_up (fm 15) (sOD σ i2 + 1) (nI ((dv (sOD σ i2)).2.2.1 - (min pu (dv (sOD σ i2)).2.2.1)))))) he_10 (mne hinj 20 15 (by decide) (by decide) (by decide))
        have he_34 := up_at (o := some (arI t 201 (va_up (fm 15) (sOD σ i2 + 1) (nI ((dv (sOD σ i2)).2.2.1 - (min pu (dv (sOD σ i2)).2.2.1)))))) he_11 (mne hinj 19 15 (by decide) (by decide) (by decide))
        have he_35 := va_up_self (va_up G (ma 19) (some (arZ t 201 (va_up (fm 19) (sOD σ i2 + 1) 1)))) (ma 15) (some (arI t 201 (va_up (fm 15) (sOD σ i2 + 1) (nI ((dv (sOD σ i2)).2.2.1 - (min pu (dv (sOD σ i2)).2.2.1)))) : va_E))
        have hP : hw D vwCl A (va_up (va_up G (ma 19) (some (arZ t 201 (va_up (fm 19) (sOD σ i2 + 1) 1)))) (ma 15) (some (arI t 201 (va_up (fm 15) (sOD σ i2 + 1) (nI ((dv (sOD σ i2)).2.2.1 - (min pu (dv (sOD σ i2)).2.2.1))))))) H := hP
        refine lv_aload_n hx hb d_M_pay_129 rfl (lv_at hl 4 rfl) ?_
        refine g_M_56 X hb hP he_31 rfl d_M_pay_130 ?_
        refine lv_iload hx hb d_M_pay_133 (lv_at hl 1 rfl) ?_
        refine lv_dup2_11 hx hb d_M_pay_135 rfl rfl ?_
        refine n_iald X hb hP he_32 ⟨by omega, by decide⟩ d_M_pay_136 ?_
        refine lv_iload hx hb d_M_pay_137 (lv_at hl 0 rfl) ?_
        refine lv_iadd hx hb d_M_pay_139 ?_
        rw [show ((fm 16) (sOD σ i2 + 1)) + (nI (min pu (dv (sOD σ i2)).2.2.1)) = nI ((dv (sOD σ i2)).2.2.2.1 + (min pu (dv (sOD σ i2)).2.2.1)) from by rw [d4, nI_add]]
        refine n_iast X hb hP hS he_32 ⟨by omega, by decide⟩ d_M_pay_140 (fun H locs hP hS => ?_)
        have he_36 := up_at (o := some (arI t 201 (va_up (fm 16) (sOD σ i2 + 1) (nI ((dv (sOD σ i2)).2.2.2.1 + (min pu (dv (sOD σ i2)).2.2.1)))))) he_31 (mne hinj 0 16 (by decide) (by decide) (by decide))
        have he_37 := up_at (o := some (arI t 201 (va_up (fm 16) (sOD σ i2 + 1) (nI ((dv (sOD σ i2)).2.2.2.1 + (min pu (dv (sOD σ i2)).2.2.1)))))) he_33 (mne hinj 20 16 (by decide) (by decide) (by decide))
        have he_38 := up_at (o := some (arI t 201 (va_up (fm 16) (sOD σ i2 + 1) (nI ((dv (sOD σ i2)).2.2.2.1 + (min pu (dv (sOD σ i2)).2.2.1)))))) he_34 (mne hinj 19 16 (by decide) (by decide) (by decide))
        have he_39 := up_at (o := some (arI t 201 (va_up (fm 16) (sOD σ i2 + 1) (nI ((dv (sOD σ i2)).2.2.2.1 + (min pu (dv (sOD σ i2)).2.2.1)))))) he_35 (mne hinj 15 16 (by decide) (by decide) (by decide))
        have he_40 := va_up_self (va_up (va_up G (ma 19) (some (arZ t 201 (va_up (fm 19) (sOD σ i2 + 1) 1)))) (ma 15) (some (arI t 201 (va_up (fm 15) (sOD σ i2 + 1) (nI ((dv (sOD σ i2)).2.2.1 - (min pu (dv (sOD σ i2)).2.2.1))))))) (ma 16) (some (arI t 201 (va_up (fm 16) (sOD σ i2 + 1) (nI ((dv (sOD σ i2)).2.2.2.1 + (min pu (dv (sOD σ i2)).2.2.1)))) : va_E))
        have hP : hw D vwCl A (va_up (va_up (va_up G (ma 19) (some (arZ t 201 (va_up (fm 19) (sOD σ i2 + 1) 1)))) (ma 15) (some (arI t 201 (va_up (fm 15) (sOD σ i2 + 1) (nI ((dv (sOD σ i2)).2.2.1 - (min pu (dv (sOD σ i2)).2.2.1))))))) (ma 16) (some (arI t 201 (va_up (fm 16) (sOD σ i2 + 1) (nI ((dv (sOD σ i2)).2.2.2.1 + (min pu (dv (sOD σ i2)).2.2.1))))))) H := hP
        refine lv_lload_n hx hb d_M_pay_141 rfl (lv_at hl 3 rfl) ?_
        refine lv_iload hx hb d_M_pay_142 (lv_at hl 0 rfl) ?_
        refine lv_i2l hx hb d_M_pay_144 rfl ?_
        refine lv_lsub hx hb d_M_pay_145 ?_
        refine lv_topl (fun x_41 ex_41 => ?_)
        refine lv_lstore_n (lv' := [(3, .long x_41), (7, .int (nI (min pu (dv (sOD σ i2)).2.2.1))), (6, .int (nI (sOD σ i2 + 1))), (5, .int (nI sv)), (0, .ref (ma 0)), (1, .int (nI q)), (2, .int y)]) hx hb d_M_pay_146 rfl hl (by decide) rfl (fun ls hl => ?_)
        obtain rfl : x_41 = lN (pu - (min pu (dv (sOD σ i2)).2.2.1)) := by rw [ex_41, nI_l (by omega), lN_sub (Nat.min_le_left _ _)]
        refine lv_iload hx hb d_M_pay_147 (lv_at hl 3 rfl) ?_
        refine lv_iload hx hb d_M_pay_149 (lv_at hl 1 rfl) ?_
        refine lv_if_le (tgt := 158) hx hb d_M_pay_151 (by decide) (fun c_42 => ?_) (fun c_42 => ?_)
        · refine lv_iconst (v := 0) hx hb d_M_pay_158 (by decide) ?_
          refine lv_iadd hx hb d_M_pay_159 ?_
          refine lv_topi (fun x_43 ex_43 => ?_)
          refine lv_istore (lv' := [(5, .int x_43), (3, .long (lN (pu - (min pu (dv (sOD σ i2)).2.2.1)))), (7, .int (nI (min pu (dv (sOD σ i2)).2.2.1))), (6, .int (nI (sOD σ i2 + 1))), (0, .ref (ma 0)), (1, .int (nI q)), (2, .int y)]) hx hb d_M_pay_160 hl (by decide) rfl (fun ls hl => ?_)
          obtain rfl : x_43 = nI (if (min pu (dv (sOD σ i2)).2.2.1) = 0 then sv else sv + 1) := by rw [ex_43, if_pos (by have h9 := (nI_leI (b := 0) (by omega) (by omega)).mp c_42; omega)]; simp
          obtain ⟨fm2, hfm2⟩ : ∃ z : Nat → Nat → Int32, z = va_up (va_up (va_up fm 19 (va_up (fm 19) (sOD σ i2 + 1) 1)) 15 (va_up (fm 15) (sOD σ i2 + 1) (nI ((dv (sOD σ i2)).2.2.1 - (min pu (dv (sOD σ i2)).2.2.1))))) 16 (va_up (fm 16) (sOD σ i2 + 1) (nI ((dv (sOD σ i2)).2.2.2.1 + (min pu (dv (sOD σ i2)).2.2.1)))) := ⟨_, rfl⟩
          have hM2 : MC t (va_up (va_up (va_up G (ma 19) (some (arZ t 201 (va_up (fm 19) (sOD σ i2 + 1) 1)))) (ma 15) (some (arI t 201 (va_up (fm 15) (sOD σ i2 + 1) (nI ((dv (sOD σ i2)).2.2.1 - (min pu (dv (sOD σ i2)).2.2.1))))))) (ma 16) (some (arI t 201 (va_up (fm 16) (sOD σ i2 + 1) (nI ((dv (sOD σ i2)).2.2.2.1 + (min pu (dv (sOD σ i2)).2.2.1))))))) ma 0 (nI (sNR σ)) (nI (sNL σ)) (nI (sND σ)) (nI (sNC σ)) (sTH σ) fm2 fj := by rw [hfm2]; exact MC.ai (MC.ai (MC.ai (hMi) 19 ⟨by decide, by decide⟩ (sOD σ i2 + 1) 1) 15 ⟨by decide, by decide⟩ (sOD σ i2 + 1) (nI ((dv (sOD σ i2)).2.2.1 - (min pu (dv (sOD σ i2)).2.2.1)))) 16 ⟨by decide, by decide⟩ (sOD σ i2 + 1) (nI ((dv (sOD σ i2)).2.2.2.1 + (min pu (dv (sOD σ i2)).2.2.1)))
          have hR2 : MRel fm2 fj (pyS σ (va_up dv (sOD σ i2) (pyT (dv (sOD σ i2)) pu))) := by rw [hfm2]; exact MRel_paid (MRel_served hRi (sOD σ i2 + 1) 1) (sOD σ i2) (pyT (dv (sOD σ i2)) pu) ⟨rfl, rfl, rfl⟩
          have hV2 : Inv (pyS σ (va_up dv (sOD σ i2) (pyT (dv (sOD σ i2)) pu))) := Inv_pyT hV1 hod
          have h19 : fm2 19 = va_up (fm 19) (sOD σ i2 + 1) 1 := by rw [hfm2]; rfl
          have hK2 : Keep (mF ma) g0 (va_up (va_up (va_up G (ma 19) (some (arZ t 201 (va_up (fm 19) (sOD σ i2 + 1) 1)))) (ma 15) (some (arI t 201 (va_up (fm 15) (sOD σ i2 + 1) (nI ((dv (sOD σ i2)).2.2.1 - (min pu (dv (sOD σ i2)).2.2.1))))))) (ma 16) (some (arI t 201 (va_up (fm 16) (sOD σ i2 + 1) (nI ((dv (sOD σ i2)).2.2.2.1 + (min pu (dv (sOD σ i2)).2.2.1))))))) := Keep.up (Keep.up (Keep.up (hKi) (Or.inl (mF_i ma 19 (by decide)))) (Or.inl (mF_i ma 15 (by decide)))) (Or.inl (mF_i ma 16 (by decide)))
          have hs2 := sv_step (L := sLV σ) (od := sOD σ) (i2 := i2) (dv2 := va_up dv (sOD σ i2) (pyT (dv (sOD σ i2)) pu)) hsv hi1 hgap (fun d hd => va_up_ne _ _ hd)
          rw [← h19] at hs2
          refine lv_aload_n hx hb d_M_pay_162 rfl (lv_at hl 4 rfl) ?_
          refine lv_iload_n hx hb d_M_pay_163 rfl (lv_at hl 5 rfl) ?_
          refine k_M_138 X ⟨Nat.le_of_ble_eq_true rfl, Nat.le_of_ble_eq_true rfl⟩ ⟨Nat.le_of_ble_eq_true rfl, Nat.le_of_ble_eq_true rfl⟩ hl.1 hP hS (σ := pyS σ (va_up dv (sOD σ i2) (pyT (dv (sOD σ i2)) pu))) he_36 hM2 hR2 hV2 (by exact Nat.le_of_ble_eq_true rfl) d_M_pay_164 (fun r_44 H locs er_44 hP hS => ?_)
          refine lv_istore (lv' := [(6, .int r_44), (5, .int (nI (if (min pu (dv (sOD σ i2)).2.2.1) = 0 then sv else sv + 1))), (3, .long (lN (pu - (min pu (dv (sOD σ i2)).2.2.1)))), (7, .int (nI (min pu (dv (sOD σ i2)).2.2.1))), (0, .ref (ma 0)), (1, .int (nI q)), (2, .int y)]) hx hb d_M_pay_167 hl (by decide) rfl (fun ls hl => ?_)
          refine lv_goto (tgt := 77) hx hb d_M_pay_169 (by decide) ?_
          subst er_44
          exact ih (i2 + 1) _ _ _ _ fm2 fj _ H locs ls (by omega) (by omega) hpf2 hM2 hR2 hs2 rfl hK2 hP hS (lv_sub hl [0, 1, 2, 4, 5, 6] rfl)
        · refine lv_iconst (v := 1) hx hb d_M_pay_154 (by decide) ?_
          refine lv_goto (tgt := 159) hx hb d_M_pay_155 (by decide) ?_
          refine lv_iadd hx hb d_M_pay_159 ?_
          refine lv_topi (fun x_45 ex_45 => ?_)
          refine lv_istore (lv' := [(5, .int x_45), (3, .long (lN (pu - (min pu (dv (sOD σ i2)).2.2.1)))), (7, .int (nI (min pu (dv (sOD σ i2)).2.2.1))), (6, .int (nI (sOD σ i2 + 1))), (0, .ref (ma 0)), (1, .int (nI q)), (2, .int y)]) hx hb d_M_pay_160 hl (by decide) rfl (fun ls hl => ?_)
          obtain rfl : x_45 = nI (if (min pu (dv (sOD σ i2)).2.2.1) = 0 then sv else sv + 1) := by rw [ex_45, if_neg (fun z => c_42 (by rw [z]; decide)), nI_1]
          obtain ⟨fm2, hfm2⟩ : ∃ z : Nat → Nat → Int32, z = va_up (va_up (va_up fm 19 (va_up (fm 19) (sOD σ i2 + 1) 1)) 15 (va_up (fm 15) (sOD σ i2 + 1) (nI ((dv (sOD σ i2)).2.2.1 - (min pu (dv (sOD σ i2)).2.2.1))))) 16 (va_up (fm 16) (sOD σ i2 + 1) (nI ((dv (sOD σ i2)).2.2.2.1 + (min pu (dv (sOD σ i2)).2.2.1)))) := ⟨_, rfl⟩
          have hM2 : MC t (va_up (va_up (va_up G (ma 19) (some (arZ t 201 (va_up (fm 19) (sOD σ i2 + 1) 1)))) (ma 15) (some (arI t 201 (va_up (fm 15) (sOD σ i2 + 1) (nI ((dv (sOD σ i2)).2.2.1 - (min pu (dv (sOD σ i2)).2.2.1))))))) (ma 16) (some (arI t 201 (va_up (fm 16) (sOD σ i2 + 1) (nI ((dv (sOD σ i2)).2.2.2.1 + (min pu (dv (sOD σ i2)).2.2.1))))))) ma 0 (nI (sNR σ)) (nI (sNL σ)) (nI (sND σ)) (nI (sNC σ)) (sTH σ) fm2 fj := by rw [hfm2]; exact MC.ai (MC.ai (MC.ai (hMi) 19 ⟨by decide, by decide⟩ (sOD σ i2 + 1) 1) 15 ⟨by decide, by decide⟩ (sOD σ i2 + 1) (nI ((dv (sOD σ i2)).2.2.1 - (min pu (dv (sOD σ i2)).2.2.1)))) 16 ⟨by decide, by decide⟩ (sOD σ i2 + 1) (nI ((dv (sOD σ i2)).2.2.2.1 + (min pu (dv (sOD σ i2)).2.2.1)))
          have hR2 : MRel fm2 fj (pyS σ (va_up dv (sOD σ i2) (pyT (dv (sOD σ i2)) pu))) := by rw [hfm2]; exact MRel_paid (MRel_served hRi (sOD σ i2 + 1) 1) (sOD σ i2) (pyT (dv (sOD σ i2)) pu) ⟨rfl, rfl, rfl⟩
          have hV2 : Inv (pyS σ (va_up dv (sOD σ i2) (pyT (dv (sOD σ i2)) pu))) := Inv_pyT hV1 hod
          have h19 : fm2 19 = va_up (fm 19) (sOD σ i2 + 1) 1 := by rw [hfm2]; rfl
          have hK2 : Keep (mF ma) g0 (va_up (va_up (va_up G (ma 19) (some (arZ t 201 (va_up (fm 19) (sOD σ i2 + 1) 1)))) (ma 15) (some (arI t 201 (va_up (fm 15) (sOD σ i2 + 1) (nI ((dv (sOD σ i2)).2.2.1 - (min pu (dv (sOD σ i2)).2.2.1))))))) (ma 16) (some (arI t 201 (va_up (fm 16) (sOD σ i2 + 1) (nI ((dv (sOD σ i2)).2.2.2.1 + (min pu (dv (sOD σ i2)).2.2.1))))))) := Keep.up (Keep.up (Keep.up (hKi) (Or.inl (mF_i ma 19 (by decide)))) (Or.inl (mF_i ma 15 (by decide)))) (Or.inl (mF_i ma 16 (by decide)))
          have hs2 := sv_step (L := sLV σ) (od := sOD σ) (i2 := i2) (dv2 := va_up dv (sOD σ i2) (pyT (dv (sOD σ i2)) pu)) hsv hi1 hgap (fun d hd => va_up_ne _ _ hd)
          rw [← h19] at hs2
          refine lv_aload_n hx hb d_M_pay_162 rfl (lv_at hl 4 rfl) ?_
          refine lv_iload_n hx hb d_M_pay_163 rfl (lv_at hl 5 rfl) ?_
          refine k_M_138 X ⟨Nat.le_of_ble_eq_true rfl, Nat.le_of_ble_eq_true rfl⟩ ⟨Nat.le_of_ble_eq_true rfl, Nat.le_of_ble_eq_true rfl⟩ hl.1 hP hS (σ := pyS σ (va_up dv (sOD σ i2) (pyT (dv (sOD σ i2)) pu))) he_36 hM2 hR2 hV2 (by exact Nat.le_of_ble_eq_true rfl) d_M_pay_164 (fun r_46 H locs er_46 hP hS => ?_)
          refine lv_istore (lv' := [(6, .int r_46), (5, .int (nI (if (min pu (dv (sOD σ i2)).2.2.1) = 0 then sv else sv + 1))), (3, .long (lN (pu - (min pu (dv (sOD σ i2)).2.2.1)))), (7, .int (nI (min pu (dv (sOD σ i2)).2.2.1))), (0, .ref (ma 0)), (1, .int (nI q)), (2, .int y)]) hx hb d_M_pay_167 hl (by decide) rfl (fun ls hl => ?_)
          refine lv_goto (tgt := 77) hx hb d_M_pay_169 (by decide) ?_
          subst er_46
          exact ih (i2 + 1) _ _ _ _ fm2 fj _ H locs ls (by omega) (by omega) hpf2 hM2 hR2 hs2 rfl hK2 hP hS (lv_sub hl [0, 1, 2, 4, 5, 6] rfl)

set_option maxHeartbeats 4000000 in
set_option maxRecDepth 100000 in
theorem lp_M_pay1 {p : Program} {l : Launch} {e : Env} {s : State} {m : MethodId} {below : List Frame} {meth : Method} {c : Code} {D : va_G} {t : Nat → ClassId} {A : Nat → Prop} (g0 : hG) (ma : Nat → Nat) (σ : SS) (q cc0 : Nat) (y : Int32) (PO : Int32 → hG → Prop) (hV : Inv σ) (hq : q < 30) (hB : sKR σ q + cc0 < 4611686018427387904) (hPO : ∀ G, RMx t ma 0 (stK (pyS σ (payF σ q cc0 (sND σ)).2.2) q (payF σ q cc0 (sND σ)).1) G → Keep (mF ma) g0 G → PO (nI (payF σ q cc0 (sND σ)).2.1) G) (X : Cx p s m ([.ref (ma 0), .int (nI q), .int y] : List Value).toArray meth c R_M b_M_pay 8 (some .int) TB D vwCl (tyL t) EX A "pay") : ∀ (k : Nat) (i : Nat) (fm : Nat → Nat → Int32) (fj : Nat → Nat → Int64) (G : hG) (H : Heap) (locs : List Loc) (ls : Array Slot) (_ : i ≤ sND σ) (_ : sND σ + 1 ≤ i + k) (_ : MC t G ma 0 (nI (sNR σ)) (nI (sNL σ)) (nI (sND σ)) (nI (sNC σ)) (sTH σ) fm fj) (_ : MRel fm fj σ) (_ : ∀ d, d < i → fm 19 (d + 1) = 0) (_ : Keep (mF ma) g0 G) (_ : hw D vwCl A G H) (_ : va_S A s.heap H locs) (_ : lv_has ls 8 [(5, .int (nI (i + 1))), (3, .long (lN (sKR σ q + cc0))), (0, .ref (ma 0)), (1, .int (nI q)), (2, .int y)]), W p l e ({ frames := 2, cells := 0, slots := 0, locals := 45 } : Room) s m ([.ref (ma 0), .int (nI q), .int y] : List Value).toArray below meth c H locs 0 0 (MQ below (va_Qi (PO) (fun u v => hw D vwCl A u v.heap) A) ([.ref (ma 0), .int (nI q), .int y] : List Value).toArray s 0 0 A) (F0 m 44 ls []) := by
  obtain ⟨hx, hb, hml, hr, hts, hown, hlocks, hK, hEs, hA, hnm⟩ := id X
  intro k
  induction k with
  | zero => exact fun i fm fj G H locs ls h1 h2 => absurd h2 (by omega)
  | succ k ih =>
    intro i fm fj G H locs ls hi hk hMi hRi hcl hKi hP hS hl
    have hn3 := hV.1.2.2.1
    have hinj := hMi.2.2
    have b0 := hMi.1
    have b19 : G (ma 19) = some (arZ t 201 (fm 19)) := hMi.2.1 19 (by decide) (by decide)
    refine lv_iload hx hb d_M_pay_44 (lv_at hl 0 rfl) ?_
    refine lv_aload_n hx hb d_M_pay_46 rfl (lv_at hl 2 rfl) ?_
    refine g_M_128 X hb hP b0 rfl d_M_pay_47 ?_
    refine lv_icmp_gt (tgt := 67) hx hb d_M_pay_50 (by decide) (fun c_1 => ?_) (fun c_1 => ?_)
    · have ei : i = sND σ := Nat.le_antisymm hi (Nat.le_of_lt_succ ((nI_ltI (by omega) (by omega)).mp c_1))
      refine lv_iconst (v := 0) hx hb d_M_pay_67 (by decide) ?_
      refine lv_istore (lv' := [(5, .int 0), (3, .long (lN (sKR σ q + cc0))), (0, .ref (ma 0)), (1, .int (nI q)), (2, .int y)]) hx hb d_M_pay_68 hl (by decide) rfl (fun ls hl => ?_)
      refine lv_aload_n hx hb d_M_pay_70 rfl (lv_at hl 2 rfl) ?_
      refine lv_iload_n hx hb d_M_pay_71 rfl (lv_at hl 3 rfl) ?_
      refine k_M_138 X ⟨Nat.le_of_ble_eq_true rfl, Nat.le_of_ble_eq_true rfl⟩ ⟨Nat.le_of_ble_eq_true rfl, Nat.le_of_ble_eq_true rfl⟩ hl.1 hP hS b0 hMi hRi hV (by exact Nat.le_of_ble_eq_true rfl) d_M_pay_72 (fun r_2 H locs er_2 hP hS => ?_)
      refine lv_istore (lv' := [(6, .int r_2), (5, .int 0), (3, .long (lN (sKR σ q + cc0))), (0, .ref (ma 0)), (1, .int (nI q)), (2, .int y)]) hx hb d_M_pay_75 hl (by decide) rfl (fun ls hl => ?_)
      subst er_2
      exact lp_M_pay2 g0 ma σ q cc0 y PO hV hq hB hPO X (sND σ + 1) 0 (sKR σ q + cc0) 0 _ (sDV σ) fm fj G _ _ ls (Nat.zero_le _) (by omega) rfl hMi hRi (fun d hd _ => ⟨fun _ j hj => absurd hj (Nat.not_lt_zero j), fun _ => hcl d (by omega)⟩) rfl hKi hP hS (lv_sub hl [0, 1, 2, 3, 4, 5] rfl)
    · have hlt : i < sND σ := Nat.lt_of_not_le (fun z => c_1 (nI_lt (by omega) (by omega)))
      refine lv_aload_n hx hb d_M_pay_53 rfl (lv_at hl 2 rfl) ?_
      refine g_M_65 X hb hP b0 rfl d_M_pay_54 ?_
      refine lv_iload hx hb d_M_pay_57 (lv_at hl 0 rfl) ?_
      refine lv_iconst (v := 0) hx hb d_M_pay_59 (by decide) ?_
      refine n_zast X hb hP hS b19 ⟨by omega, by decide⟩ rfl d_M_pay_60 (fun H locs hP hS => ?_)
      have he_3 := up_at (o := some (arZ t 201 (va_up (fm 19) (i + 1) 0))) b0 (mne hinj 0 19 (by decide) (by decide) (by decide))
      have he_4 := va_up_self G (ma 19) (some (arZ t 201 (va_up (fm 19) (i + 1) 0) : va_E))
      have hP : hw D vwCl A (va_up G (ma 19) (some (arZ t 201 (va_up (fm 19) (i + 1) 0)))) H := hP
      obtain ⟨x_5, ex_5⟩ : ∃ z : Int32, z = (nI (i + 1)) + 1 := ⟨_, rfl⟩
      refine lv_iinc (v := x_5) (lv' := [(5, .int x_5), (3, .long (lN (sKR σ q + cc0))), (0, .ref (ma 0)), (1, .int (nI q)), (2, .int y)]) hx hb d_M_pay_61 hl (k := 0) rfl (by rw [ex_5]; rfl) (by decide) rfl (fun ls hl => ?_)
      refine lv_goto (tgt := 44) hx hb d_M_pay_64 (by decide) ?_
      obtain rfl : x_5 = nI (i + 1 + 1) := by rw [ex_5]; exact nI_1 _
      exact ih (i + 1) _ fj _ H locs ls (by omega) (by omega) (MC.ai (hMi) 19 ⟨by decide, by decide⟩ (i + 1) 0) (MRel_served hRi (i + 1) 0) (cl_step hcl) (Keep.up (hKi) (Or.inl (mF_i ma 19 (by decide)))) hP hS (lv_sub hl [0, 1, 2, 3, 4] rfl)

set_option maxHeartbeats 4000000 in
set_option maxRecDepth 100000 in
theorem c_M_pay (l : Launch) (D : va_G) (t : Nat → ClassId) (A : Nat → Prop) (g : hG) (ma : Nat → Nat) (tv : Int32) (σ : SS) (x y : Int32) (hMx : RMx t ma tv σ g) (hV : Inv σ) (hKB : ∀ i, i < 30 → sKR σ i ≤ 1000000000000) : Met l y_M_pay (Cond.code y_M_pay b_M_pay 8 (some .int) :: TB) ({ frames := 2, cells := 0, slots := 0, locals := 45 } : Room) (va_Pc [.ref (ma 0), .int x, .int y] (hI D vwCl (tyL t) EX A g)) (va_Qi (fun r u => ∃ σ2, spPay σ x y (r, σ2) ∧ RMx t ma 0 σ2 u ∧ Keep (mF ma) g u) (fun u v => hw D vwCl A u v.heap) A) 0 0 A := by
  refine Met.ofH (cc := b_M_pay) (maxL := 8) (ret := (some .int)) (lv := [(0, .ref (ma 0)), (1, .int x), (2, .int y)]) (by decide) (Nat.le_of_ble_eq_true rfl) rfl ?_
  intro p e s m below meth c ls X hP hS hl
  obtain ⟨hx, hb, hml, hr, hts, hown, hlocks, hK, hEs, hA, hnm⟩ := id X
  obtain ⟨fm, fj, hM, hR1, hR2, hR3, hR6, hR20, hR11⟩ := id hMx
  have m0 := hM.1
  have hinj := hM.2.2
  have hn1 := hV.1.1
  have hn2 := hV.1.2.1
  have hn3 := hV.1.2.2.1
  have hn4 := hV.1.2.2.2
  have hRr : MRel fm fj σ := ⟨hR1, hR2, hR3, hR6, hR20, hR11⟩
  refine lv_aload_n hx hb d_M_pay_0 rfl (lv_at hl 0 rfl) ?_
  refine lv_iconst (v := 0) hx hb d_M_pay_1 (by decide) ?_
  refine p_M_76 X hb hP hS m0 (Nat.le_of_ble_eq_true rfl) d_M_pay_2 (fun H locs hP hS => ?_)
  have he_1 := va_up_self g (ma 0) (some (.inr (6, [.int 0, .int (nI (sNR σ)), .int (nI (sNL σ)), .int (nI (sND σ)), .int (nI (sNC σ)), .ref (ma 1), .ref (ma 2), .ref (ma 3), .ref (ma 4), .ref (ma 5), .ref (ma 6), .ref (ma 7), .ref (ma 8), .ref (ma 9), .ref (ma 10), .ref (ma 11), .ref (ma 12), .ref (ma 13), .ref (ma 14), .ref (ma 15), .ref (ma 16), .ref (ma 17), .ref (ma 18), .ref (ma 19), .ref (ma 20), .int (sTH σ)]) : va_E))
  have hP : hw D vwCl A (va_up g (ma 0) (some (.inr (6, [.int 0, .int (nI (sNR σ)), .int (nI (sNL σ)), .int (nI (sND σ)), .int (nI (sNC σ)), .ref (ma 1), .ref (ma 2), .ref (ma 3), .ref (ma 4), .ref (ma 5), .ref (ma 6), .ref (ma 7), .ref (ma 8), .ref (ma 9), .ref (ma 10), .ref (ma 11), .ref (ma 12), .ref (ma 13), .ref (ma 14), .ref (ma 15), .ref (ma 16), .ref (ma 17), .ref (ma 18), .ref (ma 19), .ref (ma 20), .int (sTH σ)])))) H := hP
  have hM1 : MC t (va_up g (ma 0) (some (mOb ma 0 (nI (sNR σ)) (nI (sNL σ)) (nI (sND σ)) (nI (sNC σ)) (sTH σ)))) ma 0 (nI (sNR σ)) (nI (sNL σ)) (nI (sND σ)) (nI (sNC σ)) (sTH σ) fm fj := MC.put hM 0 _ _ _ _ _
  have hK1 : Keep (mF ma) g (va_up g (ma 0) (some (mOb ma 0 (nI (sNR σ)) (nI (sNL σ)) (nI (sND σ)) (nI (sNC σ)) (sTH σ)))) := Keep.up Keep.rf (Or.inl (mF_i ma 0 (by decide)))
  have hP : hw D vwCl A (va_up g (ma 0) (some (mOb ma 0 (nI (sNR σ)) (nI (sNL σ)) (nI (sND σ)) (nI (sNC σ)) (sTH σ)))) H := hP
  generalize va_up g (ma 0) (some (mOb ma 0 (nI (sNR σ)) (nI (sNL σ)) (nI (sND σ)) (nI (sNC σ)) (sTH σ))) = G at hM1 hK1 hP
  have hX1 : RMx t ma 0 σ G := ⟨fm, fj, hM1, hRr⟩
  have w0 := hM1.1
  have w20 : G (ma 20) = some (arJ t 30 (fj 20)) := hM1.2.1 20 (by decide) (by decide)
  refine lv_iload_n hx hb d_M_pay_5 rfl (lv_at hl 1 rfl) ?_
  refine lv_i2l hx hb d_M_pay_6 rfl ?_
  refine lv_lconst (v := 0) hx hb d_M_pay_7 (by decide) ?_
  refine lv_ldc2 (v := 29) hx hb hown (hts _ (tbm 570 (by decide +kernel))) d_M_pay_8 ?_
  refine k_M_81 X ⟨Nat.le_of_ble_eq_true rfl, Nat.le_of_ble_eq_true rfl⟩ ⟨Nat.le_of_ble_eq_true rfl, Nat.le_of_ble_eq_true rfl⟩ hl.1 hP hS (by exact Nat.le_of_ble_eq_true rfl) d_M_pay_11 (fun r_2 H locs er_2 hP hS => ?_)
  refine lv_if_eq (tgt := 29) hx hb d_M_pay_14 (by decide) (fun c_3 => ?_) (fun c_3 => ?_)
  · have t_2 := bi_0.mp (er_2 ▸ c_3)
    refine lv_iconst (v := (-1)) hx hb d_M_pay_29 (by decide) ?_
    have tw0 : wi x 0 29 = false := by rw [← wl_i]; exact t_2
    exact h_iret hx hb hr hlocks (Nat.le_of_ble_eq_true rfl) (Nat.le_of_ble_eq_true rfl) hP hS (⟨σ, by rw [spPay, if_neg (by simp [tw0])], hX1, hK1⟩) d_M_pay_30
  · have t_2 := bi_n0.mp (er_2 ▸ c_3)
    have hwx : wi x 0 29 = true := by rw [← wl_i]; exact t_2
    obtain ⟨j, hj, rfl⟩ := wi_pl (n := 29) rfl (by decide) hwx
    refine lv_iload_n hx hb d_M_pay_17 rfl (lv_at hl 2 rfl) ?_
    refine lv_i2l hx hb d_M_pay_18 rfl ?_
    refine lv_lconst (v := 1) hx hb d_M_pay_19 (by decide) ?_
    refine lv_ldc2 (v := 10000000) hx hb hown (hts _ (tbm 545 (by decide +kernel))) d_M_pay_20 ?_
    refine k_M_81 X ⟨Nat.le_of_ble_eq_true rfl, Nat.le_of_ble_eq_true rfl⟩ ⟨Nat.le_of_ble_eq_true rfl, Nat.le_of_ble_eq_true rfl⟩ hl.1 hP hS (by exact Nat.le_of_ble_eq_true rfl) d_M_pay_23 (fun r_4 H locs er_4 hP hS => ?_)
    refine lv_if_ne (tgt := 31) hx hb d_M_pay_26 (by decide) (fun c_5 => ?_) (fun c_5 => ?_)
    · have t_4 := bi_n0.mp (er_4 ▸ c_5)
      refine lv_aload_n hx hb d_M_pay_31 rfl (lv_at hl 0 rfl) ?_
      refine g_M_69 X hb hP w0 rfl d_M_pay_32 ?_
      refine lv_iload_n hx hb d_M_pay_35 rfl (lv_at hl 1 rfl) ?_
      refine n_lald X hb hP w20 ⟨hj, by decide⟩ d_M_pay_36 ?_
      refine lv_iload_n hx hb d_M_pay_37 rfl (lv_at hl 2 rfl) ?_
      refine lv_i2l hx hb d_M_pay_38 rfl ?_
      refine lv_ladd hx hb d_M_pay_39 ?_
      refine lv_topl (fun x_6 ex_6 => ?_)
      refine lv_lstore_n (lv' := [(3, .long x_6), (0, .ref (ma 0)), (1, .int (nI j)), (2, .int y)]) hx hb d_M_pay_40 rfl hl (by decide) rfl (fun ls hl => ?_)
      refine lv_iconst (v := 1) hx hb d_M_pay_41 (by decide) ?_
      refine lv_istore (lv' := [(5, .int 1), (3, .long x_6), (0, .ref (ma 0)), (1, .int (nI j)), (2, .int y)]) hx hb d_M_pay_42 hl (by decide) rfl (fun ls hl => ?_)
      have hwy : wi y 1 10000000 = true := by rw [← wl_i]; exact t_4
      obtain ⟨c0, hc0, rfl⟩ := wi_c hwy
      obtain rfl : x_6 = lN (sKR σ j + c0) := by rw [ex_6, hR20, nI_l (by omega), lN_add]
      exact lp_M_pay1 g ma σ j c0 (nI c0) _ hV (by omega) (by have := hKB j (by omega); omega) (fun G h9 h8 => by refine ⟨_, ?_, h9, h8⟩; rw [spPay, if_pos (by simp [hwx, hwy]), nI_k0 (by omega), nI_k9 hc0]) X (sND σ + 1) 0 fm fj G _ _ ls (Nat.zero_le _) (by omega) hM1 hRr (fun d hd => absurd hd (Nat.not_lt_zero d)) hK1 hP hS (lv_sub hl [0, 1, 2, 3, 4] rfl)
    · have t_4 := bi_0.mp (er_4 ▸ c_5)
      refine lv_iconst (v := (-1)) hx hb d_M_pay_29 (by decide) ?_
      have tw1 : wi y 1 10000000 = false := by rw [← wl_i]; exact t_4
      exact h_iret hx hb hr hlocks (Nat.le_of_ble_eq_true rfl) (Nat.le_of_ble_eq_true rfl) hP hS (⟨σ, by rw [spPay, if_neg (by simp [tw1])], hX1, hK1⟩) d_M_pay_30
theorem k_W_68 {p : Program} {l : Launch} {e : Env} {R : Room} {s : State} {m : MethodId} {args : Array Value} {below : List Frame} {meth : Method} {c : Code} {H : Heap} {locs : List Loc} {cells slots : Nat} {Q : State → Prop} {cc : ByteArray} {pc : Nat} {ls : Array Slot} {rest : List Value} {D : va_G} {A : Nat → Prop} {t : Nat → ClassId} {g : hG} {nL : Nat} {ret0 : Option FieldType} {nm : String} (X : Cx p s m args meth c R_W cc nL ret0 TB D vwCl (tyL t) EX A nm) (hR : 2 + 1 ≤ R.frames ∧ 8 + (8 + 11) + 45 ≤ R.locals) (hf : cells + 0 ≤ R.cells ∧ slots + 0 ≤ R.slots) (hls : ls.size = nL) (hP : hw D vwCl A g H) (hS : va_S A s.heap H locs) {ma : Nat → Nat} {tv : Int32} {σ : SS} {x y : Int32} {fs9 : List Value} (he9 : g (ma 0) = some (.inr (6, fs9))) (hMx : RMx t ma tv σ g) (hV : Inv σ) (hKB : ∀ i, i < 30 → sKR σ i ≤ 1000000000000) (hW : (rest.map fun v => v.category).sum ≤ 8) (hdg : decode cc pc = .ok (.invokevirtual 68, 3)) (kk : ∀ (r : Int32) (u : hG) (H1 : Heap) (locs1 : List Loc), ((fun r u => ∃ σ2, spPay σ x y (r, σ2) ∧ RMx t ma 0 σ2 u ∧ Keep (mF ma) g u) r u) → hw D vwCl A u H1 → va_S A s.heap H1 locs1 → W p l e R s m args below meth c H1 locs1 (cells + 0) (slots + 0) Q (F0 m (pc + 3) ls (.int r :: rest))) : W p l e R s m args below meth c H locs cells slots Q (F0 m pc ls (.int y :: .int x :: .ref (ma 0) :: rest)) :=
  h_ci (runV (C := R_M) (T := F_M) (N := 26) X (c_M_pay l D t A g ma tv σ x y hMx hV hKB) (tbm 604 (by decide +kernel)) (tbm 605 (by decide +kernel)) (tbm 606 (by decide +kernel)) (tbm 23 (by decide +kernel)) (tbm 607 (by decide +kernel)) rfl (n := 2) (by decide +kernel) hR hf hP he9 hS hls rfl rfl hW hdg) hS kk
