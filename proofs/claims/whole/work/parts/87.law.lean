set_option maxHeartbeats 4000000 in
set_option maxRecDepth 100000 in
/-- one turn of the law's loop -/
theorem lw_turn {p : Program} {l : Launch} {e : Env} {s : State} {m : MethodId} {args : Array Value} {below : List Frame} {meth : Method} {c : Code} {D : va_G} {t : Nat → ClassId} {A : Nat → Prop} {b L : Nat} {xs : Nat → Int32} {ad ma : Nat → Nat} {o n : Nat} {Q : State → Prop} {H : Heap} {locs : List Loc} {cells slots : Nat} {g : hG} {ls : Array Slot} (hLK : LK p l s m args meth c D t A b L xs ma o) (hL : L ≤ 3072) (hn : n ≤ 600) (hc1 : cells + 1 ≤ room_1.cells) (hc2 : slots + 8 ≤ room_1.slots) (hP : hw D vwCl A g H) (hS : va_S A s.heap H locs) (hLI : LI t ad ma o n g) (hl : lv_has ls 7 [(0, .ref b), (1, .ref (ad 0)), (2, .ref (ma 0)), (3, .ref o), (4, .int (nI (6 * n)))])
    (k0 : L < 6 * n + 6 → W p l e room_1 s m args below meth c H locs cells slots Q (F0 m 1028 ls [])) (k1 : 6 * n + 6 ≤ L → ∀ (u : hG) (H1 : Heap) (locs1 : List Loc) (ls1 : Array Slot), hw D vwCl A u H1 → va_S A s.heap H1 locs1 → LI t ad ma o (n + 1) u → lv_has ls1 7 [(0, .ref b), (1, .ref (ad 0)), (2, .ref (ma 0)), (3, .ref o), (4, .int (nI (6 * (n + 1))))] → W p l e room_1 s m args below meth c H1 locs1 (cells + 1) (slots + 8) Q (F0 m 23 ls1 [])) : W p l e room_1 s m args below meth c H locs cells slots Q (F0 m 23 ls []) := by
  obtain ⟨X, hlt9, hGG, hXs, hbl, hbA, hoM⟩ := id hLK
  obtain ⟨hx, hb, hml, hr, hts, hown, hlocks, hK, hEs, hA, hnm⟩ := id X
  refine lv_iload hx hb d_W_law_23 (lv_at hl 4 rfl) ?_
  refine lv_aload_n hx hb d_W_law_25 rfl (lv_at hl 0 rfl) ?_
  refine va_slen hx hb hXs hbl hbA hS d_W_law_26 ?_
  refine lv_bipush (v := 6) hx hb d_W_law_27 (by decide) ?_
  refine lv_isub hx hb d_W_law_29 ?_
  refine lv_icmp_gt (tgt := 1028) hx hb d_W_law_30 (by decide) (fun c_1 => ?_) (fun c_1 => ?_)
  · exact k0 ((L_end hL (by omega)).mp c_1)
  · have hlen : 6 * n + 6 ≤ L := Nat.not_lt.mp (fun q => c_1 ((L_end hL (by omega)).mpr q))
    have hLN : LN (nI (6 * n)) L := LN_of hlen hL
    have kn : ∀ (u : hG) (H1 : Heap) (locs1 : List Loc) (ls1 : Array Slot), hw D vwCl A u H1 → va_S A s.heap H1 locs1 → LI t ad ma o (n + 1) u → lv_has ls1 7 [(0, .ref b), (1, .ref (ad 0)), (2, .ref (ma 0)), (3, .ref o), (4, .int (nI (6 * n)))] → W p l e room_1 s m args below meth c H1 locs1 (cells + 1) (slots + 8) Q (F0 m 1022 ls1 []) := by
      intro u H locs ls hP hS hLI hl
      refine lv_iinc (v := nI (6 * (n + 1))) (lv' := [(4, .int (nI (6 * (n + 1)))), (0, .ref b), (1, .ref (ad 0)), (2, .ref (ma 0)), (3, .ref o)]) hx hb d_W_law_1022 hl (k := 4) rfl (by rw [show 6 * (n + 1) = 6 * n + 6 from rfl, ← nI_add]; rfl) (by decide) rfl (fun ls hl => ?_)
      refine lv_goto (tgt := 23) hx hb d_W_law_1025 (by decide) ?_
      exact k1 hlen u H locs ls hP hS hLI (lv_sub hl [1, 2, 3, 4, 0] rfl)
    refine lv_aload_n hx hb d_W_law_33 rfl (lv_at hl 0 rfl) ?_
    refine lv_iload hx hb d_W_law_34 (lv_at hl 4 rfl) ?_
    refine va_sld hx hb hXs hbl hbA hS (nI_in (by omega) (by omega)) d_W_law_36 ?_
    refine lv_bipush (v := 15) hx hb d_W_law_37 (by decide) ?_
    refine lv_iand hx hb d_W_law_39 ?_
    refine lv_topi (fun x_2 ex_2 => ?_)
    by_cases s_3 : x_2 = 0
    · rw [s_3]
      refine lv_tableIn (off := 80) (tgt := 120) hx hb d_W_law_40 (by decide) (by decide) rfl (by decide) ?_
      exact lc_rule hLK hLN (by omega) hc1 hc2 hP hS hLI hl kn
    by_cases s_4 : x_2 = 1
    · rw [s_4]
      refine lv_tableIn (off := 129) (tgt := 169) hx hb d_W_law_40 (by decide) (by decide) rfl (by decide) ?_
      exact lc_interest hLK hLN (by omega) hc1 hc2 hP hS hLI hl kn
    by_cases s_5 : x_2 = 2
    · rw [s_5]
      refine lv_tableIn (off := 209) (tgt := 249) hx hb d_W_law_40 (by decide) (by decide) rfl (by decide) ?_
      exact lc_closed hLK hLN (by omega) hc1 hc2 hP hS hLI hl kn
    by_cases s_6 : x_2 = 3
    · rw [s_6]
      refine lv_tableIn (off := 266) (tgt := 306) hx hb d_W_law_40 (by decide) (by decide) rfl (by decide) ?_
      exact lc_loan hLK hLN (by omega) hc1 hc2 hP hS hLI hl kn
    by_cases s_7 : x_2 = 4
    · rw [s_7]
      refine lv_tableIn (off := 359) (tgt := 399) hx hb d_W_law_40 (by decide) (by decide) rfl (by decide) ?_
      exact lc_overdue hLK hLN (by omega) hc1 hc2 hP hS hLI hl kn
    by_cases s_8 : x_2 = 5
    · rw [s_8]
      refine lv_tableIn (off := 429) (tgt := 469) hx hb d_W_law_40 (by decide) (by decide) rfl (by decide) ?_
      exact lc_back hLK hLN (by omega) hc1 hc2 hP hS hLI hl kn
    by_cases s_9 : x_2 = 6
    · rw [s_9]
      refine lv_tableIn (off := 498) (tgt := 538) hx hb d_W_law_40 (by decide) (by decide) rfl (by decide) ?_
      exact lc_lost hLK hLN (by omega) hc1 hc2 hP hS hLI hl kn
    by_cases s_10 : x_2 = 7
    · rw [s_10]
      refine lv_tableIn (off := 579) (tgt := 619) hx hb d_W_law_40 (by decide) (by decide) rfl (by decide) ?_
      exact lc_found hLK hLN (by omega) hc1 hc2 hP hS hLI hl kn
    by_cases s_11 : x_2 = 8
    · rw [s_11]
      refine lv_tableIn (off := 649) (tgt := 689) hx hb d_W_law_40 (by decide) (by decide) rfl (by decide) ?_
      exact lc_pay hLK hLN (by omega) hc1 hc2 hP hS hLI hl kn
    by_cases s_12 : x_2 = 9
    · rw [s_12]
      refine lv_tableIn (off := 686) (tgt := 726) hx hb d_W_law_40 (by decide) (by decide) rfl (by decide) ?_
      exact lc_waive hLK hLN (by omega) hc1 hc2 hP hS hLI hl kn
    by_cases s_13 : x_2 = 10
    · rw [s_13]
      refine lv_tableIn (off := 724) (tgt := 764) hx hb d_W_law_40 (by decide) (by decide) rfl (by decide) ?_
      exact lc_owes hLK hLN (by omega) hc1 hc2 hP hS hLI hl kn
    by_cases s_14 : x_2 = 11
    · rw [s_14]
      refine lv_tableIn (off := 794) (tgt := 834) hx hb d_W_law_40 (by decide) (by decide) rfl (by decide) ?_
      exact lc_plan hLK hLN (by omega) hc1 hc2 hP hS hLI hl kn
    by_cases s_15 : x_2 = 12
    · rw [s_15]
      refine lv_tableIn (off := 844) (tgt := 884) hx hb d_W_law_40 (by decide) (by decide) rfl (by decide) ?_
      exact lc_threshold hLK hLN (by omega) hc1 hc2 hP hS hLI hl kn
    by_cases s_16 : x_2 = 13
    · rw [s_16]
      refine lv_tableIn (off := 869) (tgt := 909) hx hb d_W_law_40 (by decide) (by decide) rfl (by decide) ?_
      exact lc_blocked hLK hLN (by omega) hc1 hc2 hP hS hLI hl kn
    by_cases s_17 : x_2 = 14
    · rw [s_17]
      refine lv_tableIn (off := 894) (tgt := 934) hx hb d_W_law_40 (by decide) (by decide) rfl (by decide) ?_
      exact lc_debt hLK hLN (by omega) hc1 hc2 hP hS hLI hl kn
    by_cases s_18 : x_2 = 15
    · rw [s_18]
      refine lv_tableIn (off := 932) (tgt := 972) hx hb d_W_law_40 (by decide) (by decide) rfl (by decide) ?_
      exact lc_share hLK hLN (by omega) hc1 hc2 hP hS hLI hl kn
    refine lv_tableOut (tgt := 1022) hx hb d_W_law_40 (by have n0 := lv_neT s_3 (k := 0) (a := 0) rfl; have n1 := lv_neT s_4 (k := 1) (a := 1) rfl; have n2 := lv_neT s_5 (k := 2) (a := 2) rfl; have n3 := lv_neT s_6 (k := 3) (a := 3) rfl; have n4 := lv_neT s_7 (k := 4) (a := 4) rfl; have n5 := lv_neT s_8 (k := 5) (a := 5) rfl; have n6 := lv_neT s_9 (k := 6) (a := 6) rfl; have n7 := lv_neT s_10 (k := 7) (a := 7) rfl; have n8 := lv_neT s_11 (k := 8) (a := 8) rfl; have n9 := lv_neT s_12 (k := 9) (a := 9) rfl; have n10 := lv_neT s_13 (k := 10) (a := 10) rfl; have n11 := lv_neT s_14 (k := 11) (a := 11) rfl; have n12 := lv_neT s_15 (k := 12) (a := 12) rfl; have n13 := lv_neT s_16 (k := 13) (a := 13) rfl; have n14 := lv_neT s_17 (k := 14) (a := 14) rfl; have n15 := lv_neT s_18 (k := 15) (a := 15) rfl; omega) (by decide) ?_
    exact W.widen (by omega) (by omega) (kn g H locs ls hP hS hLI.up hl)
