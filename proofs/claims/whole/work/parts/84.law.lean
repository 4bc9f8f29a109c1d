set_option maxHeartbeats 4000000 in
set_option maxRecDepth 100000 in
theorem lc_lost {p : Program} {l : Launch} {e : Env} {s : State} {m : MethodId} {args : Array Value} {below : List Frame} {meth : Method} {c : Code} {D : va_G} {t : Nat → ClassId} {A : Nat → Prop} {b L : Nat} {xs : Nat → Int32} {ad ma : Nat → Nat} {o n : Nat} {Q : State → Prop} {H : Heap} {locs : List Loc} {cells slots : Nat} {g : hG} {ls : Array Slot} {i : Int32} (hLK : LK p l s m args meth c D t A b L xs ma o) (hLN : LN i L) (hn : n ≤ 1000) (hc1 : cells + 1 ≤ room_1.cells) (hc2 : slots + 8 ≤ room_1.slots) (hP : hw D vwCl A g H) (hS : va_S A s.heap H locs) (hLI : LI t ad ma o n g) (hl : lv_has ls 7 [(0, .ref b), (1, .ref (ad 0)), (2, .ref (ma 0)), (3, .ref o), (4, .int i)])
    (kk : ∀ (u : hG) (H1 : Heap) (locs1 : List Loc) (ls1 : Array Slot), hw D vwCl A u H1 → va_S A s.heap H1 locs1 → LI t ad ma o (n + 1) u → lv_has ls1 7 [(0, .ref b), (1, .ref (ad 0)), (2, .ref (ma 0)), (3, .ref o), (4, .int i)] → W p l e room_1 s m args below meth c H1 locs1 (cells + 1) (slots + 8) Q (F0 m 1022 ls1 [])) : W p l e room_1 s m args below meth c H locs cells slots Q (F0 m 538 ls []) := by
  obtain ⟨X, hlt9, hGG, hXs, hbl, hbA, hoM⟩ := hLK
  obtain ⟨hx, hb, hml, hr, hts, hown, hlocks, hK, hEs, hA, hnm⟩ := id X
  obtain ⟨hi1, hi2, hi3, hi4, hi5⟩ := hLN
  obtain ⟨F, σ, tv, ou, hO, hRx, hM, ho, hFo, hFM⟩ := hLI
  have hV : Inv σ := hO.1
  obtain ⟨fs0, h0⟩ := hRx.ob
  obtain ⟨fs1, hm⟩ := hM.ob
  refine lv_aload_n hx hb d_W_law_538 rfl (lv_at hl 1 rfl) ?_
  refine lv_aload_n hx hb d_W_law_539 rfl (lv_at hl 0 rfl) ?_
  refine lv_iload hx hb d_W_law_540 (lv_at hl 4 rfl) ?_
  refine lv_iconst (v := 1) hx hb d_W_law_542 (by decide) ?_
  refine lv_iadd hx hb d_W_law_543 ?_
  refine va_sld hx hb hXs hbl hbA hS hi1 d_W_law_544 ?_
  refine lv_aload_n hx hb d_W_law_545 rfl (lv_at hl 0 rfl) ?_
  refine lv_iload hx hb d_W_law_546 (lv_at hl 4 rfl) ?_
  refine lv_iconst (v := 2) hx hb d_W_law_548 (by decide) ?_
  refine lv_iadd hx hb d_W_law_549 ?_
  refine va_sld hx hb hXs hbl hbA hS hi2 d_W_law_550 ?_
  refine lv_aload_n hx hb d_W_law_551 rfl (lv_at hl 0 rfl) ?_
  refine lv_iload hx hb d_W_law_552 (lv_at hl 4 rfl) ?_
  refine lv_iconst (v := 3) hx hb d_W_law_554 (by decide) ?_
  refine lv_iadd hx hb d_W_law_555 ?_
  refine va_sld hx hb hXs hbl hbA hS hi3 d_W_law_556 ?_
  refine lv_i2l hx hb d_W_law_557 rfl ?_
  refine lv_bipush (v := 32) hx hb d_W_law_558 (by decide) ?_
  refine lv_lshl hx hb d_W_law_560 rfl ?_
  refine lv_aload_n hx hb d_W_law_561 rfl (lv_at hl 0 rfl) ?_
  refine lv_iload hx hb d_W_law_562 (lv_at hl 4 rfl) ?_
  refine lv_iconst (v := 4) hx hb d_W_law_564 (by decide) ?_
  refine lv_iadd hx hb d_W_law_565 ?_
  refine va_sld hx hb hXs hbl hbA hS hi4 d_W_law_566 ?_
  refine lv_i2l hx hb d_W_law_567 rfl ?_
  refine lv_ldc2 (v := 4294967295) hx hb hown (hts _ (tbm 659 (by decide +kernel))) d_W_law_568 ?_
  refine lv_land hx hb d_W_law_571 ?_
  refine lv_lor hx hb d_W_law_572 ?_
  refine k_W_55 X ⟨Nat.le_of_ble_eq_true rfl, Nat.le_of_ble_eq_true rfl⟩ ⟨by omega, by omega⟩ hl.1 hP hS h0 hRx hV (by exact Nat.le_of_ble_eq_true rfl) d_W_law_573 (fun r_1 u H locs hr_1 hP hS => ?_)
  obtain ⟨er1, hRx, hK1⟩ := hr_1
  obtain ⟨hM, ho, hFo, hFM⟩ := LI_c hM ho hFo hFM hK1
  obtain ⟨fs1, hm⟩ := hM.ob
  refine lv_aload_n hx hb d_W_law_576 rfl (lv_at hl 2 rfl) ?_
  refine lv_aload_n hx hb d_W_law_577 rfl (lv_at hl 0 rfl) ?_
  refine lv_iload hx hb d_W_law_578 (lv_at hl 4 rfl) ?_
  refine lv_iconst (v := 1) hx hb d_W_law_580 (by decide) ?_
  refine lv_iadd hx hb d_W_law_581 ?_
  refine va_sld hx hb hXs hbl hbA hS hi1 d_W_law_582 ?_
  refine lv_aload_n hx hb d_W_law_583 rfl (lv_at hl 0 rfl) ?_
  refine lv_iload hx hb d_W_law_584 (lv_at hl 4 rfl) ?_
  refine lv_iconst (v := 2) hx hb d_W_law_586 (by decide) ?_
  refine lv_iadd hx hb d_W_law_587 ?_
  refine va_sld hx hb hXs hbl hbA hS hi2 d_W_law_588 ?_
  refine lv_aload_n hx hb d_W_law_589 rfl (lv_at hl 0 rfl) ?_
  refine lv_iload hx hb d_W_law_590 (lv_at hl 4 rfl) ?_
  refine lv_iconst (v := 3) hx hb d_W_law_592 (by decide) ?_
  refine lv_iadd hx hb d_W_law_593 ?_
  refine va_sld hx hb hXs hbl hbA hS hi3 d_W_law_594 ?_
  refine lv_i2l hx hb d_W_law_595 rfl ?_
  refine lv_bipush (v := 32) hx hb d_W_law_596 (by decide) ?_
  refine lv_lshl hx hb d_W_law_598 rfl ?_
  refine lv_aload_n hx hb d_W_law_599 rfl (lv_at hl 0 rfl) ?_
  refine lv_iload hx hb d_W_law_600 (lv_at hl 4 rfl) ?_
  refine lv_iconst (v := 4) hx hb d_W_law_602 (by decide) ?_
  refine lv_iadd hx hb d_W_law_603 ?_
  refine va_sld hx hb hXs hbl hbA hS hi4 d_W_law_604 ?_
  refine lv_i2l hx hb d_W_law_605 rfl ?_
  refine lv_ldc2 (v := 4294967295) hx hb hown (hts _ (tbm 659 (by decide +kernel))) d_W_law_606 ?_
  refine lv_land hx hb d_W_law_609 ?_
  refine lv_lor hx hb d_W_law_610 ?_
  refine k_W_59 X ⟨Nat.le_of_ble_eq_true rfl, Nat.le_of_ble_eq_true rfl⟩ ⟨by omega, by omega⟩ hl.1 hP hS hm hM hV (by exact Nat.le_of_ble_eq_true rfl) d_W_law_611 (fun r_2 u H locs hr_2 hP hS => ?_)
  obtain ⟨er2, hM, hK2⟩ := hr_2
  have hL2 := LI_m (Ok_lost hO _ _ _) hRx hM hK2 ho hFo hFM hoM
  refine lv_icmp_eq (tgt := 1022) hx hb d_W_law_614 (by decide) (fun c_3 => ?_) (fun c_3 => ?_)
  · exact W.widen (by omega) (by omega) (kk u H locs ls hP hS hL2 (lv_sub hl [0, 1, 2, 3, 4] rfl))
  · exact absurd (er1.trans er2.symm) c_3
set_option maxHeartbeats 4000000 in
set_option maxRecDepth 100000 in
theorem lc_found {p : Program} {l : Launch} {e : Env} {s : State} {m : MethodId} {args : Array Value} {below : List Frame} {meth : Method} {c : Code} {D : va_G} {t : Nat → ClassId} {A : Nat → Prop} {b L : Nat} {xs : Nat → Int32} {ad ma : Nat → Nat} {o n : Nat} {Q : State → Prop} {H : Heap} {locs : List Loc} {cells slots : Nat} {g : hG} {ls : Array Slot} {i : Int32} (hLK : LK p l s m args meth c D t A b L xs ma o) (hLN : LN i L) (hn : n ≤ 1000) (hc1 : cells + 1 ≤ room_1.cells) (hc2 : slots + 8 ≤ room_1.slots) (hP : hw D vwCl A g H) (hS : va_S A s.heap H locs) (hLI : LI t ad ma o n g) (hl : lv_has ls 7 [(0, .ref b), (1, .ref (ad 0)), (2, .ref (ma 0)), (3, .ref o), (4, .int i)])
    (kk : ∀ (u : hG) (H1 : Heap) (locs1 : List Loc) (ls1 : Array Slot), hw D vwCl A u H1 → va_S A s.heap H1 locs1 → LI t ad ma o (n + 1) u → lv_has ls1 7 [(0, .ref b), (1, .ref (ad 0)), (2, .ref (ma 0)), (3, .ref o), (4, .int i)] → W p l e room_1 s m args below meth c H1 locs1 (cells + 1) (slots + 8) Q (F0 m 1022 ls1 [])) : W p l e room_1 s m args below meth c H locs cells slots Q (F0 m 619 ls []) := by
  obtain ⟨X, hlt9, hGG, hXs, hbl, hbA, hoM⟩ := hLK
  obtain ⟨hx, hb, hml, hr, hts, hown, hlocks, hK, hEs, hA, hnm⟩ := id X
  obtain ⟨hi1, hi2, hi3, hi4, hi5⟩ := hLN
  obtain ⟨F, σ, tv, ou, hO, hRx, hM, ho, hFo, hFM⟩ := hLI
  have hV : Inv σ := hO.1
  obtain ⟨fs0, h0⟩ := hRx.ob
  obtain ⟨fs1, hm⟩ := hM.ob
  refine lv_aload_n hx hb d_W_law_619 rfl (lv_at hl 1 rfl) ?_
  refine lv_aload_n hx hb d_W_law_620 rfl (lv_at hl 0 rfl) ?_
  refine lv_iload hx hb d_W_law_621 (lv_at hl 4 rfl) ?_
  refine lv_iconst (v := 1) hx hb d_W_law_623 (by decide) ?_
  refine lv_iadd hx hb d_W_law_624 ?_
  refine va_sld hx hb hXs hbl hbA hS hi1 d_W_law_625 ?_
  refine lv_aload_n hx hb d_W_law_626 rfl (lv_at hl 0 rfl) ?_
  refine lv_iload hx hb d_W_law_627 (lv_at hl 4 rfl) ?_
  refine lv_iconst (v := 2) hx hb d_W_law_629 (by decide) ?_
  refine lv_iadd hx hb d_W_law_630 ?_
  refine va_sld hx hb hXs hbl hbA hS hi2 d_W_law_631 ?_
  refine lv_i2l hx hb d_W_law_632 rfl ?_
  refine lv_bipush (v := 32) hx hb d_W_law_633 (by decide) ?_
  refine lv_lshl hx hb d_W_law_635 rfl ?_
  refine lv_aload_n hx hb d_W_law_636 rfl (lv_at hl 0 rfl) ?_
  refine lv_iload hx hb d_W_law_637 (lv_at hl 4 rfl) ?_
  refine lv_iconst (v := 3) hx hb d_W_law_639 (by decide) ?_
  refine lv_iadd hx hb d_W_law_640 ?_
  refine va_sld hx hb hXs hbl hbA hS hi3 d_W_law_641 ?_
  refine lv_i2l hx hb d_W_law_642 rfl ?_
  refine lv_ldc2 (v := 4294967295) hx hb hown (hts _ (tbm 659 (by decide +kernel))) d_W_law_643 ?_
  refine lv_land hx hb d_W_law_646 ?_
  refine lv_lor hx hb d_W_law_647 ?_
  refine k_W_60 X ⟨Nat.le_of_ble_eq_true rfl, Nat.le_of_ble_eq_true rfl⟩ ⟨by omega, by omega⟩ hl.1 hP hS h0 hRx hV (by exact Nat.le_of_ble_eq_true rfl) d_W_law_648 (fun r_1 u H locs hr_1 hP hS => ?_)
  obtain ⟨er1, hRx, hK1⟩ := hr_1
  obtain ⟨hM, ho, hFo, hFM⟩ := LI_c hM ho hFo hFM hK1
  obtain ⟨fs1, hm⟩ := hM.ob
  refine lv_aload_n hx hb d_W_law_651 rfl (lv_at hl 2 rfl) ?_
  refine lv_aload_n hx hb d_W_law_652 rfl (lv_at hl 0 rfl) ?_
  refine lv_iload hx hb d_W_law_653 (lv_at hl 4 rfl) ?_
  refine lv_iconst (v := 1) hx hb d_W_law_655 (by decide) ?_
  refine lv_iadd hx hb d_W_law_656 ?_
  refine va_sld hx hb hXs hbl hbA hS hi1 d_W_law_657 ?_
  refine lv_aload_n hx hb d_W_law_658 rfl (lv_at hl 0 rfl) ?_
  refine lv_iload hx hb d_W_law_659 (lv_at hl 4 rfl) ?_
  refine lv_iconst (v := 2) hx hb d_W_law_661 (by decide) ?_
  refine lv_iadd hx hb d_W_law_662 ?_
  refine va_sld hx hb hXs hbl hbA hS hi2 d_W_law_663 ?_
  refine lv_i2l hx hb d_W_law_664 rfl ?_
  refine lv_bipush (v := 32) hx hb d_W_law_665 (by decide) ?_
  refine lv_lshl hx hb d_W_law_667 rfl ?_
  refine lv_aload_n hx hb d_W_law_668 rfl (lv_at hl 0 rfl) ?_
  refine lv_iload hx hb d_W_law_669 (lv_at hl 4 rfl) ?_
  refine lv_iconst (v := 3) hx hb d_W_law_671 (by decide) ?_
  refine lv_iadd hx hb d_W_law_672 ?_
  refine va_sld hx hb hXs hbl hbA hS hi3 d_W_law_673 ?_
  refine lv_i2l hx hb d_W_law_674 rfl ?_
  refine lv_ldc2 (v := 4294967295) hx hb hown (hts _ (tbm 659 (by decide +kernel))) d_W_law_675 ?_
  refine lv_land hx hb d_W_law_678 ?_
  refine lv_lor hx hb d_W_law_679 ?_
  refine k_W_63 X ⟨Nat.le_of_ble_eq_true rfl, Nat.le_of_ble_eq_true rfl⟩ ⟨by omega, by omega⟩ hl.1 hP hS hm hM hV (by exact Nat.le_of_ble_eq_true rfl) d_W_law_680 (fun r_2 u H locs hr_2 hP hS => ?_)
  obtain ⟨er2, hM, hK2⟩ := hr_2
  have hL2 := LI_m (Ok_found hO _ _) hRx hM hK2 ho hFo hFM hoM
  refine W.lcmp hx hb d_W_law_683 ?_
  refine lv_if_eq (tgt := 1022) hx hb d_W_law_684 (by decide) (fun c_3 => ?_) (fun c_3 => ?_)
  · rw [lg_cmp_eq] at c_3
    exact W.widen (by omega) (by omega) (kk u H locs ls hP hS hL2 (lv_sub hl [0, 1, 2, 3, 4] rfl))
  · rw [lg_cmp_eq] at c_3
    exact absurd (er1.trans er2.symm) c_3
set_option maxHeartbeats 4000000 in
set_option maxRecDepth 100000 in
theorem lc_pay {p : Program} {l : Launch} {e : Env} {s : State} {m : MethodId} {args : Array Value} {below : List Frame} {meth : Method} {c : Code} {D : va_G} {t : Nat → ClassId} {A : Nat → Prop} {b L : Nat} {xs : Nat → Int32} {ad ma : Nat → Nat} {o n : Nat} {Q : State → Prop} {H : Heap} {locs : List Loc} {cells slots : Nat} {g : hG} {ls : Array Slot} {i : Int32} (hLK : LK p l s m args meth c D t A b L xs ma o) (hLN : LN i L) (hn : n ≤ 1000) (hc1 : cells + 1 ≤ room_1.cells) (hc2 : slots + 8 ≤ room_1.slots) (hP : hw D vwCl A g H) (hS : va_S A s.heap H locs) (hLI : LI t ad ma o n g) (hl : lv_has ls 7 [(0, .ref b), (1, .ref (ad 0)), (2, .ref (ma 0)), (3, .ref o), (4, .int i)])
    (kk : ∀ (u : hG) (H1 : Heap) (locs1 : List Loc) (ls1 : Array Slot), hw D vwCl A u H1 → va_S A s.heap H1 locs1 → LI t ad ma o (n + 1) u → lv_has ls1 7 [(0, .ref b), (1, .ref (ad 0)), (2, .ref (ma 0)), (3, .ref o), (4, .int i)] → W p l e room_1 s m args below meth c H1 locs1 (cells + 1) (slots + 8) Q (F0 m 1022 ls1 [])) : W p l e room_1 s m args below meth c H locs cells slots Q (F0 m 689 ls []) := by
  obtain ⟨X, hlt9, hGG, hXs, hbl, hbA, hoM⟩ := hLK
  obtain ⟨hx, hb, hml, hr, hts, hown, hlocks, hK, hEs, hA, hnm⟩ := id X
  obtain ⟨hi1, hi2, hi3, hi4, hi5⟩ := hLN
  obtain ⟨F, σ, tv, ou, hO, hRx, hM, ho, hFo, hFM⟩ := hLI
  have hV : Inv σ := hO.1
  obtain ⟨fs0, h0⟩ := hRx.ob
  obtain ⟨fs1, hm⟩ := hM.ob
  refine lv_aload_n hx hb d_W_law_689 rfl (lv_at hl 1 rfl) ?_
  refine lv_aload_n hx hb d_W_law_690 rfl (lv_at hl 0 rfl) ?_
  refine lv_iload hx hb d_W_law_691 (lv_at hl 4 rfl) ?_
  refine lv_iconst (v := 1) hx hb d_W_law_693 (by decide) ?_
  refine lv_iadd hx hb d_W_law_694 ?_
  refine va_sld hx hb hXs hbl hbA hS hi1 d_W_law_695 ?_
  refine lv_aload_n hx hb d_W_law_696 rfl (lv_at hl 0 rfl) ?_
  refine lv_iload hx hb d_W_law_697 (lv_at hl 4 rfl) ?_
  refine lv_iconst (v := 2) hx hb d_W_law_699 (by decide) ?_
  refine lv_iadd hx hb d_W_law_700 ?_
  refine va_sld hx hb hXs hbl hbA hS hi2 d_W_law_701 ?_
  refine k_W_64 X ⟨Nat.le_of_ble_eq_true rfl, Nat.le_of_ble_eq_true rfl⟩ ⟨by omega, by omega⟩ hl.1 hP hS h0 hRx hV (hO.kb hn) (by exact Nat.le_of_ble_eq_true rfl) d_W_law_702 (fun r_1 u H locs hr_1 hP hS => ?_)
  obtain ⟨τ, er1, hRx, hK1⟩ := hr_1
  obtain ⟨hM, ho, hFo, hFM⟩ := LI_c hM ho hFo hFM hK1
  obtain ⟨fs1, hm⟩ := hM.ob
  refine lv_aload_n hx hb d_W_law_705 rfl (lv_at hl 2 rfl) ?_
  refine lv_aload_n hx hb d_W_law_706 rfl (lv_at hl 0 rfl) ?_
  refine lv_iload hx hb d_W_law_707 (lv_at hl 4 rfl) ?_
  refine lv_iconst (v := 1) hx hb d_W_law_709 (by decide) ?_
  refine lv_iadd hx hb d_W_law_710 ?_
  refine va_sld hx hb hXs hbl hbA hS hi1 d_W_law_711 ?_
  refine lv_aload_n hx hb d_W_law_712 rfl (lv_at hl 0 rfl) ?_
  refine lv_iload hx hb d_W_law_713 (lv_at hl 4 rfl) ?_
  refine lv_iconst (v := 2) hx hb d_W_law_715 (by decide) ?_
  refine lv_iadd hx hb d_W_law_716 ?_
  refine va_sld hx hb hXs hbl hbA hS hi2 d_W_law_717 ?_
  refine k_W_68 X ⟨Nat.le_of_ble_eq_true rfl, Nat.le_of_ble_eq_true rfl⟩ ⟨by omega, by omega⟩ hl.1 hP hS hm hM hV (hO.kb hn) (by exact Nat.le_of_ble_eq_true rfl) d_W_law_718 (fun r_2 u H locs hr_2 hP hS => ?_)
  obtain ⟨τ2, er2, hM, hK2⟩ := hr_2
  obtain ⟨eq1, eq2⟩ := spPay_fun er1 er2
  subst eq2
  have hL2 := LI_m (Ok_pay hO er1) hRx hM hK2 ho hFo hFM hoM
  refine lv_icmp_eq (tgt := 1022) hx hb d_W_law_721 (by decide) (fun c_3 => ?_) (fun c_3 => ?_)
  · exact W.widen (by omega) (by omega) (kk u H locs ls hP hS hL2 (lv_sub hl [0, 1, 2, 3, 4] rfl))
  · exact absurd eq1.symm c_3
set_option maxHeartbeats 4000000 in
set_option maxRecDepth 100000 in
theorem lc_waive {p : Program} {l : Launch} {e : Env} {s : State} {m : MethodId} {args : Array Value} {below : List Frame} {meth : Method} {c : Code} {D : va_G} {t : Nat → ClassId} {A : Nat → Prop} {b L : Nat} {xs : Nat → Int32} {ad ma : Nat → Nat} {o n : Nat} {Q : State → Prop} {H : Heap} {locs : List Loc} {cells slots : Nat} {g : hG} {ls : Array Slot} {i : Int32} (hLK : LK p l s m args meth c D t A b L xs ma o) (hLN : LN i L) (hn : n ≤ 1000) (hc1 : cells + 1 ≤ room_1.cells) (hc2 : slots + 8 ≤ room_1.slots) (hP : hw D vwCl A g H) (hS : va_S A s.heap H locs) (hLI : LI t ad ma o n g) (hl : lv_has ls 7 [(0, .ref b), (1, .ref (ad 0)), (2, .ref (ma 0)), (3, .ref o), (4, .int i)])
    (kk : ∀ (u : hG) (H1 : Heap) (locs1 : List Loc) (ls1 : Array Slot), hw D vwCl A u H1 → va_S A s.heap H1 locs1 → LI t ad ma o (n + 1) u → lv_has ls1 7 [(0, .ref b), (1, .ref (ad 0)), (2, .ref (ma 0)), (3, .ref o), (4, .int i)] → W p l e room_1 s m args below meth c H1 locs1 (cells + 1) (slots + 8) Q (F0 m 1022 ls1 [])) : W p l e room_1 s m args below meth c H locs cells slots Q (F0 m 726 ls []) := by
  obtain ⟨X, hlt9, hGG, hXs, hbl, hbA, hoM⟩ := hLK
  obtain ⟨hx, hb, hml, hr, hts, hown, hlocks, hK, hEs, hA, hnm⟩ := id X
  obtain ⟨hi1, hi2, hi3, hi4, hi5⟩ := hLN
  obtain ⟨F, σ, tv, ou, hO, hRx, hM, ho, hFo, hFM⟩ := hLI
  have hV : Inv σ := hO.1
  obtain ⟨fs0, h0⟩ := hRx.ob
  obtain ⟨fs1, hm⟩ := hM.ob
  refine lv_aload_n hx hb d_W_law_726 rfl (lv_at hl 1 rfl) ?_
  refine lv_aload_n hx hb d_W_law_727 rfl (lv_at hl 0 rfl) ?_
  refine lv_iload hx hb d_W_law_728 (lv_at hl 4 rfl) ?_
  refine lv_iconst (v := 1) hx hb d_W_law_730 (by decide) ?_
  refine lv_iadd hx hb d_W_law_731 ?_
  refine va_sld hx hb hXs hbl hbA hS hi1 d_W_law_732 ?_
  refine lv_aload_n hx hb d_W_law_733 rfl (lv_at hl 0 rfl) ?_
  refine lv_iload hx hb d_W_law_734 (lv_at hl 4 rfl) ?_
  refine lv_iconst (v := 2) hx hb d_W_law_736 (by decide) ?_
  refine lv_iadd hx hb d_W_law_737 ?_
  refine va_sld hx hb hXs hbl hbA hS hi2 d_W_law_738 ?_
  refine k_W_69 X ⟨Nat.le_of_ble_eq_true rfl, Nat.le_of_ble_eq_true rfl⟩ ⟨by omega, by omega⟩ hl.1 hP hS h0 hRx hV (by exact Nat.le_of_ble_eq_true rfl) d_W_law_739 (fun r_1 u H locs hr_1 hP hS => ?_)
  obtain ⟨er1, hRx, hK1⟩ := hr_1
  obtain ⟨hM, ho, hFo, hFM⟩ := LI_c hM ho hFo hFM hK1
  obtain ⟨fs1, hm⟩ := hM.ob
  refine lv_aload_n hx hb d_W_law_742 rfl (lv_at hl 2 rfl) ?_
  refine lv_aload_n hx hb d_W_law_743 rfl (lv_at hl 0 rfl) ?_
  refine lv_iload hx hb d_W_law_744 (lv_at hl 4 rfl) ?_
  refine lv_iconst (v := 1) hx hb d_W_law_746 (by decide) ?_
  refine lv_iadd hx hb d_W_law_747 ?_
  refine va_sld hx hb hXs hbl hbA hS hi1 d_W_law_748 ?_
  refine lv_aload_n hx hb d_W_law_749 rfl (lv_at hl 0 rfl) ?_
  refine lv_iload hx hb d_W_law_750 (lv_at hl 4 rfl) ?_
  refine lv_iconst (v := 2) hx hb d_W_law_752 (by decide) ?_
  refine lv_iadd hx hb d_W_law_753 ?_
  refine va_sld hx hb hXs hbl hbA hS hi2 d_W_law_754 ?_
  refine k_W_73 X ⟨Nat.le_of_ble_eq_true rfl, Nat.le_of_ble_eq_true rfl⟩ ⟨by omega, by omega⟩ hl.1 hP hS hm hM hV (by exact Nat.le_of_ble_eq_true rfl) d_W_law_755 (fun r_2 u H locs hr_2 hP hS => ?_)
  obtain ⟨er2, hM, hK2⟩ := hr_2
  have hL2 := LI_m (Ok_waive hO _ _) hRx hM hK2 ho hFo hFM hoM
  refine W.lcmp hx hb d_W_law_758 ?_
  refine lv_if_eq (tgt := 1022) hx hb d_W_law_759 (by decide) (fun c_3 => ?_) (fun c_3 => ?_)
  · rw [lg_cmp_eq] at c_3
    exact W.widen (by omega) (by omega) (kk u H locs ls hP hS hL2 (lv_sub hl [0, 1, 2, 3, 4] rfl))
  · rw [lg_cmp_eq] at c_3
    exact absurd (er1.trans er2.symm) c_3
set_option maxHeartbeats 4000000 in
set_option maxRecDepth 100000 in
theorem lc_owes {p : Program} {l : Launch} {e : Env} {s : State} {m : MethodId} {args : Array Value} {below : List Frame} {meth : Method} {c : Code} {D : va_G} {t : Nat → ClassId} {A : Nat → Prop} {b L : Nat} {xs : Nat → Int32} {ad ma : Nat → Nat} {o n : Nat} {Q : State → Prop} {H : Heap} {locs : List Loc} {cells slots : Nat} {g : hG} {ls : Array Slot} {i : Int32} (hLK : LK p l s m args meth c D t A b L xs ma o) (hLN : LN i L) (hn : n ≤ 1000) (hc1 : cells + 1 ≤ room_1.cells) (hc2 : slots + 8 ≤ room_1.slots) (hP : hw D vwCl A g H) (hS : va_S A s.heap H locs) (hLI : LI t ad ma o n g) (hl : lv_has ls 7 [(0, .ref b), (1, .ref (ad 0)), (2, .ref (ma 0)), (3, .ref o), (4, .int i)])
    (kk : ∀ (u : hG) (H1 : Heap) (locs1 : List Loc) (ls1 : Array Slot), hw D vwCl A u H1 → va_S A s.heap H1 locs1 → LI t ad ma o (n + 1) u → lv_has ls1 7 [(0, .ref b), (1, .ref (ad 0)), (2, .ref (ma 0)), (3, .ref o), (4, .int i)] → W p l e room_1 s m args below meth c H1 locs1 (cells + 1) (slots + 8) Q (F0 m 1022 ls1 [])) : W p l e room_1 s m args below meth c H locs cells slots Q (F0 m 764 ls []) := by
  obtain ⟨X, hlt9, hGG, hXs, hbl, hbA, hoM⟩ := hLK
  obtain ⟨hx, hb, hml, hr, hts, hown, hlocks, hK, hEs, hA, hnm⟩ := id X
  obtain ⟨hi1, hi2, hi3, hi4, hi5⟩ := hLN
  obtain ⟨F, σ, tv, ou, hO, hRx, hM, ho, hFo, hFM⟩ := hLI
  have hV : Inv σ := hO.1
  obtain ⟨fs0, h0⟩ := hRx.ob
  obtain ⟨fs1, hm⟩ := hM.ob
  refine lv_aload_n hx hb d_W_law_764 rfl (lv_at hl 1 rfl) ?_
  refine lv_aload_n hx hb d_W_law_765 rfl (lv_at hl 0 rfl) ?_
  refine lv_iload hx hb d_W_law_766 (lv_at hl 4 rfl) ?_
  refine lv_iconst (v := 1) hx hb d_W_law_768 (by decide) ?_
  refine lv_iadd hx hb d_W_law_769 ?_
  refine va_sld hx hb hXs hbl hbA hS hi1 d_W_law_770 ?_
  refine lv_aload_n hx hb d_W_law_771 rfl (lv_at hl 0 rfl) ?_
  refine lv_iload hx hb d_W_law_772 (lv_at hl 4 rfl) ?_
  refine lv_iconst (v := 2) hx hb d_W_law_774 (by decide) ?_
  refine lv_iadd hx hb d_W_law_775 ?_
  refine va_sld hx hb hXs hbl hbA hS hi2 d_W_law_776 ?_
  refine lv_i2l hx hb d_W_law_777 rfl ?_
  refine lv_bipush (v := 32) hx hb d_W_law_778 (by decide) ?_
  refine lv_lshl hx hb d_W_law_780 rfl ?_
  refine lv_aload_n hx hb d_W_law_781 rfl (lv_at hl 0 rfl) ?_
  refine lv_iload hx hb d_W_law_782 (lv_at hl 4 rfl) ?_
  refine lv_iconst (v := 3) hx hb d_W_law_784 (by decide) ?_
  refine lv_iadd hx hb d_W_law_785 ?_
  refine va_sld hx hb hXs hbl hbA hS hi3 d_W_law_786 ?_
  refine lv_i2l hx hb d_W_law_787 rfl ?_
  refine lv_ldc2 (v := 4294967295) hx hb hown (hts _ (tbm 659 (by decide +kernel))) d_W_law_788 ?_
  refine lv_land hx hb d_W_law_791 ?_
  refine lv_lor hx hb d_W_law_792 ?_
  refine k_W_74 X ⟨Nat.le_of_ble_eq_true rfl, Nat.le_of_ble_eq_true rfl⟩ ⟨by omega, by omega⟩ hl.1 hP hS h0 hRx hV (by exact Nat.le_of_ble_eq_true rfl) d_W_law_793 (fun r_1 H locs er_1 hP hS => ?_)
  refine lv_aload_n hx hb d_W_law_796 rfl (lv_at hl 2 rfl) ?_
  refine lv_aload_n hx hb d_W_law_797 rfl (lv_at hl 0 rfl) ?_
  refine lv_iload hx hb d_W_law_798 (lv_at hl 4 rfl) ?_
  refine lv_iconst (v := 1) hx hb d_W_law_800 (by decide) ?_
  refine lv_iadd hx hb d_W_law_801 ?_
  refine va_sld hx hb hXs hbl hbA hS hi1 d_W_law_802 ?_
  refine lv_aload_n hx hb d_W_law_803 rfl (lv_at hl 0 rfl) ?_
  refine lv_iload hx hb d_W_law_804 (lv_at hl 4 rfl) ?_
  refine lv_iconst (v := 2) hx hb d_W_law_806 (by decide) ?_
  refine lv_iadd hx hb d_W_law_807 ?_
  refine va_sld hx hb hXs hbl hbA hS hi2 d_W_law_808 ?_
  refine lv_i2l hx hb d_W_law_809 rfl ?_
  refine lv_bipush (v := 32) hx hb d_W_law_810 (by decide) ?_
  refine lv_lshl hx hb d_W_law_812 rfl ?_
  refine lv_aload_n hx hb d_W_law_813 rfl (lv_at hl 0 rfl) ?_
  refine lv_iload hx hb d_W_law_814 (lv_at hl 4 rfl) ?_
  refine lv_iconst (v := 3) hx hb d_W_law_816 (by decide) ?_
  refine lv_iadd hx hb d_W_law_817 ?_
  refine va_sld hx hb hXs hbl hbA hS hi3 d_W_law_818 ?_
  refine lv_i2l hx hb d_W_law_819 rfl ?_
  refine lv_ldc2 (v := 4294967295) hx hb hown (hts _ (tbm 659 (by decide +kernel))) d_W_law_820 ?_
  refine lv_land hx hb d_W_law_823 ?_
  refine lv_lor hx hb d_W_law_824 ?_
  refine k_W_77 X ⟨Nat.le_of_ble_eq_true rfl, Nat.le_of_ble_eq_true rfl⟩ ⟨by omega, by omega⟩ hl.1 hP hS hm hM hV (by exact Nat.le_of_ble_eq_true rfl) d_W_law_825 (fun r_2 u H locs hr_2 hP hS => ?_)
  obtain ⟨er2, hM, hK2⟩ := hr_2
  have hL2 := LI_m (hO.up) hRx hM hK2 ho hFo hFM hoM
  refine W.lcmp hx hb d_W_law_828 ?_
  refine lv_if_eq (tgt := 1022) hx hb d_W_law_829 (by decide) (fun c_3 => ?_) (fun c_3 => ?_)
  · rw [lg_cmp_eq] at c_3
    exact W.widen (by omega) (by omega) (kk u H locs ls hP hS hL2 (lv_sub hl [0, 1, 2, 3, 4] rfl))
  · rw [lg_cmp_eq] at c_3
    exact absurd (er_1.trans er2.symm) c_3
