set_option maxHeartbeats 4000000 in
set_option maxRecDepth 100000 in
theorem lc_plan {p : Program} {l : Launch} {e : Env} {s : State} {m : MethodId} {args : Array Value} {below : List Frame} {meth : Method} {c : Code} {D : va_G} {t : Nat → ClassId} {A : Nat → Prop} {b L : Nat} {xs : Nat → Int32} {ad ma : Nat → Nat} {o n : Nat} {Q : State → Prop} {H : Heap} {locs : List Loc} {cells slots : Nat} {g : hG} {ls : Array Slot} {i : Int32} (hLK : LK p l s m args meth c D t A b L xs ma o) (hLN : LN i L) (hn : n ≤ 1000) (hc1 : cells + 1 ≤ room_1.cells) (hc2 : slots + 8 ≤ room_1.slots) (hP : hw D vwCl A g H) (hS : va_S A s.heap H locs) (hLI : LI t ad ma o n g) (hl : lv_has ls 7 [(0, .ref b), (1, .ref (ad 0)), (2, .ref (ma 0)), (3, .ref o), (4, .int i)])
    (kk : ∀ (u : hG) (H1 : Heap) (locs1 : List Loc) (ls1 : Array Slot), hw D vwCl A u H1 → va_S A s.heap H1 locs1 → LI t ad ma o (n + 1) u → lv_has ls1 7 [(0, .ref b), (1, .ref (ad 0)), (2, .ref (ma 0)), (3, .ref o), (4, .int i)] → W p l e room_1 s m args below meth c H1 locs1 (cells + 1) (slots + 8) Q (F0 m 1022 ls1 [])) : W p l e room_1 s m args below meth c H locs cells slots Q (F0 m 834 ls []) := by
  obtain ⟨X, hlt9, hGG, hXs, hbl, hbA, hoM⟩ := hLK
  obtain ⟨hx, hb, hml, hr, hts, hown, hlocks, hK, hEs, hA, hnm⟩ := id X
  obtain ⟨hi1, hi2, hi3, hi4, hi5⟩ := hLN
  obtain ⟨F, σ, tv, ou, hO, hRx, hM, ho, hFo, hFM⟩ := hLI
  have hV : Inv σ := hO.1
  obtain ⟨fs0, h0⟩ := hRx.ob
  obtain ⟨fs1, hm⟩ := hM.ob
  refine lv_aload_n hx hb d_W_law_834 rfl (lv_at hl 1 rfl) ?_
  refine lv_aload_n hx hb d_W_law_835 rfl (lv_at hl 0 rfl) ?_
  refine lv_iload hx hb d_W_law_836 (lv_at hl 4 rfl) ?_
  refine lv_iconst (v := 1) hx hb d_W_law_838 (by decide) ?_
  refine lv_iadd hx hb d_W_law_839 ?_
  refine va_sld hx hb hXs hbl hbA hS hi1 d_W_law_840 ?_
  refine lv_aload_n hx hb d_W_law_841 rfl (lv_at hl 0 rfl) ?_
  refine lv_iload hx hb d_W_law_842 (lv_at hl 4 rfl) ?_
  refine lv_iconst (v := 2) hx hb d_W_law_844 (by decide) ?_
  refine lv_iadd hx hb d_W_law_845 ?_
  refine va_sld hx hb hXs hbl hbA hS hi2 d_W_law_846 ?_
  refine lv_aload_n hx hb d_W_law_847 rfl (lv_at hl 0 rfl) ?_
  refine lv_iload hx hb d_W_law_848 (lv_at hl 4 rfl) ?_
  refine lv_iconst (v := 3) hx hb d_W_law_850 (by decide) ?_
  refine lv_iadd hx hb d_W_law_851 ?_
  refine va_sld hx hb hXs hbl hbA hS hi3 d_W_law_852 ?_
  refine k_W_78 X ⟨Nat.le_of_ble_eq_true rfl, Nat.le_of_ble_eq_true rfl⟩ ⟨by omega, by omega⟩ hl.1 hP hS h0 hRx hV (by exact Nat.le_of_ble_eq_true rfl) d_W_law_853 (fun r_1 H locs er_1 hP hS => ?_)
  refine lv_aload_n hx hb d_W_law_856 rfl (lv_at hl 2 rfl) ?_
  refine lv_aload_n hx hb d_W_law_857 rfl (lv_at hl 0 rfl) ?_
  refine lv_iload hx hb d_W_law_858 (lv_at hl 4 rfl) ?_
  refine lv_iconst (v := 1) hx hb d_W_law_860 (by decide) ?_
  refine lv_iadd hx hb d_W_law_861 ?_
  refine va_sld hx hb hXs hbl hbA hS hi1 d_W_law_862 ?_
  refine lv_aload_n hx hb d_W_law_863 rfl (lv_at hl 0 rfl) ?_
  refine lv_iload hx hb d_W_law_864 (lv_at hl 4 rfl) ?_
  refine lv_iconst (v := 2) hx hb d_W_law_866 (by decide) ?_
  refine lv_iadd hx hb d_W_law_867 ?_
  refine va_sld hx hb hXs hbl hbA hS hi2 d_W_law_868 ?_
  refine lv_aload_n hx hb d_W_law_869 rfl (lv_at hl 0 rfl) ?_
  refine lv_iload hx hb d_W_law_870 (lv_at hl 4 rfl) ?_
  refine lv_iconst (v := 3) hx hb d_W_law_872 (by decide) ?_
  refine lv_iadd hx hb d_W_law_873 ?_
  refine va_sld hx hb hXs hbl hbA hS hi3 d_W_law_874 ?_
  refine k_W_82 X ⟨Nat.le_of_ble_eq_true rfl, Nat.le_of_ble_eq_true rfl⟩ ⟨by omega, by omega⟩ hl.1 hP hS hm hM hV (by exact Nat.le_of_ble_eq_true rfl) d_W_law_875 (fun r_2 u H locs hr_2 hP hS => ?_)
  obtain ⟨er2, hM, hK2⟩ := hr_2
  have hL2 := LI_m (hO.up) hRx hM hK2 ho hFo hFM hoM
  refine W.lcmp hx hb d_W_law_878 ?_
  refine lv_if_eq (tgt := 1022) hx hb d_W_law_879 (by decide) (fun c_3 => ?_) (fun c_3 => ?_)
  · rw [lg_cmp_eq] at c_3
    exact W.widen (by omega) (by omega) (kk u H locs ls hP hS hL2 (lv_sub hl [0, 1, 2, 3, 4] rfl))
  · rw [lg_cmp_eq] at c_3
    exact absurd (er_1.trans er2.symm) c_3
set_option maxHeartbeats 4000000 in
set_option maxRecDepth 100000 in
theorem lc_threshold {p : Program} {l : Launch} {e : Env} {s : State} {m : MethodId} {args : Array Value} {below : List Frame} {meth : Method} {c : Code} {D : va_G} {t : Nat → ClassId} {A : Nat → Prop} {b L : Nat} {xs : Nat → Int32} {ad ma : Nat → Nat} {o n : Nat} {Q : State → Prop} {H : Heap} {locs : List Loc} {cells slots : Nat} {g : hG} {ls : Array Slot} {i : Int32} (hLK : LK p l s m args meth c D t A b L xs ma o) (hLN : LN i L) (hn : n ≤ 1000) (hc1 : cells + 1 ≤ room_1.cells) (hc2 : slots + 8 ≤ room_1.slots) (hP : hw D vwCl A g H) (hS : va_S A s.heap H locs) (hLI : LI t ad ma o n g) (hl : lv_has ls 7 [(0, .ref b), (1, .ref (ad 0)), (2, .ref (ma 0)), (3, .ref o), (4, .int i)])
    (kk : ∀ (u : hG) (H1 : Heap) (locs1 : List Loc) (ls1 : Array Slot), hw D vwCl A u H1 → va_S A s.heap H1 locs1 → LI t ad ma o (n + 1) u → lv_has ls1 7 [(0, .ref b), (1, .ref (ad 0)), (2, .ref (ma 0)), (3, .ref o), (4, .int i)] → W p l e room_1 s m args below meth c H1 locs1 (cells + 1) (slots + 8) Q (F0 m 1022 ls1 [])) : W p l e room_1 s m args below meth c H locs cells slots Q (F0 m 884 ls []) := by
  obtain ⟨X, hlt9, hGG, hXs, hbl, hbA, hoM⟩ := hLK
  obtain ⟨hx, hb, hml, hr, hts, hown, hlocks, hK, hEs, hA, hnm⟩ := id X
  obtain ⟨hi1, hi2, hi3, hi4, hi5⟩ := hLN
  obtain ⟨F, σ, tv, ou, hO, hRx, hM, ho, hFo, hFM⟩ := hLI
  have hV : Inv σ := hO.1
  obtain ⟨fs0, h0⟩ := hRx.ob
  obtain ⟨fs1, hm⟩ := hM.ob
  refine lv_aload_n hx hb d_W_law_884 rfl (lv_at hl 1 rfl) ?_
  refine lv_aload_n hx hb d_W_law_885 rfl (lv_at hl 0 rfl) ?_
  refine lv_iload hx hb d_W_law_886 (lv_at hl 4 rfl) ?_
  refine lv_iconst (v := 1) hx hb d_W_law_888 (by decide) ?_
  refine lv_iadd hx hb d_W_law_889 ?_
  refine va_sld hx hb hXs hbl hbA hS hi1 d_W_law_890 ?_
  refine k_W_83 X ⟨Nat.le_of_ble_eq_true rfl, Nat.le_of_ble_eq_true rfl⟩ ⟨by omega, by omega⟩ hl.1 hP hS h0 hRx hV (by exact Nat.le_of_ble_eq_true rfl) d_W_law_891 (fun r_1 u H locs hr_1 hP hS => ?_)
  obtain ⟨er1, hRx, hK1⟩ := hr_1
  obtain ⟨hM, ho, hFo, hFM⟩ := LI_c hM ho hFo hFM hK1
  obtain ⟨fs1, hm⟩ := hM.ob
  refine lv_aload_n hx hb d_W_law_894 rfl (lv_at hl 2 rfl) ?_
  refine lv_aload_n hx hb d_W_law_895 rfl (lv_at hl 0 rfl) ?_
  refine lv_iload hx hb d_W_law_896 (lv_at hl 4 rfl) ?_
  refine lv_iconst (v := 1) hx hb d_W_law_898 (by decide) ?_
  refine lv_iadd hx hb d_W_law_899 ?_
  refine va_sld hx hb hXs hbl hbA hS hi1 d_W_law_900 ?_
  refine k_W_87 X ⟨Nat.le_of_ble_eq_true rfl, Nat.le_of_ble_eq_true rfl⟩ ⟨by omega, by omega⟩ hl.1 hP hS hm hM hV (by exact Nat.le_of_ble_eq_true rfl) d_W_law_901 (fun r_2 u H locs hr_2 hP hS => ?_)
  obtain ⟨er2, hM, hK2⟩ := hr_2
  have hL2 := LI_m (Ok_th hO _) hRx hM hK2 ho hFo hFM hoM
  refine lv_icmp_eq (tgt := 1022) hx hb d_W_law_904 (by decide) (fun c_3 => ?_) (fun c_3 => ?_)
  · exact W.widen (by omega) (by omega) (kk u H locs ls hP hS hL2 (lv_sub hl [0, 1, 2, 3, 4] rfl))
  · exact absurd (er1.trans er2.symm) c_3
set_option maxHeartbeats 4000000 in
set_option maxRecDepth 100000 in
theorem lc_blocked {p : Program} {l : Launch} {e : Env} {s : State} {m : MethodId} {args : Array Value} {below : List Frame} {meth : Method} {c : Code} {D : va_G} {t : Nat → ClassId} {A : Nat → Prop} {b L : Nat} {xs : Nat → Int32} {ad ma : Nat → Nat} {o n : Nat} {Q : State → Prop} {H : Heap} {locs : List Loc} {cells slots : Nat} {g : hG} {ls : Array Slot} {i : Int32} (hLK : LK p l s m args meth c D t A b L xs ma o) (hLN : LN i L) (hn : n ≤ 1000) (hc1 : cells + 1 ≤ room_1.cells) (hc2 : slots + 8 ≤ room_1.slots) (hP : hw D vwCl A g H) (hS : va_S A s.heap H locs) (hLI : LI t ad ma o n g) (hl : lv_has ls 7 [(0, .ref b), (1, .ref (ad 0)), (2, .ref (ma 0)), (3, .ref o), (4, .int i)])
    (kk : ∀ (u : hG) (H1 : Heap) (locs1 : List Loc) (ls1 : Array Slot), hw D vwCl A u H1 → va_S A s.heap H1 locs1 → LI t ad ma o (n + 1) u → lv_has ls1 7 [(0, .ref b), (1, .ref (ad 0)), (2, .ref (ma 0)), (3, .ref o), (4, .int i)] → W p l e room_1 s m args below meth c H1 locs1 (cells + 1) (slots + 8) Q (F0 m 1022 ls1 [])) : W p l e room_1 s m args below meth c H locs cells slots Q (F0 m 909 ls []) := by
  obtain ⟨X, hlt9, hGG, hXs, hbl, hbA, hoM⟩ := hLK
  obtain ⟨hx, hb, hml, hr, hts, hown, hlocks, hK, hEs, hA, hnm⟩ := id X
  obtain ⟨hi1, hi2, hi3, hi4, hi5⟩ := hLN
  obtain ⟨F, σ, tv, ou, hO, hRx, hM, ho, hFo, hFM⟩ := hLI
  have hV : Inv σ := hO.1
  obtain ⟨fs0, h0⟩ := hRx.ob
  obtain ⟨fs1, hm⟩ := hM.ob
  refine lv_aload_n hx hb d_W_law_909 rfl (lv_at hl 1 rfl) ?_
  refine lv_aload_n hx hb d_W_law_910 rfl (lv_at hl 0 rfl) ?_
  refine lv_iload hx hb d_W_law_911 (lv_at hl 4 rfl) ?_
  refine lv_iconst (v := 1) hx hb d_W_law_913 (by decide) ?_
  refine lv_iadd hx hb d_W_law_914 ?_
  refine va_sld hx hb hXs hbl hbA hS hi1 d_W_law_915 ?_
  refine k_W_88 X ⟨Nat.le_of_ble_eq_true rfl, Nat.le_of_ble_eq_true rfl⟩ ⟨by omega, by omega⟩ hl.1 hP hS h0 hRx hV (by exact Nat.le_of_ble_eq_true rfl) d_W_law_916 (fun r_1 H locs er_1 hP hS => ?_)
  refine lv_aload_n hx hb d_W_law_919 rfl (lv_at hl 2 rfl) ?_
  refine lv_aload_n hx hb d_W_law_920 rfl (lv_at hl 0 rfl) ?_
  refine lv_iload hx hb d_W_law_921 (lv_at hl 4 rfl) ?_
  refine lv_iconst (v := 1) hx hb d_W_law_923 (by decide) ?_
  refine lv_iadd hx hb d_W_law_924 ?_
  refine va_sld hx hb hXs hbl hbA hS hi1 d_W_law_925 ?_
  refine k_W_92 X ⟨Nat.le_of_ble_eq_true rfl, Nat.le_of_ble_eq_true rfl⟩ ⟨by omega, by omega⟩ hl.1 hP hS hm hM hV (by exact Nat.le_of_ble_eq_true rfl) d_W_law_926 (fun r_2 u H locs hr_2 hP hS => ?_)
  obtain ⟨er2, hM, hK2⟩ := hr_2
  have hL2 := LI_m (hO.up) hRx hM hK2 ho hFo hFM hoM
  refine lv_icmp_eq (tgt := 1022) hx hb d_W_law_929 (by decide) (fun c_3 => ?_) (fun c_3 => ?_)
  · exact W.widen (by omega) (by omega) (kk u H locs ls hP hS hL2 (lv_sub hl [0, 1, 2, 3, 4] rfl))
  · exact absurd (er_1.trans er2.symm) c_3
set_option maxHeartbeats 4000000 in
set_option maxRecDepth 100000 in
theorem lc_debt {p : Program} {l : Launch} {e : Env} {s : State} {m : MethodId} {args : Array Value} {below : List Frame} {meth : Method} {c : Code} {D : va_G} {t : Nat → ClassId} {A : Nat → Prop} {b L : Nat} {xs : Nat → Int32} {ad ma : Nat → Nat} {o n : Nat} {Q : State → Prop} {H : Heap} {locs : List Loc} {cells slots : Nat} {g : hG} {ls : Array Slot} {i : Int32} (hLK : LK p l s m args meth c D t A b L xs ma o) (hLN : LN i L) (hn : n ≤ 1000) (hc1 : cells + 1 ≤ room_1.cells) (hc2 : slots + 8 ≤ room_1.slots) (hP : hw D vwCl A g H) (hS : va_S A s.heap H locs) (hLI : LI t ad ma o n g) (hl : lv_has ls 7 [(0, .ref b), (1, .ref (ad 0)), (2, .ref (ma 0)), (3, .ref o), (4, .int i)])
    (kk : ∀ (u : hG) (H1 : Heap) (locs1 : List Loc) (ls1 : Array Slot), hw D vwCl A u H1 → va_S A s.heap H1 locs1 → LI t ad ma o (n + 1) u → lv_has ls1 7 [(0, .ref b), (1, .ref (ad 0)), (2, .ref (ma 0)), (3, .ref o), (4, .int i)] → W p l e room_1 s m args below meth c H1 locs1 (cells + 1) (slots + 8) Q (F0 m 1022 ls1 [])) : W p l e room_1 s m args below meth c H locs cells slots Q (F0 m 934 ls []) := by
  obtain ⟨X, hlt9, hGG, hXs, hbl, hbA, hoM⟩ := hLK
  obtain ⟨hx, hb, hml, hr, hts, hown, hlocks, hK, hEs, hA, hnm⟩ := id X
  obtain ⟨hi1, hi2, hi3, hi4, hi5⟩ := hLN
  obtain ⟨F, σ, tv, ou, hO, hRx, hM, ho, hFo, hFM⟩ := hLI
  have hV : Inv σ := hO.1
  obtain ⟨fs0, h0⟩ := hRx.ob
  obtain ⟨fs1, hm⟩ := hM.ob
  refine lv_aload_n hx hb d_W_law_934 rfl (lv_at hl 1 rfl) ?_
  refine lv_aload_n hx hb d_W_law_935 rfl (lv_at hl 0 rfl) ?_
  refine lv_iload hx hb d_W_law_936 (lv_at hl 4 rfl) ?_
  refine lv_iconst (v := 1) hx hb d_W_law_938 (by decide) ?_
  refine lv_iadd hx hb d_W_law_939 ?_
  refine va_sld hx hb hXs hbl hbA hS hi1 d_W_law_940 ?_
  refine lv_aload_n hx hb d_W_law_941 rfl (lv_at hl 0 rfl) ?_
  refine lv_iload hx hb d_W_law_942 (lv_at hl 4 rfl) ?_
  refine lv_iconst (v := 2) hx hb d_W_law_944 (by decide) ?_
  refine lv_iadd hx hb d_W_law_945 ?_
  refine va_sld hx hb hXs hbl hbA hS hi2 d_W_law_946 ?_
  refine k_W_93 X ⟨Nat.le_of_ble_eq_true rfl, Nat.le_of_ble_eq_true rfl⟩ ⟨by omega, by omega⟩ hl.1 hP hS h0 hRx hV (by exact Nat.le_of_ble_eq_true rfl) d_W_law_947 (fun r_1 H locs er_1 hP hS => ?_)
  refine lv_aload_n hx hb d_W_law_950 rfl (lv_at hl 2 rfl) ?_
  refine lv_aload_n hx hb d_W_law_951 rfl (lv_at hl 0 rfl) ?_
  refine lv_iload hx hb d_W_law_952 (lv_at hl 4 rfl) ?_
  refine lv_iconst (v := 1) hx hb d_W_law_954 (by decide) ?_
  refine lv_iadd hx hb d_W_law_955 ?_
  refine va_sld hx hb hXs hbl hbA hS hi1 d_W_law_956 ?_
  refine lv_aload_n hx hb d_W_law_957 rfl (lv_at hl 0 rfl) ?_
  refine lv_iload hx hb d_W_law_958 (lv_at hl 4 rfl) ?_
  refine lv_iconst (v := 2) hx hb d_W_law_960 (by decide) ?_
  refine lv_iadd hx hb d_W_law_961 ?_
  refine va_sld hx hb hXs hbl hbA hS hi2 d_W_law_962 ?_
  refine k_W_96 X ⟨Nat.le_of_ble_eq_true rfl, Nat.le_of_ble_eq_true rfl⟩ ⟨by omega, by omega⟩ hl.1 hP hS hm hM hV (by exact Nat.le_of_ble_eq_true rfl) d_W_law_963 (fun r_2 u H locs hr_2 hP hS => ?_)
  obtain ⟨er2, hM, hK2⟩ := hr_2
  have hL2 := LI_m (hO.up) hRx hM hK2 ho hFo hFM hoM
  refine W.lcmp hx hb d_W_law_966 ?_
  refine lv_if_eq (tgt := 1022) hx hb d_W_law_967 (by decide) (fun c_3 => ?_) (fun c_3 => ?_)
  · rw [lg_cmp_eq] at c_3
    exact W.widen (by omega) (by omega) (kk u H locs ls hP hS hL2 (lv_sub hl [0, 1, 2, 3, 4] rfl))
  · rw [lg_cmp_eq] at c_3
    exact absurd (er_1.trans er2.symm) c_3
set_option maxHeartbeats 4000000 in
set_option maxRecDepth 100000 in
theorem lc_share {p : Program} {l : Launch} {e : Env} {s : State} {m : MethodId} {args : Array Value} {below : List Frame} {meth : Method} {c : Code} {D : va_G} {t : Nat → ClassId} {A : Nat → Prop} {b L : Nat} {xs : Nat → Int32} {ad ma : Nat → Nat} {o n : Nat} {Q : State → Prop} {H : Heap} {locs : List Loc} {cells slots : Nat} {g : hG} {ls : Array Slot} {i : Int32} (hLK : LK p l s m args meth c D t A b L xs ma o) (hLN : LN i L) (hn : n ≤ 1000) (hc1 : cells + 1 ≤ room_1.cells) (hc2 : slots + 8 ≤ room_1.slots) (hP : hw D vwCl A g H) (hS : va_S A s.heap H locs) (hLI : LI t ad ma o n g) (hl : lv_has ls 7 [(0, .ref b), (1, .ref (ad 0)), (2, .ref (ma 0)), (3, .ref o), (4, .int i)])
    (kk : ∀ (u : hG) (H1 : Heap) (locs1 : List Loc) (ls1 : Array Slot), hw D vwCl A u H1 → va_S A s.heap H1 locs1 → LI t ad ma o (n + 1) u → lv_has ls1 7 [(0, .ref b), (1, .ref (ad 0)), (2, .ref (ma 0)), (3, .ref o), (4, .int i)] → W p l e room_1 s m args below meth c H1 locs1 (cells + 1) (slots + 8) Q (F0 m 1022 ls1 [])) : W p l e room_1 s m args below meth c H locs cells slots Q (F0 m 972 ls []) := by
  obtain ⟨X, hlt9, hGG, hXs, hbl, hbA, hoM⟩ := hLK
  obtain ⟨hx, hb, hml, hr, hts, hown, hlocks, hK, hEs, hA, hnm⟩ := id X
  obtain ⟨hi1, hi2, hi3, hi4, hi5⟩ := hLN
  obtain ⟨F, σ, tv, ou, hO, hRx, hM, ho, hFo, hFM⟩ := hLI
  have hV : Inv σ := hO.1
  obtain ⟨fs0, h0⟩ := hRx.ob
  obtain ⟨fs1, hm⟩ := hM.ob
  refine lv_aload_n hx hb d_W_law_972 rfl (lv_at hl 1 rfl) ?_
  refine lv_aload_n hx hb d_W_law_973 rfl (lv_at hl 0 rfl) ?_
  refine lv_iload hx hb d_W_law_974 (lv_at hl 4 rfl) ?_
  refine lv_iconst (v := 1) hx hb d_W_law_976 (by decide) ?_
  refine lv_iadd hx hb d_W_law_977 ?_
  refine va_sld hx hb hXs hbl hbA hS hi1 d_W_law_978 ?_
  refine lv_aload_n hx hb d_W_law_979 rfl (lv_at hl 0 rfl) ?_
  refine lv_iload hx hb d_W_law_980 (lv_at hl 4 rfl) ?_
  refine lv_iconst (v := 2) hx hb d_W_law_982 (by decide) ?_
  refine lv_iadd hx hb d_W_law_983 ?_
  refine va_sld hx hb hXs hbl hbA hS hi2 d_W_law_984 ?_
  refine lv_aload_n hx hb d_W_law_985 rfl (lv_at hl 0 rfl) ?_
  refine lv_iload hx hb d_W_law_986 (lv_at hl 4 rfl) ?_
  refine lv_iconst (v := 3) hx hb d_W_law_988 (by decide) ?_
  refine lv_iadd hx hb d_W_law_989 ?_
  refine va_sld hx hb hXs hbl hbA hS hi3 d_W_law_990 ?_
  refine k_W_97 X ⟨Nat.le_of_ble_eq_true rfl, Nat.le_of_ble_eq_true rfl⟩ ⟨by omega, by omega⟩ hl.1 hP hS h0 hRx hV (by exact Nat.le_of_ble_eq_true rfl) d_W_law_991 (fun r_1 H locs er_1 hP hS => ?_)
  refine lv_aload_n hx hb d_W_law_994 rfl (lv_at hl 2 rfl) ?_
  refine lv_aload_n hx hb d_W_law_995 rfl (lv_at hl 0 rfl) ?_
  refine lv_iload hx hb d_W_law_996 (lv_at hl 4 rfl) ?_
  refine lv_iconst (v := 1) hx hb d_W_law_998 (by decide) ?_
  refine lv_iadd hx hb d_W_law_999 ?_
  refine va_sld hx hb hXs hbl hbA hS hi1 d_W_law_1000 ?_
  refine lv_aload_n hx hb d_W_law_1001 rfl (lv_at hl 0 rfl) ?_
  refine lv_iload hx hb d_W_law_1002 (lv_at hl 4 rfl) ?_
  refine lv_iconst (v := 2) hx hb d_W_law_1004 (by decide) ?_
  refine lv_iadd hx hb d_W_law_1005 ?_
  refine va_sld hx hb hXs hbl hbA hS hi2 d_W_law_1006 ?_
  refine lv_aload_n hx hb d_W_law_1007 rfl (lv_at hl 0 rfl) ?_
  refine lv_iload hx hb d_W_law_1008 (lv_at hl 4 rfl) ?_
  refine lv_iconst (v := 3) hx hb d_W_law_1010 (by decide) ?_
  refine lv_iadd hx hb d_W_law_1011 ?_
  refine va_sld hx hb hXs hbl hbA hS hi3 d_W_law_1012 ?_
  refine k_W_100 X ⟨Nat.le_of_ble_eq_true rfl, Nat.le_of_ble_eq_true rfl⟩ ⟨by omega, by omega⟩ hl.1 hP hS hm hM hV (by exact Nat.le_of_ble_eq_true rfl) d_W_law_1013 (fun r_2 u H locs hr_2 hP hS => ?_)
  obtain ⟨er2, hM, hK2⟩ := hr_2
  have hL2 := LI_m (hO.up) hRx hM hK2 ho hFo hFM hoM
  refine W.lcmp hx hb d_W_law_1016 ?_
  refine lv_if_eq (tgt := 1022) hx hb d_W_law_1017 (by decide) (fun c_3 => ?_) (fun c_3 => ?_)
  · rw [lg_cmp_eq] at c_3
    exact W.widen (by omega) (by omega) (kk u H locs ls hP hS hL2 (lv_sub hl [0, 1, 2, 3, 4] rfl))
  · rw [lg_cmp_eq] at c_3
    exact absurd (er_1.trans er2.symm) c_3
