theorem bi_thr {a : Bool} {z : Int32} (h : ¬ (a = true ∧ z = 0)) : bi (a && decide (z = 0)) = 0 := bi_0.mpr (by
  cases a with
  | false => rfl
  | true => exact decide_eq_false (fun q => h ⟨rfl, q⟩))
set_option maxHeartbeats 4000000 in
set_option maxRecDepth 100000 in
theorem lc_interest {p : Program} {l : Launch} {e : Env} {s : State} {m : MethodId} {args : Array Value} {below : List Frame} {meth : Method} {c : Code} {D : va_G} {t : Nat → ClassId} {A : Nat → Prop} {b L : Nat} {xs : Nat → Int32} {ad ma : Nat → Nat} {o n : Nat} {Q : State → Prop} {H : Heap} {locs : List Loc} {cells slots : Nat} {g : hG} {ls : Array Slot} {i : Int32} (hLK : LK p l s m args meth c D t A b L xs ma o) (hLN : LN i L) (hn : n ≤ 1000) (hc1 : cells + 1 ≤ room_1.cells) (hc2 : slots + 8 ≤ room_1.slots) (hP : hw D vwCl A g H) (hS : va_S A s.heap H locs) (hLI : LI t ad ma o n g) (hl : lv_has ls 7 [(0, .ref b), (1, .ref (ad 0)), (2, .ref (ma 0)), (3, .ref o), (4, .int i)])
    (kk : ∀ (u : hG) (H1 : Heap) (locs1 : List Loc) (ls1 : Array Slot), hw D vwCl A u H1 → va_S A s.heap H1 locs1 → LI t ad ma o (n + 1) u → lv_has ls1 7 [(0, .ref b), (1, .ref (ad 0)), (2, .ref (ma 0)), (3, .ref o), (4, .int i)] → W p l e room_1 s m args below meth c H1 locs1 (cells + 1) (slots + 8) Q (F0 m 1022 ls1 [])) : W p l e room_1 s m args below meth c H locs cells slots Q (F0 m 169 ls []) := by
  obtain ⟨X, hlt9, hGG, hXs, hbl, hbA, hoM⟩ := hLK
  obtain ⟨hx, hb, hml, hr, hts, hown, hlocks, hK, hEs, hA, hnm⟩ := id X
  obtain ⟨hi1, hi2, hi3, hi4, hi5⟩ := hLN
  obtain ⟨F, σ, tv, ou, hO, hRx, hM, ho, hFo, hFM⟩ := hLI
  have hV : Inv σ := hO.1
  refine lv_aload_n hx hb d_W_law_169 rfl (lv_at hl 1 rfl) ?_
  refine lv_aload_n hx hb d_W_law_170 rfl (lv_at hl 0 rfl) ?_
  refine lv_iload hx hb d_W_law_171 (lv_at hl 4 rfl) ?_
  refine lv_iconst (v := 1) hx hb d_W_law_173 (by decide) ?_
  refine lv_iadd hx hb d_W_law_174 ?_
  refine va_sld hx hb hXs hbl hbA hS hi1 d_W_law_175 ?_
  refine lv_aload_n hx hb d_W_law_176 rfl (lv_at hl 0 rfl) ?_
  refine lv_iload hx hb d_W_law_177 (lv_at hl 4 rfl) ?_
  refine lv_iconst (v := 2) hx hb d_W_law_179 (by decide) ?_
  refine lv_iadd hx hb d_W_law_180 ?_
  refine va_sld hx hb hXs hbl hbA hS hi2 d_W_law_181 ?_
  refine lv_aload_n hx hb d_W_law_182 rfl (lv_at hl 0 rfl) ?_
  refine lv_iload hx hb d_W_law_183 (lv_at hl 4 rfl) ?_
  refine lv_iconst (v := 3) hx hb d_W_law_185 (by decide) ?_
  refine lv_iadd hx hb d_W_law_186 ?_
  refine va_sld hx hb hXs hbl hbA hS hi3 d_W_law_187 ?_
  refine lv_aload_n hx hb d_W_law_188 rfl (lv_at hl 3 rfl) ?_
  refine k_W_23 hlt9 X ⟨Nat.le_of_ble_eq_true rfl, Nat.le_of_ble_eq_true rfl⟩ ⟨by omega, by omega⟩ hl.1 hGG hP hS hRx hV ho hFo (by exact Nat.le_of_ble_eq_true rfl) d_W_law_189 (fun r1 u H locs hr1 hP hS => ?_)
  by_cases hthr : okInt σ (xs (i + 1).toNatClampNeg) (xs (i + 2).toNatClampNeg) (xs (i + 3).toNatClampNeg) = true ∧ (xs (i + 3).toNatClampNeg) = 0
  · obtain ⟨e1, e2⟩ := hr1.1 hthr
    subst e1
    rw [e2] at hP
    have htv : bi (okInt σ (xs (i + 1).toNatClampNeg) (xs (i + 2).toNatClampNeg) (xs (i + 3).toNatClampNeg) && decide ((xs (i + 3).toNatClampNeg) = 0)) = 1 := by rw [hthr.1, decide_eq_true hthr.2]; rfl
    obtain ⟨fs1, hm⟩ := hM.ob
    refine lv_istore (lv' := [(5, .int 1), (0, .ref b), (1, .ref (ad 0)), (2, .ref (ma 0)), (3, .ref o), (4, .int i)]) hx hb d_W_law_192 hl (by decide) rfl (fun ls hl => ?_)
    refine lv_aload_n hx hb d_W_law_194 rfl (lv_at hl 3 rfl) ?_
    refine lv_aload_n hx hb d_W_law_195 rfl (lv_at hl 1 rfl) ?_
    refine lv_iload hx hb d_W_law_196 (lv_at hl 5 rfl) ?_
    refine lv_iconst (v := 1) hx hb d_W_law_198 (by decide) ?_
    refine lv_iadd hx hb d_W_law_199 ?_
    refine va_sld hx hb hXs hbl hbA hS hi1 d_W_law_200 ?_
    refine lv_aload_n hx hb d_W_law_201 rfl (lv_at hl 1 rfl) ?_
    refine lv_iload hx hb d_W_law_202 (lv_at hl 5 rfl) ?_
    refine lv_iconst (v := 2) hx hb d_W_law_204 (by decide) ?_
    refine lv_iadd hx hb d_W_law_205 ?_
    refine va_sld hx hb hXs hbl hbA hS hi2 d_W_law_206 ?_
    refine lv_aload_n hx hb d_W_law_207 rfl (lv_at hl 1 rfl) ?_
    refine lv_iload hx hb d_W_law_208 (lv_at hl 5 rfl) ?_
    refine lv_iconst (v := 3) hx hb d_W_law_210 (by decide) ?_
    refine lv_iadd hx hb d_W_law_211 ?_
    refine va_sld hx hb hXs hbl hbA hS hi3 d_W_law_212 ?_
    refine k_W_28 X ⟨Nat.le_of_ble_eq_true rfl, Nat.le_of_ble_eq_true rfl⟩ ⟨by omega, by omega⟩ hl.1 hP hS hm hM hV (by exact Nat.le_of_ble_eq_true rfl) d_W_law_213 (fun r_1 u H locs hr_1 hP hS => ?_)
    obtain ⟨er2, hM, hK2⟩ := hr_1
    rw [htv] at hM
    rw [spInt_0 hthr] at hM
    have hL2 := LI_m hO.up hRx hM hK2 ho hFo hFM hoM
    have hV2 : Inv σ := hV
    obtain ⟨fs2, hm2⟩ := hM.ob
    refine lv_istore (lv' := [(6, .int r_1), (5, .int 1), (0, .ref b), (1, .ref (ad 0)), (2, .ref (ma 0)), (3, .ref o), (4, .int i)]) hx hb d_W_law_216 hl (by decide) rfl (fun ls hl => ?_)
    refine lv_aload_n hx hb d_W_law_218 rfl (lv_at hl 4 rfl) ?_
    refine k_W_29 X ⟨Nat.le_of_ble_eq_true rfl, Nat.le_of_ble_eq_true rfl⟩ ⟨by omega, by omega⟩ hl.1 hP hS hm2 hM hV2 (by exact Nat.le_of_ble_eq_true rfl) d_W_law_219 (fun r_2 H locs er_2 hP hS => ?_)
    refine lv_iload hx hb d_W_law_222 (lv_at hl 1 rfl) ?_
    refine lv_icmp_eq (tgt := 229) hx hb d_W_law_224 (by decide) (fun c_3 => ?_) (fun c_3 => ?_)
    · refine lv_iload hx hb d_W_law_229 (lv_at hl 1 rfl) ?_
      refine lv_if_ne (tgt := 246) hx hb d_W_law_231 (by decide) (fun c_4 => ?_) (fun c_4 => ?_)
      · refine lv_goto (tgt := 1022) hx hb d_W_law_246 (by decide) ?_
        exact W.widen (by omega) (by omega) (kk u H locs ls hP hS hL2 (lv_sub hl [2, 3, 4, 5, 6] rfl))
      · exact absurd c_4 (by decide)
    · exact absurd er_2 c_3
  obtain ⟨e1, u1, hRx, hK1, hu1, e2⟩ := hr1.2 hthr
  subst e1
  have htv : bi (okInt σ (xs (i + 1).toNatClampNeg) (xs (i + 2).toNatClampNeg) (xs (i + 3).toNatClampNeg) && decide ((xs (i + 3).toNatClampNeg) = 0)) = 0 := bi_thr hthr
  obtain ⟨hM, -, hFo, hFM⟩ := LI_c hM ho hFo hFM hK1
  have hKu : Keep (fun z => z = o) u1 u := by rw [e2]; exact Keep.up Keep.rf (Or.inl rfl)
  have hM := hM.keep hKu (fun j hj q => hoM j hj q.symm)
  have hRx := hRx.keep hKu (fun a ha q => hFo (q ▸ ha))
  have ho : u o = some (arJ t 1 (va_up ou 0 (spInt σ (xs (i + 1).toNatClampNeg) (xs (i + 2).toNatClampNeg) (xs (i + 3).toNatClampNeg)).1.toInt64)) := by rw [e2]; exact va_up_self _ _ _
  obtain ⟨fs1, hm⟩ := hM.ob
  refine lv_istore (lv' := [(5, .int 0), (0, .ref b), (1, .ref (ad 0)), (2, .ref (ma 0)), (3, .ref o), (4, .int i)]) hx hb d_W_law_192 hl (by decide) rfl (fun ls hl => ?_)
  refine lv_aload_n hx hb d_W_law_194 rfl (lv_at hl 3 rfl) ?_
  refine lv_aload_n hx hb d_W_law_195 rfl (lv_at hl 1 rfl) ?_
  refine lv_iload hx hb d_W_law_196 (lv_at hl 5 rfl) ?_
  refine lv_iconst (v := 1) hx hb d_W_law_198 (by decide) ?_
  refine lv_iadd hx hb d_W_law_199 ?_
  refine va_sld hx hb hXs hbl hbA hS hi1 d_W_law_200 ?_
  refine lv_aload_n hx hb d_W_law_201 rfl (lv_at hl 1 rfl) ?_
  refine lv_iload hx hb d_W_law_202 (lv_at hl 5 rfl) ?_
  refine lv_iconst (v := 2) hx hb d_W_law_204 (by decide) ?_
  refine lv_iadd hx hb d_W_law_205 ?_
  refine va_sld hx hb hXs hbl hbA hS hi2 d_W_law_206 ?_
  refine lv_aload_n hx hb d_W_law_207 rfl (lv_at hl 1 rfl) ?_
  refine lv_iload hx hb d_W_law_208 (lv_at hl 5 rfl) ?_
  refine lv_iconst (v := 3) hx hb d_W_law_210 (by decide) ?_
  refine lv_iadd hx hb d_W_law_211 ?_
  refine va_sld hx hb hXs hbl hbA hS hi3 d_W_law_212 ?_
  refine k_W_28 X ⟨Nat.le_of_ble_eq_true rfl, Nat.le_of_ble_eq_true rfl⟩ ⟨by omega, by omega⟩ hl.1 hP hS hm hM hV (by exact Nat.le_of_ble_eq_true rfl) d_W_law_213 (fun r_5 u H locs hr_5 hP hS => ?_)
  obtain ⟨er2, hM, hK2⟩ := hr_5
  rw [htv] at hM
  have er2 := er2 hthr
  have hL2 := LI_m (Ok_int hO _ _ _) hRx hM hK2 ho hFo hFM hoM
  have hV2 : Inv (spInt σ (xs (i + 1).toNatClampNeg) (xs (i + 2).toNatClampNeg) (xs (i + 3).toNatClampNeg)).2 := (Ok_int hO _ _ _).1
  have ho2 : u o = some (arJ t 1 (va_up ou 0 (spInt σ (xs (i + 1).toNatClampNeg) (xs (i + 2).toNatClampNeg) (xs (i + 3).toNatClampNeg)).1.toInt64)) := (hK2 o (fun ⟨j, hj, q⟩ => hoM j hj q) (by rw [ho]; exact fun q => by cases q)).trans ho
  obtain ⟨fs2, hm2⟩ := hM.ob
  refine lv_istore (lv' := [(6, .int r_5), (5, .int 0), (0, .ref b), (1, .ref (ad 0)), (2, .ref (ma 0)), (3, .ref o), (4, .int i)]) hx hb d_W_law_216 hl (by decide) rfl (fun ls hl => ?_)
  refine lv_aload_n hx hb d_W_law_218 rfl (lv_at hl 4 rfl) ?_
  refine k_W_29 X ⟨Nat.le_of_ble_eq_true rfl, Nat.le_of_ble_eq_true rfl⟩ ⟨by omega, by omega⟩ hl.1 hP hS hm2 hM hV2 (by exact Nat.le_of_ble_eq_true rfl) d_W_law_219 (fun r_6 H locs er_6 hP hS => ?_)
  refine lv_iload hx hb d_W_law_222 (lv_at hl 1 rfl) ?_
  refine lv_icmp_eq (tgt := 229) hx hb d_W_law_224 (by decide) (fun c_7 => ?_) (fun c_7 => ?_)
  · refine lv_iload hx hb d_W_law_229 (lv_at hl 1 rfl) ?_
    refine lv_if_ne (tgt := 246) hx hb d_W_law_231 (by decide) (fun c_8 => ?_) (fun c_8 => ?_)
    · exact absurd c_8 (by decide)
    · refine lv_aload_n hx hb d_W_law_234 rfl (lv_at hl 5 rfl) ?_
      refine lv_iconst (v := 0) hx hb d_W_law_235 (by decide) ?_
      refine W.eq (g2 := F0 m 236 ls [.int (nI 0), .ref o]) rfl ?_
      refine n_lald X hb hP ho2 ⟨Nat.lt_succ_self 0, by decide⟩ d_W_law_236 ?_
      refine lv_iload hx hb d_W_law_237 (lv_at hl 0 rfl) ?_
      refine lv_i2l hx hb d_W_law_239 rfl ?_
      refine W.lcmp hx hb d_W_law_240 ?_
      refine lv_if_eq (tgt := 246) hx hb d_W_law_241 (by decide) (fun c_9 => ?_) (fun c_9 => ?_)
      · rw [lg_cmp_eq] at c_9
        refine lv_goto (tgt := 1022) hx hb d_W_law_246 (by decide) ?_
        exact W.widen (by omega) (by omega) (kk u H locs ls hP hS hL2 (lv_sub hl [2, 3, 4, 5, 6] rfl))
      · rw [lg_cmp_eq] at c_9
        exact absurd (by rw [er2]; exact va_up_self _ _ _) c_9
  · exact absurd er_6 c_7
