set_option maxHeartbeats 4000000 in
set_option maxRecDepth 100000 in
theorem lc_rule {p : Program} {l : Launch} {e : Env} {s : State} {m : MethodId} {args : Array Value} {below : List Frame} {meth : Method} {c : Code} {D : va_G} {t : Nat → ClassId} {A : Nat → Prop} {b L : Nat} {xs : Nat → Int32} {ad ma : Nat → Nat} {o n : Nat} {Q : State → Prop} {H : Heap} {locs : List Loc} {cells slots : Nat} {g : hG} {ls : Array Slot} {i : Int32} (hLK : LK p l s m args meth c D t A b L xs ma o) (hLN : LN i L) (hn : n ≤ 1000) (hc1 : cells + 1 ≤ room_1.cells) (hc2 : slots + 8 ≤ room_1.slots) (hP : hw D vwCl A g H) (hS : va_S A s.heap H locs) (hLI : LI t ad ma o n g) (hl : lv_has ls 7 [(0, .ref b), (1, .ref (ad 0)), (2, .ref (ma 0)), (3, .ref o), (4, .int i)])
    (kk : ∀ (u : hG) (H1 : Heap) (locs1 : List Loc) (ls1 : Array Slot), hw D vwCl A u H1 → va_S A s.heap H1 locs1 → LI t ad ma o (n + 1) u → lv_has ls1 7 [(0, .ref b), (1, .ref (ad 0)), (2, .ref (ma 0)), (3, .ref o), (4, .int i)] → W p l e room_1 s m args below meth c H1 locs1 (cells + 1) (slots + 8) Q (F0 m 1022 ls1 [])) : W p l e room_1 s m args below meth c H locs cells slots Q (F0 m 120 ls []) := by
  obtain ⟨X, hlt9, hGG, hXs, hbl, hbA, hoM⟩ := hLK
  obtain ⟨hx, hb, hml, hr, hts, hown, hlocks, hK, hEs, hA, hnm⟩ := id X
  obtain ⟨hi1, hi2, hi3, hi4, hi5⟩ := hLN
  obtain ⟨F, σ, tv, ou, hO, hRx, hM, ho, hFo, hFM⟩ := hLI
  have hV : Inv σ := hO.1
  obtain ⟨fs0, h0⟩ := hRx.ob
  obtain ⟨fs1, hm⟩ := hM.ob
  refine lv_aload_n hx hb d_W_law_120 rfl (lv_at hl 1 rfl) ?_
  refine lv_aload_n hx hb d_W_law_121 rfl (lv_at hl 0 rfl) ?_
  refine lv_iload hx hb d_W_law_122 (lv_at hl 4 rfl) ?_
  refine lv_iconst (v := 1) hx hb d_W_law_124 (by decide) ?_
  refine lv_iadd hx hb d_W_law_125 ?_
  refine va_sld hx hb hXs hbl hbA hS hi1 d_W_law_126 ?_
  refine lv_aload_n hx hb d_W_law_127 rfl (lv_at hl 0 rfl) ?_
  refine lv_iload hx hb d_W_law_128 (lv_at hl 4 rfl) ?_
  refine lv_iconst (v := 2) hx hb d_W_law_130 (by decide) ?_
  refine lv_iadd hx hb d_W_law_131 ?_
  refine va_sld hx hb hXs hbl hbA hS hi2 d_W_law_132 ?_
  refine lv_aload_n hx hb d_W_law_133 rfl (lv_at hl 0 rfl) ?_
  refine lv_iload hx hb d_W_law_134 (lv_at hl 4 rfl) ?_
  refine lv_iconst (v := 3) hx hb d_W_law_136 (by decide) ?_
  refine lv_iadd hx hb d_W_law_137 ?_
  refine va_sld hx hb hXs hbl hbA hS hi3 d_W_law_138 ?_
  refine k_W_19 X ⟨Nat.le_of_ble_eq_true rfl, Nat.le_of_ble_eq_true rfl⟩ ⟨by omega, by omega⟩ hl.1 hP hS h0 hRx hV (by exact Nat.le_of_ble_eq_true rfl) d_W_law_139 (fun r_1 u H locs hr_1 hP hS => ?_)
  obtain ⟨er1, hRx, hK1⟩ := hr_1
  obtain ⟨hM, ho, hFo, hFM⟩ := LI_c hM ho hFo hFM hK1
  obtain ⟨fs1, hm⟩ := hM.ob
  refine lv_aload_n hx hb d_W_law_142 rfl (lv_at hl 2 rfl) ?_
  refine lv_aload_n hx hb d_W_law_143 rfl (lv_at hl 0 rfl) ?_
  refine lv_iload hx hb d_W_law_144 (lv_at hl 4 rfl) ?_
  refine lv_iconst (v := 1) hx hb d_W_law_146 (by decide) ?_
  refine lv_iadd hx hb d_W_law_147 ?_
  refine va_sld hx hb hXs hbl hbA hS hi1 d_W_law_148 ?_
  refine lv_aload_n hx hb d_W_law_149 rfl (lv_at hl 0 rfl) ?_
  refine lv_iload hx hb d_W_law_150 (lv_at hl 4 rfl) ?_
  refine lv_iconst (v := 2) hx hb d_W_law_152 (by decide) ?_
  refine lv_iadd hx hb d_W_law_153 ?_
  refine va_sld hx hb hXs hbl hbA hS hi2 d_W_law_154 ?_
  refine lv_aload_n hx hb d_W_law_155 rfl (lv_at hl 0 rfl) ?_
  refine lv_iload hx hb d_W_law_156 (lv_at hl 4 rfl) ?_
  refine lv_iconst (v := 3) hx hb d_W_law_158 (by decide) ?_
  refine lv_iadd hx hb d_W_law_159 ?_
  refine va_sld hx hb hXs hbl hbA hS hi3 d_W_law_160 ?_
  refine k_W_22 X ⟨Nat.le_of_ble_eq_true rfl, Nat.le_of_ble_eq_true rfl⟩ ⟨by omega, by omega⟩ hl.1 hP hS hm hM hV (by exact Nat.le_of_ble_eq_true rfl) d_W_law_161 (fun r_2 u H locs hr_2 hP hS => ?_)
  obtain ⟨er2, hM, hK2⟩ := hr_2
  have hL2 := LI_m (Ok_rule hO _ _ _) hRx hM hK2 ho hFo hFM hoM
  refine lv_icmp_eq (tgt := 1022) hx hb d_W_law_164 (by decide) (fun c_3 => ?_) (fun c_3 => ?_)
  · exact W.widen (by omega) (by omega) (kk u H locs ls hP hS hL2 (lv_sub hl [0, 1, 2, 3, 4] rfl))
  · exact absurd (er1.trans er2.symm) c_3
set_option maxHeartbeats 4000000 in
set_option maxRecDepth 100000 in
theorem lc_closed {p : Program} {l : Launch} {e : Env} {s : State} {m : MethodId} {args : Array Value} {below : List Frame} {meth : Method} {c : Code} {D : va_G} {t : Nat → ClassId} {A : Nat → Prop} {b L : Nat} {xs : Nat → Int32} {ad ma : Nat → Nat} {o n : Nat} {Q : State → Prop} {H : Heap} {locs : List Loc} {cells slots : Nat} {g : hG} {ls : Array Slot} {i : Int32} (hLK : LK p l s m args meth c D t A b L xs ma o) (hLN : LN i L) (hn : n ≤ 1000) (hc1 : cells + 1 ≤ room_1.cells) (hc2 : slots + 8 ≤ room_1.slots) (hP : hw D vwCl A g H) (hS : va_S A s.heap H locs) (hLI : LI t ad ma o n g) (hl : lv_has ls 7 [(0, .ref b), (1, .ref (ad 0)), (2, .ref (ma 0)), (3, .ref o), (4, .int i)])
    (kk : ∀ (u : hG) (H1 : Heap) (locs1 : List Loc) (ls1 : Array Slot), hw D vwCl A u H1 → va_S A s.heap H1 locs1 → LI t ad ma o (n + 1) u → lv_has ls1 7 [(0, .ref b), (1, .ref (ad 0)), (2, .ref (ma 0)), (3, .ref o), (4, .int i)] → W p l e room_1 s m args below meth c H1 locs1 (cells + 1) (slots + 8) Q (F0 m 1022 ls1 [])) : W p l e room_1 s m args below meth c H locs cells slots Q (F0 m 249 ls []) := by
  obtain ⟨X, hlt9, hGG, hXs, hbl, hbA, hoM⟩ := hLK
  obtain ⟨hx, hb, hml, hr, hts, hown, hlocks, hK, hEs, hA, hnm⟩ := id X
  obtain ⟨hi1, hi2, hi3, hi4, hi5⟩ := hLN
  obtain ⟨F, σ, tv, ou, hO, hRx, hM, ho, hFo, hFM⟩ := hLI
  have hV : Inv σ := hO.1
  obtain ⟨fs0, h0⟩ := hRx.ob
  obtain ⟨fs1, hm⟩ := hM.ob
  refine lv_aload_n hx hb d_W_law_249 rfl (lv_at hl 1 rfl) ?_
  refine lv_aload_n hx hb d_W_law_250 rfl (lv_at hl 0 rfl) ?_
  refine lv_iload hx hb d_W_law_251 (lv_at hl 4 rfl) ?_
  refine lv_iconst (v := 1) hx hb d_W_law_253 (by decide) ?_
  refine lv_iadd hx hb d_W_law_254 ?_
  refine va_sld hx hb hXs hbl hbA hS hi1 d_W_law_255 ?_
  refine lv_i2l hx hb d_W_law_256 rfl ?_
  refine lv_bipush (v := 32) hx hb d_W_law_257 (by decide) ?_
  refine lv_lshl hx hb d_W_law_259 rfl ?_
  refine lv_aload_n hx hb d_W_law_260 rfl (lv_at hl 0 rfl) ?_
  refine lv_iload hx hb d_W_law_261 (lv_at hl 4 rfl) ?_
  refine lv_iconst (v := 2) hx hb d_W_law_263 (by decide) ?_
  refine lv_iadd hx hb d_W_law_264 ?_
  refine va_sld hx hb hXs hbl hbA hS hi2 d_W_law_265 ?_
  refine lv_i2l hx hb d_W_law_266 rfl ?_
  refine lv_ldc2 (v := 4294967295) hx hb hown (hts _ (tbm 659 (by decide +kernel))) d_W_law_267 ?_
  refine lv_land hx hb d_W_law_270 ?_
  refine lv_lor hx hb d_W_law_271 ?_
  refine k_W_35 X ⟨Nat.le_of_ble_eq_true rfl, Nat.le_of_ble_eq_true rfl⟩ ⟨by omega, by omega⟩ hl.1 hP hS h0 hRx hV (by exact Nat.le_of_ble_eq_true rfl) d_W_law_272 (fun r_1 u H locs hr_1 hP hS => ?_)
  obtain ⟨er1, hRx, hK1⟩ := hr_1
  obtain ⟨hM, ho, hFo, hFM⟩ := LI_c hM ho hFo hFM hK1
  obtain ⟨fs1, hm⟩ := hM.ob
  refine lv_aload_n hx hb d_W_law_275 rfl (lv_at hl 2 rfl) ?_
  refine lv_aload_n hx hb d_W_law_276 rfl (lv_at hl 0 rfl) ?_
  refine lv_iload hx hb d_W_law_277 (lv_at hl 4 rfl) ?_
  refine lv_iconst (v := 1) hx hb d_W_law_279 (by decide) ?_
  refine lv_iadd hx hb d_W_law_280 ?_
  refine va_sld hx hb hXs hbl hbA hS hi1 d_W_law_281 ?_
  refine lv_i2l hx hb d_W_law_282 rfl ?_
  refine lv_bipush (v := 32) hx hb d_W_law_283 (by decide) ?_
  refine lv_lshl hx hb d_W_law_285 rfl ?_
  refine lv_aload_n hx hb d_W_law_286 rfl (lv_at hl 0 rfl) ?_
  refine lv_iload hx hb d_W_law_287 (lv_at hl 4 rfl) ?_
  refine lv_iconst (v := 2) hx hb d_W_law_289 (by decide) ?_
  refine lv_iadd hx hb d_W_law_290 ?_
  refine va_sld hx hb hXs hbl hbA hS hi2 d_W_law_291 ?_
  refine lv_i2l hx hb d_W_law_292 rfl ?_
  refine lv_ldc2 (v := 4294967295) hx hb hown (hts _ (tbm 659 (by decide +kernel))) d_W_law_293 ?_
  refine lv_land hx hb d_W_law_296 ?_
  refine lv_lor hx hb d_W_law_297 ?_
  refine k_W_39 X ⟨Nat.le_of_ble_eq_true rfl, Nat.le_of_ble_eq_true rfl⟩ ⟨by omega, by omega⟩ hl.1 hP hS hm hM hV (by exact Nat.le_of_ble_eq_true rfl) d_W_law_298 (fun r_2 u H locs hr_2 hP hS => ?_)
  obtain ⟨er2, hM, hK2⟩ := hr_2
  have hL2 := LI_m (Ok_closed hO _) hRx hM hK2 ho hFo hFM hoM
  refine lv_icmp_eq (tgt := 1022) hx hb d_W_law_301 (by decide) (fun c_3 => ?_) (fun c_3 => ?_)
  · exact W.widen (by omega) (by omega) (kk u H locs ls hP hS hL2 (lv_sub hl [0, 1, 2, 3, 4] rfl))
  · exact absurd (er1.trans er2.symm) c_3
set_option maxHeartbeats 4000000 in
set_option maxRecDepth 100000 in
theorem lc_loan {p : Program} {l : Launch} {e : Env} {s : State} {m : MethodId} {args : Array Value} {below : List Frame} {meth : Method} {c : Code} {D : va_G} {t : Nat → ClassId} {A : Nat → Prop} {b L : Nat} {xs : Nat → Int32} {ad ma : Nat → Nat} {o n : Nat} {Q : State → Prop} {H : Heap} {locs : List Loc} {cells slots : Nat} {g : hG} {ls : Array Slot} {i : Int32} (hLK : LK p l s m args meth c D t A b L xs ma o) (hLN : LN i L) (hn : n ≤ 1000) (hc1 : cells + 1 ≤ room_1.cells) (hc2 : slots + 8 ≤ room_1.slots) (hP : hw D vwCl A g H) (hS : va_S A s.heap H locs) (hLI : LI t ad ma o n g) (hl : lv_has ls 7 [(0, .ref b), (1, .ref (ad 0)), (2, .ref (ma 0)), (3, .ref o), (4, .int i)])
    (kk : ∀ (u : hG) (H1 : Heap) (locs1 : List Loc) (ls1 : Array Slot), hw D vwCl A u H1 → va_S A s.heap H1 locs1 → LI t ad ma o (n + 1) u → lv_has ls1 7 [(0, .ref b), (1, .ref (ad 0)), (2, .ref (ma 0)), (3, .ref o), (4, .int i)] → W p l e room_1 s m args below meth c H1 locs1 (cells + 1) (slots + 8) Q (F0 m 1022 ls1 [])) : W p l e room_1 s m args below meth c H locs cells slots Q (F0 m 306 ls []) := by
  obtain ⟨X, hlt9, hGG, hXs, hbl, hbA, hoM⟩ := hLK
  obtain ⟨hx, hb, hml, hr, hts, hown, hlocks, hK, hEs, hA, hnm⟩ := id X
  obtain ⟨hi1, hi2, hi3, hi4, hi5⟩ := hLN
  obtain ⟨F, σ, tv, ou, hO, hRx, hM, ho, hFo, hFM⟩ := hLI
  have hV : Inv σ := hO.1
  obtain ⟨fs0, h0⟩ := hRx.ob
  obtain ⟨fs1, hm⟩ := hM.ob
  refine lv_aload_n hx hb d_W_law_306 rfl (lv_at hl 1 rfl) ?_
  refine lv_aload_n hx hb d_W_law_307 rfl (lv_at hl 0 rfl) ?_
  refine lv_iload hx hb d_W_law_308 (lv_at hl 4 rfl) ?_
  refine lv_iconst (v := 1) hx hb d_W_law_310 (by decide) ?_
  refine lv_iadd hx hb d_W_law_311 ?_
  refine va_sld hx hb hXs hbl hbA hS hi1 d_W_law_312 ?_
  refine lv_aload_n hx hb d_W_law_313 rfl (lv_at hl 0 rfl) ?_
  refine lv_iload hx hb d_W_law_314 (lv_at hl 4 rfl) ?_
  refine lv_iconst (v := 2) hx hb d_W_law_316 (by decide) ?_
  refine lv_iadd hx hb d_W_law_317 ?_
  refine va_sld hx hb hXs hbl hbA hS hi2 d_W_law_318 ?_
  refine lv_aload_n hx hb d_W_law_319 rfl (lv_at hl 0 rfl) ?_
  refine lv_iload hx hb d_W_law_320 (lv_at hl 4 rfl) ?_
  refine lv_iconst (v := 3) hx hb d_W_law_322 (by decide) ?_
  refine lv_iadd hx hb d_W_law_323 ?_
  refine va_sld hx hb hXs hbl hbA hS hi3 d_W_law_324 ?_
  refine lv_aload_n hx hb d_W_law_325 rfl (lv_at hl 0 rfl) ?_
  refine lv_iload hx hb d_W_law_326 (lv_at hl 4 rfl) ?_
  refine lv_iconst (v := 4) hx hb d_W_law_328 (by decide) ?_
  refine lv_iadd hx hb d_W_law_329 ?_
  refine va_sld hx hb hXs hbl hbA hS hi4 d_W_law_330 ?_
  refine lv_i2l hx hb d_W_law_331 rfl ?_
  refine lv_bipush (v := 32) hx hb d_W_law_332 (by decide) ?_
  refine lv_lshl hx hb d_W_law_334 rfl ?_
  refine lv_aload_n hx hb d_W_law_335 rfl (lv_at hl 0 rfl) ?_
  refine lv_iload hx hb d_W_law_336 (lv_at hl 4 rfl) ?_
  refine lv_iconst (v := 5) hx hb d_W_law_338 (by decide) ?_
  refine lv_iadd hx hb d_W_law_339 ?_
  refine va_sld hx hb hXs hbl hbA hS hi5 d_W_law_340 ?_
  refine lv_i2l hx hb d_W_law_341 rfl ?_
  refine lv_ldc2 (v := 4294967295) hx hb hown (hts _ (tbm 659 (by decide +kernel))) d_W_law_342 ?_
  refine lv_land hx hb d_W_law_345 ?_
  refine lv_lor hx hb d_W_law_346 ?_
  refine k_W_40 X ⟨Nat.le_of_ble_eq_true rfl, Nat.le_of_ble_eq_true rfl⟩ ⟨by omega, by omega⟩ hl.1 hP hS h0 hRx hV (by exact Nat.le_of_ble_eq_true rfl) d_W_law_347 (fun r_1 u H locs hr_1 hP hS => ?_)
  obtain ⟨er1, hRx, hK1⟩ := hr_1
  obtain ⟨hM, ho, hFo, hFM⟩ := LI_c hM ho hFo hFM hK1
  obtain ⟨fs1, hm⟩ := hM.ob
  refine lv_aload_n hx hb d_W_law_350 rfl (lv_at hl 2 rfl) ?_
  refine lv_aload_n hx hb d_W_law_351 rfl (lv_at hl 0 rfl) ?_
  refine lv_iload hx hb d_W_law_352 (lv_at hl 4 rfl) ?_
  refine lv_iconst (v := 1) hx hb d_W_law_354 (by decide) ?_
  refine lv_iadd hx hb d_W_law_355 ?_
  refine va_sld hx hb hXs hbl hbA hS hi1 d_W_law_356 ?_
  refine lv_aload_n hx hb d_W_law_357 rfl (lv_at hl 0 rfl) ?_
  refine lv_iload hx hb d_W_law_358 (lv_at hl 4 rfl) ?_
  refine lv_iconst (v := 2) hx hb d_W_law_360 (by decide) ?_
  refine lv_iadd hx hb d_W_law_361 ?_
  refine va_sld hx hb hXs hbl hbA hS hi2 d_W_law_362 ?_
  refine lv_aload_n hx hb d_W_law_363 rfl (lv_at hl 0 rfl) ?_
  refine lv_iload hx hb d_W_law_364 (lv_at hl 4 rfl) ?_
  refine lv_iconst (v := 3) hx hb d_W_law_366 (by decide) ?_
  refine lv_iadd hx hb d_W_law_367 ?_
  refine va_sld hx hb hXs hbl hbA hS hi3 d_W_law_368 ?_
  refine lv_aload_n hx hb d_W_law_369 rfl (lv_at hl 0 rfl) ?_
  refine lv_iload hx hb d_W_law_370 (lv_at hl 4 rfl) ?_
  refine lv_iconst (v := 4) hx hb d_W_law_372 (by decide) ?_
  refine lv_iadd hx hb d_W_law_373 ?_
  refine va_sld hx hb hXs hbl hbA hS hi4 d_W_law_374 ?_
  refine lv_i2l hx hb d_W_law_375 rfl ?_
  refine lv_bipush (v := 32) hx hb d_W_law_376 (by decide) ?_
  refine lv_lshl hx hb d_W_law_378 rfl ?_
  refine lv_aload_n hx hb d_W_law_379 rfl (lv_at hl 0 rfl) ?_
  refine lv_iload hx hb d_W_law_380 (lv_at hl 4 rfl) ?_
  refine lv_iconst (v := 5) hx hb d_W_law_382 (by decide) ?_
  refine lv_iadd hx hb d_W_law_383 ?_
  refine va_sld hx hb hXs hbl hbA hS hi5 d_W_law_384 ?_
  refine lv_i2l hx hb d_W_law_385 rfl ?_
  refine lv_ldc2 (v := 4294967295) hx hb hown (hts _ (tbm 659 (by decide +kernel))) d_W_law_386 ?_
  refine lv_land hx hb d_W_law_389 ?_
  refine lv_lor hx hb d_W_law_390 ?_
  refine k_W_44 X ⟨Nat.le_of_ble_eq_true rfl, Nat.le_of_ble_eq_true rfl⟩ ⟨by omega, by omega⟩ hl.1 hP hS hm hM hV (by exact Nat.le_of_ble_eq_true rfl) d_W_law_391 (fun r_2 u H locs hr_2 hP hS => ?_)
  obtain ⟨er2, hM, hK2⟩ := hr_2
  have hL2 := LI_m (Ok_loan hO _ _ _ _) hRx hM hK2 ho hFo hFM hoM
  refine lv_icmp_eq (tgt := 1022) hx hb d_W_law_394 (by decide) (fun c_3 => ?_) (fun c_3 => ?_)
  · exact W.widen (by omega) (by omega) (kk u H locs ls hP hS hL2 (lv_sub hl [0, 1, 2, 3, 4] rfl))
  · exact absurd (er1.trans er2.symm) c_3
set_option maxHeartbeats 4000000 in
set_option maxRecDepth 100000 in
theorem lc_overdue {p : Program} {l : Launch} {e : Env} {s : State} {m : MethodId} {args : Array Value} {below : List Frame} {meth : Method} {c : Code} {D : va_G} {t : Nat → ClassId} {A : Nat → Prop} {b L : Nat} {xs : Nat → Int32} {ad ma : Nat → Nat} {o n : Nat} {Q : State → Prop} {H : Heap} {locs : List Loc} {cells slots : Nat} {g : hG} {ls : Array Slot} {i : Int32} (hLK : LK p l s m args meth c D t A b L xs ma o) (hLN : LN i L) (hn : n ≤ 1000) (hc1 : cells + 1 ≤ room_1.cells) (hc2 : slots + 8 ≤ room_1.slots) (hP : hw D vwCl A g H) (hS : va_S A s.heap H locs) (hLI : LI t ad ma o n g) (hl : lv_has ls 7 [(0, .ref b), (1, .ref (ad 0)), (2, .ref (ma 0)), (3, .ref o), (4, .int i)])
    (kk : ∀ (u : hG) (H1 : Heap) (locs1 : List Loc) (ls1 : Array Slot), hw D vwCl A u H1 → va_S A s.heap H1 locs1 → LI t ad ma o (n + 1) u → lv_has ls1 7 [(0, .ref b), (1, .ref (ad 0)), (2, .ref (ma 0)), (3, .ref o), (4, .int i)] → W p l e room_1 s m args below meth c H1 locs1 (cells + 1) (slots + 8) Q (F0 m 1022 ls1 [])) : W p l e room_1 s m args below meth c H locs cells slots Q (F0 m 399 ls []) := by
  obtain ⟨X, hlt9, hGG, hXs, hbl, hbA, hoM⟩ := hLK
  obtain ⟨hx, hb, hml, hr, hts, hown, hlocks, hK, hEs, hA, hnm⟩ := id X
  obtain ⟨hi1, hi2, hi3, hi4, hi5⟩ := hLN
  obtain ⟨F, σ, tv, ou, hO, hRx, hM, ho, hFo, hFM⟩ := hLI
  have hV : Inv σ := hO.1
  obtain ⟨fs0, h0⟩ := hRx.ob
  obtain ⟨fs1, hm⟩ := hM.ob
  refine lv_aload_n hx hb d_W_law_399 rfl (lv_at hl 1 rfl) ?_
  refine lv_aload_n hx hb d_W_law_400 rfl (lv_at hl 0 rfl) ?_
  refine lv_iload hx hb d_W_law_401 (lv_at hl 4 rfl) ?_
  refine lv_iconst (v := 1) hx hb d_W_law_403 (by decide) ?_
  refine lv_iadd hx hb d_W_law_404 ?_
  refine va_sld hx hb hXs hbl hbA hS hi1 d_W_law_405 ?_
  refine lv_aload_n hx hb d_W_law_406 rfl (lv_at hl 0 rfl) ?_
  refine lv_iload hx hb d_W_law_407 (lv_at hl 4 rfl) ?_
  refine lv_iconst (v := 2) hx hb d_W_law_409 (by decide) ?_
  refine lv_iadd hx hb d_W_law_410 ?_
  refine va_sld hx hb hXs hbl hbA hS hi2 d_W_law_411 ?_
  refine lv_i2l hx hb d_W_law_412 rfl ?_
  refine lv_bipush (v := 32) hx hb d_W_law_413 (by decide) ?_
  refine lv_lshl hx hb d_W_law_415 rfl ?_
  refine lv_aload_n hx hb d_W_law_416 rfl (lv_at hl 0 rfl) ?_
  refine lv_iload hx hb d_W_law_417 (lv_at hl 4 rfl) ?_
  refine lv_iconst (v := 3) hx hb d_W_law_419 (by decide) ?_
  refine lv_iadd hx hb d_W_law_420 ?_
  refine va_sld hx hb hXs hbl hbA hS hi3 d_W_law_421 ?_
  refine lv_i2l hx hb d_W_law_422 rfl ?_
  refine lv_ldc2 (v := 4294967295) hx hb hown (hts _ (tbm 659 (by decide +kernel))) d_W_law_423 ?_
  refine lv_land hx hb d_W_law_426 ?_
  refine lv_lor hx hb d_W_law_427 ?_
  refine k_W_45 X ⟨Nat.le_of_ble_eq_true rfl, Nat.le_of_ble_eq_true rfl⟩ ⟨by omega, by omega⟩ hl.1 hP hS h0 hRx hV (by exact Nat.le_of_ble_eq_true rfl) d_W_law_428 (fun r_1 H locs er_1 hP hS => ?_)
  refine lv_aload_n hx hb d_W_law_431 rfl (lv_at hl 2 rfl) ?_
  refine lv_aload_n hx hb d_W_law_432 rfl (lv_at hl 0 rfl) ?_
  refine lv_iload hx hb d_W_law_433 (lv_at hl 4 rfl) ?_
  refine lv_iconst (v := 1) hx hb d_W_law_435 (by decide) ?_
  refine lv_iadd hx hb d_W_law_436 ?_
  refine va_sld hx hb hXs hbl hbA hS hi1 d_W_law_437 ?_
  refine lv_aload_n hx hb d_W_law_438 rfl (lv_at hl 0 rfl) ?_
  refine lv_iload hx hb d_W_law_439 (lv_at hl 4 rfl) ?_
  refine lv_iconst (v := 2) hx hb d_W_law_441 (by decide) ?_
  refine lv_iadd hx hb d_W_law_442 ?_
  refine va_sld hx hb hXs hbl hbA hS hi2 d_W_law_443 ?_
  refine lv_i2l hx hb d_W_law_444 rfl ?_
  refine lv_bipush (v := 32) hx hb d_W_law_445 (by decide) ?_
  refine lv_lshl hx hb d_W_law_447 rfl ?_
  refine lv_aload_n hx hb d_W_law_448 rfl (lv_at hl 0 rfl) ?_
  refine lv_iload hx hb d_W_law_449 (lv_at hl 4 rfl) ?_
  refine lv_iconst (v := 3) hx hb d_W_law_451 (by decide) ?_
  refine lv_iadd hx hb d_W_law_452 ?_
  refine va_sld hx hb hXs hbl hbA hS hi3 d_W_law_453 ?_
  refine lv_i2l hx hb d_W_law_454 rfl ?_
  refine lv_ldc2 (v := 4294967295) hx hb hown (hts _ (tbm 659 (by decide +kernel))) d_W_law_455 ?_
  refine lv_land hx hb d_W_law_458 ?_
  refine lv_lor hx hb d_W_law_459 ?_
  refine k_W_49 X ⟨Nat.le_of_ble_eq_true rfl, Nat.le_of_ble_eq_true rfl⟩ ⟨by omega, by omega⟩ hl.1 hP hS hm hM hV (by exact Nat.le_of_ble_eq_true rfl) d_W_law_460 (fun r_2 u H locs hr_2 hP hS => ?_)
  obtain ⟨er2, hM, hK2⟩ := hr_2
  have hL2 := LI_m (hO.up) hRx hM hK2 ho hFo hFM hoM
  refine W.lcmp hx hb d_W_law_463 ?_
  refine lv_if_eq (tgt := 1022) hx hb d_W_law_464 (by decide) (fun c_3 => ?_) (fun c_3 => ?_)
  · rw [lg_cmp_eq] at c_3
    exact W.widen (by omega) (by omega) (kk u H locs ls hP hS hL2 (lv_sub hl [0, 1, 2, 3, 4] rfl))
  · rw [lg_cmp_eq] at c_3
    exact absurd (er_1.trans er2.symm) c_3
set_option maxHeartbeats 4000000 in
set_option maxRecDepth 100000 in
theorem lc_back {p : Program} {l : Launch} {e : Env} {s : State} {m : MethodId} {args : Array Value} {below : List Frame} {meth : Method} {c : Code} {D : va_G} {t : Nat → ClassId} {A : Nat → Prop} {b L : Nat} {xs : Nat → Int32} {ad ma : Nat → Nat} {o n : Nat} {Q : State → Prop} {H : Heap} {locs : List Loc} {cells slots : Nat} {g : hG} {ls : Array Slot} {i : Int32} (hLK : LK p l s m args meth c D t A b L xs ma o) (hLN : LN i L) (hn : n ≤ 1000) (hc1 : cells + 1 ≤ room_1.cells) (hc2 : slots + 8 ≤ room_1.slots) (hP : hw D vwCl A g H) (hS : va_S A s.heap H locs) (hLI : LI t ad ma o n g) (hl : lv_has ls 7 [(0, .ref b), (1, .ref (ad 0)), (2, .ref (ma 0)), (3, .ref o), (4, .int i)])
    (kk : ∀ (u : hG) (H1 : Heap) (locs1 : List Loc) (ls1 : Array Slot), hw D vwCl A u H1 → va_S A s.heap H1 locs1 → LI t ad ma o (n + 1) u → lv_has ls1 7 [(0, .ref b), (1, .ref (ad 0)), (2, .ref (ma 0)), (3, .ref o), (4, .int i)] → W p l e room_1 s m args below meth c H1 locs1 (cells + 1) (slots + 8) Q (F0 m 1022 ls1 [])) : W p l e room_1 s m args below meth c H locs cells slots Q (F0 m 469 ls []) := by
  obtain ⟨X, hlt9, hGG, hXs, hbl, hbA, hoM⟩ := hLK
  obtain ⟨hx, hb, hml, hr, hts, hown, hlocks, hK, hEs, hA, hnm⟩ := id X
  obtain ⟨hi1, hi2, hi3, hi4, hi5⟩ := hLN
  obtain ⟨F, σ, tv, ou, hO, hRx, hM, ho, hFo, hFM⟩ := hLI
  have hV : Inv σ := hO.1
  obtain ⟨fs0, h0⟩ := hRx.ob
  obtain ⟨fs1, hm⟩ := hM.ob
  refine lv_aload_n hx hb d_W_law_469 rfl (lv_at hl 1 rfl) ?_
  refine lv_aload_n hx hb d_W_law_470 rfl (lv_at hl 0 rfl) ?_
  refine lv_iload hx hb d_W_law_471 (lv_at hl 4 rfl) ?_
  refine lv_iconst (v := 1) hx hb d_W_law_473 (by decide) ?_
  refine lv_iadd hx hb d_W_law_474 ?_
  refine va_sld hx hb hXs hbl hbA hS hi1 d_W_law_475 ?_
  refine lv_aload_n hx hb d_W_law_476 rfl (lv_at hl 0 rfl) ?_
  refine lv_iload hx hb d_W_law_477 (lv_at hl 4 rfl) ?_
  refine lv_iconst (v := 2) hx hb d_W_law_479 (by decide) ?_
  refine lv_iadd hx hb d_W_law_480 ?_
  refine va_sld hx hb hXs hbl hbA hS hi2 d_W_law_481 ?_
  refine lv_i2l hx hb d_W_law_482 rfl ?_
  refine lv_bipush (v := 32) hx hb d_W_law_483 (by decide) ?_
  refine lv_lshl hx hb d_W_law_485 rfl ?_
  refine lv_aload_n hx hb d_W_law_486 rfl (lv_at hl 0 rfl) ?_
  refine lv_iload hx hb d_W_law_487 (lv_at hl 4 rfl) ?_
  refine lv_iconst (v := 3) hx hb d_W_law_489 (by decide) ?_
  refine lv_iadd hx hb d_W_law_490 ?_
  refine va_sld hx hb hXs hbl hbA hS hi3 d_W_law_491 ?_
  refine lv_i2l hx hb d_W_law_492 rfl ?_
  refine lv_ldc2 (v := 4294967295) hx hb hown (hts _ (tbm 659 (by decide +kernel))) d_W_law_493 ?_
  refine lv_land hx hb d_W_law_496 ?_
  refine lv_lor hx hb d_W_law_497 ?_
  refine k_W_50 X ⟨Nat.le_of_ble_eq_true rfl, Nat.le_of_ble_eq_true rfl⟩ ⟨by omega, by omega⟩ hl.1 hP hS h0 hRx hV (by exact Nat.le_of_ble_eq_true rfl) d_W_law_498 (fun r_1 u H locs hr_1 hP hS => ?_)
  obtain ⟨er1, hRx, hK1⟩ := hr_1
  obtain ⟨hM, ho, hFo, hFM⟩ := LI_c hM ho hFo hFM hK1
  obtain ⟨fs1, hm⟩ := hM.ob
  refine lv_aload_n hx hb d_W_law_501 rfl (lv_at hl 2 rfl) ?_
  refine lv_aload_n hx hb d_W_law_502 rfl (lv_at hl 0 rfl) ?_
  refine lv_iload hx hb d_W_law_503 (lv_at hl 4 rfl) ?_
  refine lv_iconst (v := 1) hx hb d_W_law_505 (by decide) ?_
  refine lv_iadd hx hb d_W_law_506 ?_
  refine va_sld hx hb hXs hbl hbA hS hi1 d_W_law_507 ?_
  refine lv_aload_n hx hb d_W_law_508 rfl (lv_at hl 0 rfl) ?_
  refine lv_iload hx hb d_W_law_509 (lv_at hl 4 rfl) ?_
  refine lv_iconst (v := 2) hx hb d_W_law_511 (by decide) ?_
  refine lv_iadd hx hb d_W_law_512 ?_
  refine va_sld hx hb hXs hbl hbA hS hi2 d_W_law_513 ?_
  refine lv_i2l hx hb d_W_law_514 rfl ?_
  refine lv_bipush (v := 32) hx hb d_W_law_515 (by decide) ?_
  refine lv_lshl hx hb d_W_law_517 rfl ?_
  refine lv_aload_n hx hb d_W_law_518 rfl (lv_at hl 0 rfl) ?_
  refine lv_iload hx hb d_W_law_519 (lv_at hl 4 rfl) ?_
  refine lv_iconst (v := 3) hx hb d_W_law_521 (by decide) ?_
  refine lv_iadd hx hb d_W_law_522 ?_
  refine va_sld hx hb hXs hbl hbA hS hi3 d_W_law_523 ?_
  refine lv_i2l hx hb d_W_law_524 rfl ?_
  refine lv_ldc2 (v := 4294967295) hx hb hown (hts _ (tbm 659 (by decide +kernel))) d_W_law_525 ?_
  refine lv_land hx hb d_W_law_528 ?_
  refine lv_lor hx hb d_W_law_529 ?_
  refine k_W_54 X ⟨Nat.le_of_ble_eq_true rfl, Nat.le_of_ble_eq_true rfl⟩ ⟨by omega, by omega⟩ hl.1 hP hS hm hM hV (by exact Nat.le_of_ble_eq_true rfl) d_W_law_530 (fun r_2 u H locs hr_2 hP hS => ?_)
  obtain ⟨er2, hM, hK2⟩ := hr_2
  have hL2 := LI_m (Ok_back hO _ _) hRx hM hK2 ho hFo hFM hoM
  refine lv_icmp_eq (tgt := 1022) hx hb d_W_law_533 (by decide) (fun c_3 => ?_) (fun c_3 => ?_)
  · exact W.widen (by omega) (by omega) (kk u H locs ls hP hS hL2 (lv_sub hl [0, 1, 2, 3, 4] rfl))
  · exact absurd (er1.trans er2.symm) c_3
