set_option maxRecDepth 100000 in
theorem c_L_isLent (l : Launch) (D : va_G) (t : Nat → ClassId) (A : Nat → Prop) (g : hG) (a : Nat) (it pn : Int32) (ra : Nat) (du : Int64) (lo : Option Nat) (en : Int32) (he : g a = some (cLo it pn ra du lo en)) : Met l y_L_isLent (Cond.code y_L_isLent b_L_isLent 1 (some .boolean) :: TB) ({ frames := 0, cells := 0, slots := 0, locals := 0 } : Room) (va_Pc [.ref a] (hI D vwCl (tyL t) EX A g)) (va_Qi (fun r u => r = bi (lent lo en) ∧ u = g) (fun u v => hw D vwCl A u v.heap) A) 0 0 A := by
  refine Met.ofH (cc := b_L_isLent) (maxL := 1) (ret := (some .boolean)) (lv := [(0, .ref a)]) (by decide) (Nat.le_of_ble_eq_true rfl) rfl ?_
  intro p e s m below meth c ls X hP hS hl
  obtain ⟨hx, hb, hml, hr, hts, hown, hlocks, hK, hEs, hA, hnm⟩ := id X
  refine lv_aload_n hx hb d_L_isLent_0 rfl (lv_at hl 0 rfl) ?_
  refine g_L_24 X hb hP he rfl d_L_isLent_1 ?_
  refine lv_if_ne (tgt := 18) hx hb d_L_isLent_4 (by decide) (fun c_1 => ?_) (fun c_1 => ?_)
  · refine lv_iconst (v := 0) hx hb d_L_isLent_18 (by decide) ?_
    exact h_zret hx hb hr hlocks (rfl) (Nat.le_of_ble_eq_true rfl) (Nat.le_of_ble_eq_true rfl) hP hS (⟨by simp [bi, lent, c_1], rfl⟩) d_L_isLent_19
  · refine lv_aload_n hx hb d_L_isLent_7 rfl (lv_at hl 0 rfl) ?_
    refine g_L_28 X hb hP he rfl d_L_isLent_8 ?_
    refine lv_topq (fun ey_2 => ?_) (fun y_2 ey_2 => ?_)
    · refine lv_ifnonnullN hx hb d_L_isLent_11 ?_
      refine lv_iconst (v := 1) hx hb d_L_isLent_14 (by decide) ?_
      refine lv_goto (tgt := 19) hx hb d_L_isLent_15 (by decide) ?_
      exact h_zret hx hb hr hlocks (rfl) (Nat.le_of_ble_eq_true rfl) (Nat.le_of_ble_eq_true rfl) hP hS (⟨by simp [bi, lent, c_1, ey_2], rfl⟩) d_L_isLent_19
    · refine lv_ifnonnull (tgt := 18) hx hb d_L_isLent_11 (by decide) ?_
      refine lv_iconst (v := 0) hx hb d_L_isLent_18 (by decide) ?_
      exact h_zret hx hb hr hlocks (rfl) (Nat.le_of_ble_eq_true rfl) (Nat.le_of_ble_eq_true rfl) hP hS (⟨by simp [bi, lent, c_1, ey_2], rfl⟩) d_L_isLent_19
theorem k_F_192 {p : Program} {l : Launch} {e : Env} {R : Room} {s : State} {m : MethodId} {args : Array Value} {below : List Frame} {meth : Method} {c : Code} {H : Heap} {locs : List Loc} {cells slots : Nat} {Q : State → Prop} {cc : ByteArray} {pc : Nat} {ls : Array Slot} {rest : List Value} {D : va_G} {A : Nat → Prop} {t : Nat → ClassId} {g : hG} {nL : Nat} {ret0 : Option FieldType} {nm : String} (X : Cx p s m args meth c R_F cc nL ret0 TB D vwCl (tyL t) EX A nm) (hR : 0 + 1 ≤ R.frames ∧ 8 + (1 + 11) + 0 ≤ R.locals) (hf : cells + 0 ≤ R.cells ∧ slots + 0 ≤ R.slots) (hls : ls.size = nL) (hP : hw D vwCl A g H) (hS : va_S A s.heap H locs) {a : Nat} {it pn : Int32} {ra : Nat} {du : Int64} {lo : Option Nat} {en : Int32} {fs9 : List Value} (he9 : g a = some (.inr (4, fs9))) (he : g a = some (cLo it pn ra du lo en)) (hW : (rest.map fun v => v.category).sum ≤ 8) (hdg : decode cc pc = .ok (.invokevirtual 192, 3)) (kk : ∀ (r : Int32) (H1 : Heap) (locs1 : List Loc), r = bi (lent lo en) → hw D vwCl A (g) H1 → va_S A s.heap H1 locs1 → W p l e R s m args below meth c H1 locs1 (cells + 0) (slots + 0) Q (F0 m (pc + 3) ls (.int r :: rest))) : W p l e R s m args below meth c H locs cells slots Q (F0 m pc ls (.ref a :: rest)) :=
  h_ci (runV (C := R_L) (T := F_L) (N := 6) X (c_L_isLent l D t A g a it pn ra du lo en he) (tbm 208 (by decide +kernel)) (tbm 209 (by decide +kernel)) (tbm 210 (by decide +kernel)) (tbm 29 (by decide +kernel)) (tbm 211 (by decide +kernel)) rfl (n := 0) (by decide +kernel) hR hf hP he9 hS hls rfl rfl hW hdg) hS (fun r u H1 locs1 hp hP1 hS1 => kk r H1 locs1 hp.1 (hp.2 ▸ hP1) hS1)

set_option maxRecDepth 100000 in
theorem c_D_interestAt (l : Launch) (D : va_G) (t : Nat → ClassId) (A : Nat → Prop) (g : hG) (a : Nat) (pn : Int32) (ra : Nat) (so : Int32) (am dy le pa : Int64) (v : RV) (x : Int64) (he : g a = some (cDe pn ra so am dy le pa)) (hr0 : g ra = some (cRu v)) : Met l y_D_interestAt (Cond.code y_D_interestAt b_D_interestAt 3 (some .long) :: TB) ({ frames := 1, cells := 0, slots := 0, locals := 24 } : Room) (va_Pc [.ref a, .long x] (hI D vwCl (tyL t) EX A g)) (va_Ql (fun r u => r = dInt v le dy x ∧ u = g) (fun u v => hw D vwCl A u v.heap) A) 0 0 A := by
  refine Met.ofH (cc := b_D_interestAt) (maxL := 3) (ret := (some .long)) (lv := [(0, .ref a), (1, .long x)]) (by decide) (Nat.le_of_ble_eq_true rfl) rfl ?_
  intro p e s m below meth c ls X hP hS hl
  obtain ⟨hx, hb, hml, hr, hts, hown, hlocks, hK, hEs, hA, hnm⟩ := id X
  refine lv_lload_n hx hb d_D_interestAt_0 rfl (lv_at hl 1 rfl) ?_
  refine lv_aload_n hx hb d_D_interestAt_1 rfl (lv_at hl 0 rfl) ?_
  refine g_D_30 X hb hP he rfl d_D_interestAt_2 ?_
  refine W.lcmp hx hb d_D_interestAt_5 ?_
  refine lv_if_le (tgt := 33) hx hb d_D_interestAt_6 (by decide) (fun c_1 => ?_) (fun c_1 => ?_)
  · rw [lg_cmp_le] at c_1
    refine lv_lconst (v := 0) hx hb d_D_interestAt_33 (by decide) ?_
    exact h_lret hx hb hr hlocks (Nat.le_of_ble_eq_true rfl) (Nat.le_of_ble_eq_true rfl) hP hS (⟨by simp [dInt, c_1], rfl⟩) d_D_interestAt_34
  · rw [lg_cmp_le] at c_1
    refine lv_aload_n hx hb d_D_interestAt_9 rfl (lv_at hl 0 rfl) ?_
    refine g_D_22 X hb hP he rfl d_D_interestAt_10 ?_
    refine lv_aload_n hx hb d_D_interestAt_13 rfl (lv_at hl 0 rfl) ?_
    refine g_D_33 X hb hP he rfl d_D_interestAt_14 ?_
    refine lv_lload_n hx hb d_D_interestAt_17 rfl (lv_at hl 1 rfl) ?_
    refine lv_aload_n hx hb d_D_interestAt_18 rfl (lv_at hl 0 rfl) ?_
    refine g_D_30 X hb hP he rfl d_D_interestAt_19 ?_
    refine lv_lsub hx hb d_D_interestAt_22 ?_
    refine lv_ldc2 (v := 30) hx hb hown (hts _ (tbm 344 (by decide +kernel))) d_D_interestAt_23 ?_
    refine lv_ldiv hx hb d_D_interestAt_26 i30 ?_
    refine k_D_47 X ⟨Nat.le_of_ble_eq_true rfl, Nat.le_of_ble_eq_true rfl⟩ ⟨Nat.le_of_ble_eq_true rfl, Nat.le_of_ble_eq_true rfl⟩ hl.1 hP hS hr0 hr0 (by exact Nat.le_of_ble_eq_true rfl) d_D_interestAt_27 (fun r_2 H locs er_2 hP hS => ?_)
    refine lv_goto (tgt := 34) hx hb d_D_interestAt_30 (by decide) ?_
    exact h_lret hx hb hr hlocks (Nat.le_of_ble_eq_true rfl) (Nat.le_of_ble_eq_true rfl) hP hS (⟨by rw [er_2]; simp [dInt, c_1], rfl⟩) d_D_interestAt_34
theorem k_F_189 {p : Program} {l : Launch} {e : Env} {R : Room} {s : State} {m : MethodId} {args : Array Value} {below : List Frame} {meth : Method} {c : Code} {H : Heap} {locs : List Loc} {cells slots : Nat} {Q : State → Prop} {cc : ByteArray} {pc : Nat} {ls : Array Slot} {rest : List Value} {D : va_G} {A : Nat → Prop} {t : Nat → ClassId} {g : hG} {nL : Nat} {ret0 : Option FieldType} {nm : String} (X : Cx p s m args meth c R_F cc nL ret0 TB D vwCl (tyL t) EX A nm) (hR : 1 + 1 ≤ R.frames ∧ 8 + (3 + 11) + 24 ≤ R.locals) (hf : cells + 0 ≤ R.cells ∧ slots + 0 ≤ R.slots) (hls : ls.size = nL) (hP : hw D vwCl A g H) (hS : va_S A s.heap H locs) {a : Nat} {pn : Int32} {ra : Nat} {so : Int32} {am dy le pa : Int64} {v : RV} {x : Int64} {fs9 : List Value} (he9 : g a = some (.inr (2, fs9))) (he : g a = some (cDe pn ra so am dy le pa)) (hr0 : g ra = some (cRu v)) (hW : (rest.map fun v => v.category).sum ≤ 8) (hdg : decode cc pc = .ok (.invokevirtual 189, 3)) (kk : ∀ (r : Int64) (H1 : Heap) (locs1 : List Loc), r = dInt v le dy x → hw D vwCl A (g) H1 → va_S A s.heap H1 locs1 → W p l e R s m args below meth c H1 locs1 (cells + 0) (slots + 0) Q (F0 m (pc + 3) ls (.long r :: rest))) : W p l e R s m args below meth c H locs cells slots Q (F0 m pc ls (.long x :: .ref a :: rest)) :=
  h_cl (runV (C := R_D) (T := F_D) (N := 7) X (c_D_interestAt l D t A g a pn ra so am dy le pa v x he hr0) (tbm 367 (by decide +kernel)) (tbm 341 (by decide +kernel)) (tbm 342 (by decide +kernel)) (tbm 31 (by decide +kernel)) (tbm 343 (by decide +kernel)) rfl (n := 1) (by decide +kernel) hR hf hP he9 hS hls rfl rfl hW hdg) hS (fun r u H1 locs1 hp hP1 hS1 => kk r H1 locs1 hp.1 (hp.2 ▸ hP1) hS1)
theorem k_B_49 {p : Program} {l : Launch} {e : Env} {R : Room} {s : State} {m : MethodId} {args : Array Value} {below : List Frame} {meth : Method} {c : Code} {H : Heap} {locs : List Loc} {cells slots : Nat} {Q : State → Prop} {cc : ByteArray} {pc : Nat} {ls : Array Slot} {rest : List Value} {D : va_G} {A : Nat → Prop} {t : Nat → ClassId} {g : hG} {nL : Nat} {ret0 : Option FieldType} {nm : String} (X : Cx p s m args meth c R_B cc nL ret0 TB D vwCl (tyL t) EX A nm) (hR : 1 + 1 ≤ R.frames ∧ 8 + (3 + 11) + 24 ≤ R.locals) (hf : cells + 0 ≤ R.cells ∧ slots + 0 ≤ R.slots) (hls : ls.size = nL) (hP : hw D vwCl A g H) (hS : va_S A s.heap H locs) {a : Nat} {pn : Int32} {ra : Nat} {so : Int32} {am dy le pa : Int64} {v : RV} {x : Int64} {fs9 : List Value} (he9 : g a = some (.inr (2, fs9))) (he : g a = some (cDe pn ra so am dy le pa)) (hr0 : g ra = some (cRu v)) (hW : (rest.map fun v => v.category).sum ≤ 8) (hdg : decode cc pc = .ok (.invokevirtual 49, 3)) (kk : ∀ (r : Int64) (H1 : Heap) (locs1 : List Loc), r = dInt v le dy x → hw D vwCl A (g) H1 → va_S A s.heap H1 locs1 → W p l e R s m args below meth c H1 locs1 (cells + 0) (slots + 0) Q (F0 m (pc + 3) ls (.long r :: rest))) : W p l e R s m args below meth c H locs cells slots Q (F0 m pc ls (.long x :: .ref a :: rest)) :=
  h_cl (runV (C := R_D) (T := F_D) (N := 7) X (c_D_interestAt l D t A g a pn ra so am dy le pa v x he hr0) (tbm 340 (by decide +kernel)) (tbm 341 (by decide +kernel)) (tbm 342 (by decide +kernel)) (tbm 31 (by decide +kernel)) (tbm 343 (by decide +kernel)) rfl (n := 1) (by decide +kernel) hR hf hP he9 hS hls rfl rfl hW hdg) hS (fun r u H1 locs1 hp hP1 hS1 => kk r H1 locs1 hp.1 (hp.2 ▸ hP1) hS1)

set_option maxRecDepth 100000 in
theorem c_D_take (l : Launch) (D : va_G) (t : Nat → ClassId) (A : Nat → Prop) (g : hG) (a : Nat) (pn : Int32) (ra : Nat) (so : Int32) (am dy le pa : Int64) (x : Int64) (he : g a = some (cDe pn ra so am dy le pa)) : Met l y_D_take (Cond.code y_D_take b_D_take 5 (some .long) :: TB) ({ frames := 1, cells := 0, slots := 0, locals := 24 } : Room) (va_Pc [.ref a, .long x] (hI D vwCl (tyL t) EX A g)) (va_Ql (fun r u => r = mnJ x le ∧ u = va_up g a (some (cDe pn ra so am dy (le - mnJ x le) (pa + mnJ x le)))) (fun u v => hw D vwCl A u v.heap) A) 0 0 A := by
  refine Met.ofH (cc := b_D_take) (maxL := 5) (ret := (some .long)) (lv := [(0, .ref a), (1, .long x)]) (by decide) (Nat.le_of_ble_eq_true rfl) rfl ?_
  intro p e s m below meth c ls X hP hS hl
  obtain ⟨hx, hb, hml, hr, hts, hown, hlocks, hK, hEs, hA, hnm⟩ := id X
  refine lv_lload_n hx hb d_D_take_0 rfl (lv_at hl 1 rfl) ?_
  refine lv_aload_n hx hb d_D_take_1 rfl (lv_at hl 0 rfl) ?_
  refine g_D_33 X hb hP he rfl d_D_take_2 ?_
  refine va_mmin_long hx hb (by rw [hml]; exact hl.1.symm) hown (hts _ (tbm 317 (by decide +kernel))) (hts _ (tbm 226 (by decide +kernel))) (hts _ (tbm 30 (by decide +kernel))) (hts _ (tbm 227 (by decide +kernel))) (Nat.le_of_ble_eq_true rfl) (Nat.le_of_ble_eq_true rfl) (Nat.le_of_ble_eq_true rfl) (Nat.le_of_ble_eq_true rfl) d_D_take_5 ?_
  refine lv_topl (fun x_1 ex_1 => ?_)
  refine lv_lstore_n (lv' := [(3, .long x_1), (0, .ref a), (1, .long x)]) hx hb d_D_take_8 rfl hl (by decide) rfl (fun ls hl => ?_)
  refine lv_aload_n hx hb d_D_take_9 rfl (lv_at hl 1 rfl) ?_
  refine lv_dup hx hb d_D_take_10 rfl ?_
  refine g_D_33 X hb hP he rfl d_D_take_11 ?_
  refine lv_lload_n hx hb d_D_take_14 rfl (lv_at hl 0 rfl) ?_
  refine lv_lsub hx hb d_D_take_15 ?_
  refine lv_topl (fun x_2 ex_2 => ?_)
  refine p_D_33 X hb hP hS he (Nat.le_of_ble_eq_true rfl) d_D_take_16 (fun H locs hP hS => ?_)
  have he_3 := va_up_self g a (some (.inr (2, [.int pn, .ref ra, .int so, .long am, .long dy, .long x_2, .long pa]) : va_E))
  have hP : hw D vwCl A (va_up g a (some (.inr (2, [.int pn, .ref ra, .int so, .long am, .long dy, .long x_2, .long pa])))) H := hP
  refine lv_aload_n hx hb d_D_take_19 rfl (lv_at hl 1 rfl) ?_
  refine lv_dup hx hb d_D_take_20 rfl ?_
  refine g_D_42 X hb hP he_3 rfl d_D_take_21 ?_
  refine lv_lload_n hx hb d_D_take_24 rfl (lv_at hl 0 rfl) ?_
  refine lv_ladd hx hb d_D_take_25 ?_
  refine lv_topl (fun x_4 ex_4 => ?_)
  refine p_D_42 X hb hP hS he_3 (Nat.le_of_ble_eq_true rfl) d_D_take_26 (fun H locs hP hS => ?_)
  have he_5 := va_up_self (va_up g a (some (.inr (2, [.int pn, .ref ra, .int so, .long am, .long dy, .long x_2, .long pa])))) a (some (.inr (2, [.int pn, .ref ra, .int so, .long am, .long dy, .long x_2, .long x_4]) : va_E))
  have hP : hw D vwCl A (va_up (va_up g a (some (.inr (2, [.int pn, .ref ra, .int so, .long am, .long dy, .long x_2, .long pa])))) a (some (.inr (2, [.int pn, .ref ra, .int so, .long am, .long dy, .long x_2, .long x_4])))) H := hP
  refine lv_lload_n hx hb d_D_take_29 rfl (lv_at hl 0 rfl) ?_
  exact h_lret hx hb hr hlocks (Nat.le_of_ble_eq_true rfl) (Nat.le_of_ble_eq_true rfl) hP hS (⟨ex_1, by rw [bx_uu, ex_2, ex_4, ex_1]; rfl⟩) d_D_take_30
theorem k_F_153 {p : Program} {l : Launch} {e : Env} {R : Room} {s : State} {m : MethodId} {args : Array Value} {below : List Frame} {meth : Method} {c : Code} {H : Heap} {locs : List Loc} {cells slots : Nat} {Q : State → Prop} {cc : ByteArray} {pc : Nat} {ls : Array Slot} {rest : List Value} {D : va_G} {A : Nat → Prop} {t : Nat → ClassId} {g : hG} {nL : Nat} {ret0 : Option FieldType} {nm : String} (X : Cx p s m args meth c R_F cc nL ret0 TB D vwCl (tyL t) EX A nm) (hR : 1 + 1 ≤ R.frames ∧ 8 + (5 + 11) + 24 ≤ R.locals) (hf : cells + 0 ≤ R.cells ∧ slots + 0 ≤ R.slots) (hls : ls.size = nL) (hP : hw D vwCl A g H) (hS : va_S A s.heap H locs) {a : Nat} {pn : Int32} {ra : Nat} {so : Int32} {am dy le pa : Int64} {x : Int64} {fs9 : List Value} (he9 : g a = some (.inr (2, fs9))) (he : g a = some (cDe pn ra so am dy le pa)) (hW : (rest.map fun v => v.category).sum ≤ 8) (hdg : decode cc pc = .ok (.invokevirtual 153, 3)) (kk : ∀ (r : Int64) (H1 : Heap) (locs1 : List Loc), r = mnJ x le → hw D vwCl A (va_up g a (some (cDe pn ra so am dy (le - mnJ x le) (pa + mnJ x le)))) H1 → va_S A s.heap H1 locs1 → W p l e R s m args below meth c H1 locs1 (cells + 0) (slots + 0) Q (F0 m (pc + 3) ls (.long r :: rest))) : W p l e R s m args below meth c H locs cells slots Q (F0 m pc ls (.long x :: .ref a :: rest)) :=
  h_cl (runV (C := R_D) (T := F_D) (N := 7) X (c_D_take l D t A g a pn ra so am dy le pa x he) (tbm 313 (by decide +kernel)) (tbm 314 (by decide +kernel)) (tbm 315 (by decide +kernel)) (tbm 31 (by decide +kernel)) (tbm 316 (by decide +kernel)) rfl (n := 1) (by decide +kernel) hR hf hP he9 hS hls rfl rfl hW hdg) hS (fun r u H1 locs1 hp hP1 hS1 => kk r H1 locs1 hp.1 (hp.2 ▸ hP1) hS1)

set_option maxHeartbeats 4000000 in
set_option maxRecDepth 100000 in
theorem lp_C_countBetween {p : Program} {l : Launch} {e : Env} {s : State} {m : MethodId} {below : List Frame} {meth : Method} {c : Code} {D : va_G} {t : Nat → ClassId} {A : Nat → Prop} (g : hG) (a : Nat) (n : Nat) (ad : Nat) (f : Nat → Int64) (x y : Int64) (he : g a = some (cCl ad (nI n))) (ha : g ad = some (arJ t 100 f)) (hn : n ≤ 100) (X : Cx p s m ([.ref a, .long x, .long y] : List Value).toArray meth c R_C b_C_countBetween 7 (some .int) TB D vwCl (tyL t) EX A "countBetween") : ∀ (k : Nat) (i : Nat) (b : Int32) (H : Heap) (locs : List Loc) (ls : Array Slot) (_ : i ≤ n) (_ : n + 1 ≤ i + k) (_ : b = cB f x y i) (_ : hw D vwCl A g H) (_ : va_S A s.heap H locs) (_ : lv_has ls 7 [(6, .int (nI i)), (5, .int b), (0, .ref a), (1, .long x), (3, .long y)]), W p l e ({ frames := 0, cells := 0, slots := 0, locals := 0 } : Room) s m ([.ref a, .long x, .long y] : List Value).toArray below meth c H locs 0 0 (MQ below (va_Qi (fun r u => r = cB f x y n ∧ u = g) (fun u v => hw D vwCl A u v.heap) A) ([.ref a, .long x, .long y] : List Value).toArray s 0 0 A) (F0 m 6 ls []) := by
  obtain ⟨hx, hb, hml, hr, hts, hown, hlocks, hK, hEs, hA, hnm⟩ := id X
  intro k
  induction k with
  | zero => exact fun i b H locs ls h1 h2 => absurd h2 (by omega)
  | succ k ih =>
    intro i b H locs ls hi hk hbt hP hS hl
    refine lv_iload hx hb d_C_countBetween_6 (lv_at hl 0 rfl) ?_
    refine lv_aload_n hx hb d_C_countBetween_8 rfl (lv_at hl 2 rfl) ?_
    refine g_C_15 X hb hP he rfl d_C_countBetween_9 ?_
    refine lv_icmp_ge (tgt := 48) hx hb d_C_countBetween_12 (by decide) (fun c_1 => ?_) (fun c_1 => ?_)
    · refine lv_iload hx hb d_C_countBetween_48 (lv_at hl 1 rfl) ?_
      exact h_iret hx hb hr hlocks (Nat.le_of_ble_eq_true rfl) (Nat.le_of_ble_eq_true rfl) hP hS (⟨by rw [hbt, show i = n from Nat.le_antisymm hi ((nI_leI (by omega) (by omega)).mp c_1)], rfl⟩) d_C_countBetween_50
    · have hlt : i < n := Nat.lt_of_not_le (fun q => c_1 (nI_le q (by omega)))
      refine lv_aload_n hx hb d_C_countBetween_15 rfl (lv_at hl 2 rfl) ?_
      refine g_C_9 X hb hP he rfl d_C_countBetween_16 ?_
      refine lv_iload hx hb d_C_countBetween_19 (lv_at hl 0 rfl) ?_
      refine n_lald X hb hP ha ⟨by omega, by decide⟩ d_C_countBetween_21 ?_
      refine lv_lload_n hx hb d_C_countBetween_22 rfl (lv_at hl 3 rfl) ?_
      refine W.lcmp hx hb d_C_countBetween_23 ?_
      refine lv_if_le (tgt := 42) hx hb d_C_countBetween_24 (by decide) (fun c_2 => ?_) (fun c_2 => ?_)
      · rw [lg_cmp_le] at c_2
        obtain ⟨x_3, ex_3⟩ : ∃ z : Int32, z = (nI i) + 1 := ⟨_, rfl⟩
        refine lv_iinc (v := x_3) (lv' := [(6, .int x_3), (5, .int b), (0, .ref a), (1, .long x), (3, .long y)]) hx hb d_C_countBetween_42 hl (k := 0) rfl (by rw [ex_3]; rfl) (by decide) rfl (fun ls hl => ?_)
        refine lv_goto (tgt := 6) hx hb d_C_countBetween_45 (by decide) ?_
        obtain rfl : x_3 = nI (i + 1) := by rw [ex_3]; exact nI_1 i
        exact ih (i + 1) b H locs ls (by omega) (by omega) (by rw [cB_no1 c_2]; exact hbt) hP hS (lv_sub hl [0, 1, 2, 3, 4] rfl)
      · rw [lg_cmp_le] at c_2
        refine lv_aload_n hx hb d_C_countBetween_27 rfl (lv_at hl 2 rfl) ?_
        refine g_C_9 X hb hP he rfl d_C_countBetween_28 ?_
        refine lv_iload hx hb d_C_countBetween_31 (lv_at hl 0 rfl) ?_
        refine n_lald X hb hP ha ⟨by omega, by decide⟩ d_C_countBetween_33 ?_
        refine lv_lload_n hx hb d_C_countBetween_34 rfl (lv_at hl 4 rfl) ?_
        refine W.lcmp hx hb d_C_countBetween_35 ?_
        refine lv_if_gt (tgt := 42) hx hb d_C_countBetween_36 (by decide) (fun c_4 => ?_) (fun c_4 => ?_)
        · rw [lg_cmp_gt] at c_4
          obtain ⟨x_5, ex_5⟩ : ∃ z : Int32, z = (nI i) + 1 := ⟨_, rfl⟩
          refine lv_iinc (v := x_5) (lv' := [(6, .int x_5), (5, .int b), (0, .ref a), (1, .long x), (3, .long y)]) hx hb d_C_countBetween_42 hl (k := 0) rfl (by rw [ex_5]; rfl) (by decide) rfl (fun ls hl => ?_)
          refine lv_goto (tgt := 6) hx hb d_C_countBetween_45 (by decide) ?_
          obtain rfl : x_5 = nI (i + 1) := by rw [ex_5]; exact nI_1 i
          exact ih (i + 1) b H locs ls (by omega) (by omega) (by rw [cB_no2 c_4]; exact hbt) hP hS (lv_sub hl [0, 1, 2, 3, 4] rfl)
        · rw [lg_cmp_gt] at c_4
          obtain ⟨x_6, ex_6⟩ : ∃ z : Int32, z = b + 1 := ⟨_, rfl⟩
          refine lv_iinc (v := x_6) (lv' := [(5, .int x_6), (6, .int (nI i)), (0, .ref a), (1, .long x), (3, .long y)]) hx hb d_C_countBetween_39 hl (k := 1) rfl (by rw [ex_6]; rfl) (by decide) rfl (fun ls hl => ?_)
          obtain ⟨x_7, ex_7⟩ : ∃ z : Int32, z = (nI i) + 1 := ⟨_, rfl⟩
          refine lv_iinc (v := x_7) (lv' := [(6, .int x_7), (5, .int x_6), (0, .ref a), (1, .long x), (3, .long y)]) hx hb d_C_countBetween_42 hl (k := 1) rfl (by rw [ex_7]; rfl) (by decide) rfl (fun ls hl => ?_)
          refine lv_goto (tgt := 6) hx hb d_C_countBetween_45 (by decide) ?_
          obtain rfl : x_7 = nI (i + 1) := by rw [ex_7]; exact nI_1 i
          exact ih (i + 1) x_6 H locs ls (by omega) (by omega) (by rw [ex_6, hbt, cB_yes c_2 c_4]) hP hS (lv_sub hl [0, 1, 2, 3, 4] rfl)

set_option maxRecDepth 100000 in
theorem c_C_countBetween (l : Launch) (D : va_G) (t : Nat → ClassId) (A : Nat → Prop) (g : hG) (a : Nat) (n : Nat) (ad : Nat) (f : Nat → Int64) (x y : Int64) (he : g a = some (cCl ad (nI n))) (ha : g ad = some (arJ t 100 f)) (hn : n ≤ 100) : Met l y_C_countBetween (Cond.code y_C_countBetween b_C_countBetween 7 (some .int) :: TB) ({ frames := 0, cells := 0, slots := 0, locals := 0 } : Room) (va_Pc [.ref a, .long x, .long y] (hI D vwCl (tyL t) EX A g)) (va_Qi (fun r u => r = cB f x y n ∧ u = g) (fun u v => hw D vwCl A u v.heap) A) 0 0 A := by
  refine Met.ofH (cc := b_C_countBetween) (maxL := 7) (ret := (some .int)) (lv := [(0, .ref a), (1, .long x), (3, .long y)]) (by decide) (Nat.le_of_ble_eq_true rfl) rfl ?_
  intro p e s m below meth c ls X hP hS hl
  obtain ⟨hx, hb, hml, hr, hts, hown, hlocks, hK, hEs, hA, hnm⟩ := id X
  refine lv_iconst (v := 0) hx hb d_C_countBetween_0 (by decide) ?_
  refine lv_istore (lv' := [(5, .int 0), (0, .ref a), (1, .long x), (3, .long y)]) hx hb d_C_countBetween_1 hl (by decide) rfl (fun ls hl => ?_)
  refine lv_iconst (v := 0) hx hb d_C_countBetween_3 (by decide) ?_
  refine lv_istore (lv' := [(6, .int 0), (5, .int 0), (0, .ref a), (1, .long x), (3, .long y)]) hx hb d_C_countBetween_4 hl (by decide) rfl (fun ls hl => ?_)
  exact lp_C_countBetween g a n ad f x y he ha hn X (n + 1) 0 0 _ _ ls (Nat.zero_le n) (by omega) rfl hP hS (lv_sub hl [0, 1, 2, 3, 4] rfl)
theorem k_C_19 {p : Program} {l : Launch} {e : Env} {R : Room} {s : State} {m : MethodId} {args : Array Value} {below : List Frame} {meth : Method} {c : Code} {H : Heap} {locs : List Loc} {cells slots : Nat} {Q : State → Prop} {cc : ByteArray} {pc : Nat} {ls : Array Slot} {rest : List Value} {D : va_G} {A : Nat → Prop} {t : Nat → ClassId} {g : hG} {nL : Nat} {ret0 : Option FieldType} {nm : String} (X : Cx p s m args meth c R_C cc nL ret0 TB D vwCl (tyL t) EX A nm) (hR : 0 + 1 ≤ R.frames ∧ 8 + (7 + 11) + 0 ≤ R.locals) (hf : cells + 0 ≤ R.cells ∧ slots + 0 ≤ R.slots) (hls : ls.size = nL) (hP : hw D vwCl A g H) (hS : va_S A s.heap H locs) {a : Nat} {n : Nat} {ad : Nat} {f : Nat → Int64} {x y : Int64} {fs9 : List Value} (he9 : g a = some (.inr (1, fs9))) (he : g a = some (cCl ad (nI n))) (ha : g ad = some (arJ t 100 f)) (hn : n ≤ 100) (hW : (rest.map fun v => v.category).sum ≤ 8) (hdg : decode cc pc = .ok (.invokevirtual 19, 3)) (kk : ∀ (r : Int32) (H1 : Heap) (locs1 : List Loc), r = cB f x y n → hw D vwCl A (g) H1 → va_S A s.heap H1 locs1 → W p l e R s m args below meth c H1 locs1 (cells + 0) (slots + 0) Q (F0 m (pc + 3) ls (.int r :: rest))) : W p l e R s m args below meth c H locs cells slots Q (F0 m pc ls (.long y :: .long x :: .ref a :: rest)) :=
  h_ci (runV (C := R_C) (T := F_C) (N := 2) X (c_C_countBetween l D t A g a n ad f x y he ha hn) (tbm 150 (by decide +kernel)) (tbm 152 (by decide +kernel)) (tbm 0 (by decide +kernel)) (tbm 22 (by decide +kernel)) (tbm 153 (by decide +kernel)) rfl (n := 2) (by decide +kernel) hR hf hP he9 hS hls rfl rfl hW hdg) hS (fun r u H1 locs1 hp hP1 hS1 => kk r H1 locs1 hp.1 (hp.2 ▸ hP1) hS1)
