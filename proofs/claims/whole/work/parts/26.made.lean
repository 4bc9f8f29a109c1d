set_option maxRecDepth 100000 in
theorem c_R_init (l : Launch) (D : va_G) (t : Nat → ClassId) (A : Nat → Prop) (g : hG) (a : Nat) (x y z : Int32) (he : g a = some (.inr (5, [.int 0, .int 0, .int 0, .int 0, .int 0]))) : Met l y_R_init (Cond.code y_R_init b_R_init 4 none :: TB) ({ frames := 1, cells := 0, slots := 0, locals := 24 } : Room) (va_Pc [.ref a, .int x, .int y, .int z] (hI D vwCl (tyL t) EX A g)) (va_Qv (fun u => u = va_up g a (some (cRu (x, y, z, 0, 0)))) (fun u v => hw D vwCl A u v.heap) A) 0 0 A := by
  refine Met.ofH (cc := b_R_init) (maxL := 4) (ret := none) (lv := [(0, .ref a), (1, .int x), (2, .int y), (3, .int z)]) (by decide) (Nat.le_of_ble_eq_true rfl) rfl ?_
  intro p e s m below meth c ls X hP hS hl
  obtain ⟨hx, hb, hml, hr, hts, hown, hlocks, hK, hEs, hA, hnm⟩ := id X
  refine lv_aload_n hx hb d_R_init_0 rfl (lv_at hl 0 rfl) ?_
  refine W.objInit hx hb hown (hts _ (tbm 119 (by decide +kernel))) (hts _ (tbm 38 (by decide +kernel))) (hts _ (tbm 39 (by decide +kernel))) rfl (by rw [hml]; exact hl.1) rfl d_R_init_1 (Nat.le_of_ble_eq_true rfl) (Nat.le_of_ble_eq_true rfl) ?_
  refine W.eq (g2 := F0 m 4 ls _) rfl ?_
  refine lv_aload_n hx hb d_R_init_4 rfl (lv_at hl 0 rfl) ?_
  refine lv_iload_n hx hb d_R_init_5 rfl (lv_at hl 1 rfl) ?_
  refine p_R_7 X hb hP hS he (Nat.le_of_ble_eq_true rfl) rfl d_R_init_6 (fun H locs hP hS => ?_)
  have he_1 := va_up_self g a (some (.inr (5, [.int x, .int 0, .int 0, .int 0, .int 0]) : va_E))
  have hP : hw D vwCl A (va_up g a (some (.inr (5, [.int x, .int 0, .int 0, .int 0, .int 0])))) H := hP
  refine lv_aload_n hx hb d_R_init_9 rfl (lv_at hl 0 rfl) ?_
  refine lv_iload_n hx hb d_R_init_10 rfl (lv_at hl 2 rfl) ?_
  refine p_R_13 X hb hP hS he_1 (Nat.le_of_ble_eq_true rfl) rfl d_R_init_11 (fun H locs hP hS => ?_)
  have he_2 := va_up_self (va_up g a (some (.inr (5, [.int x, .int 0, .int 0, .int 0, .int 0])))) a (some (.inr (5, [.int x, .int y, .int 0, .int 0, .int 0]) : va_E))
  have hP : hw D vwCl A (va_up (va_up g a (some (.inr (5, [.int x, .int 0, .int 0, .int 0, .int 0])))) a (some (.inr (5, [.int x, .int y, .int 0, .int 0, .int 0])))) H := hP
  refine lv_aload_n hx hb d_R_init_14 rfl (lv_at hl 0 rfl) ?_
  refine lv_iload_n hx hb d_R_init_15 rfl (lv_at hl 3 rfl) ?_
  refine p_R_16 X hb hP hS he_2 (Nat.le_of_ble_eq_true rfl) rfl d_R_init_16 (fun H locs hP hS => ?_)
  have he_3 := va_up_self (va_up (va_up g a (some (.inr (5, [.int x, .int 0, .int 0, .int 0, .int 0])))) a (some (.inr (5, [.int x, .int y, .int 0, .int 0, .int 0])))) a (some (.inr (5, [.int x, .int y, .int z, .int 0, .int 0]) : va_E))
  have hP : hw D vwCl A (va_up (va_up (va_up g a (some (.inr (5, [.int x, .int 0, .int 0, .int 0, .int 0])))) a (some (.inr (5, [.int x, .int y, .int 0, .int 0, .int 0])))) a (some (.inr (5, [.int x, .int y, .int z, .int 0, .int 0])))) H := hP
  exact h_vret hx hb hr hlocks (Nat.le_of_ble_eq_true rfl) (Nat.le_of_ble_eq_true rfl) hP hS (by rw [bx_uu, bx_uu]) d_R_init_19
theorem k_F_55 {p : Program} {l : Launch} {e : Env} {R : Room} {s : State} {m : MethodId} {args : Array Value} {below : List Frame} {meth : Method} {c : Code} {H : Heap} {locs : List Loc} {cells slots : Nat} {Q : State → Prop} {cc : ByteArray} {pc : Nat} {ls : Array Slot} {rest : List Value} {D : va_G} {A : Nat → Prop} {t : Nat → ClassId} {g : hG} {nL : Nat} {ret0 : Option FieldType} {nm : String} (X : Cx p s m args meth c R_F cc nL ret0 TB D vwCl (tyL t) EX A nm) (hR : 1 + 1 ≤ R.frames ∧ 8 + (4 + 11) + 24 ≤ R.locals) (hf : cells + 0 ≤ R.cells ∧ slots + 0 ≤ R.slots) (hls : ls.size = nL) (hP : hw D vwCl A g H) (hS : va_S A s.heap H locs) {a : Nat} {x y z : Int32} (he : g a = some (.inr (5, [.int 0, .int 0, .int 0, .int 0, .int 0]))) (hW : (rest.map fun v => v.category).sum ≤ 8) (hdg : decode cc pc = .ok (.invokespecial 55, 3)) (kk : ∀ (H1 : Heap) (locs1 : List Loc), hw D vwCl A (va_up g a (some (cRu (x, y, z, 0, 0)))) H1 → va_S A s.heap H1 locs1 → W p l e R s m args below meth c H1 locs1 (cells + 0) (slots + 0) Q (F0 m (pc + 3) ls rest)) : W p l e R s m args below meth c H locs cells slots Q (F0 m pc ls (.int z :: .int y :: .int x :: .ref a :: rest)) :=
  h_cv (runI X (c_R_init l D t A g a x y z he) (tbm 116 (by decide +kernel)) (tbm 117 (by decide +kernel)) (tbm 24 (by decide +kernel)) (tbm 118 (by decide +kernel)) rfl (n := 3) (by decide +kernel) hR hf hP hS hls rfl rfl hW hdg) hS (fun u H1 locs1 hp hP1 hS1 => kk H1 locs1 (hp ▸ hP1) hS1)

set_option maxRecDepth 100000 in
theorem c_L_init (l : Launch) (D : va_G) (t : Nat → ClassId) (A : Nat → Prop) (g : hG) (a : Nat) (x y : Int32) (ra : Nat) (du : Int64) (he : g a = some (.inr (4, [.int 0, .int 0, .null, .long 0, .null, .int 0]))) : Met l y_L_init (Cond.code y_L_init b_L_init 6 none :: TB) ({ frames := 1, cells := 0, slots := 0, locals := 24 } : Room) (va_Pc [.ref a, .int x, .int y, .ref ra, .long du] (hI D vwCl (tyL t) EX A g)) (va_Qv (fun u => u = va_up g a (some (cLo x y ra du none 0))) (fun u v => hw D vwCl A u v.heap) A) 0 0 A := by
  refine Met.ofH (cc := b_L_init) (maxL := 6) (ret := none) (lv := [(0, .ref a), (1, .int x), (2, .int y), (3, .ref ra), (4, .long du)]) (by decide) (Nat.le_of_ble_eq_true rfl) rfl ?_
  intro p e s m below meth c ls X hP hS hl
  obtain ⟨hx, hb, hml, hr, hts, hown, hlocks, hK, hEs, hA, hnm⟩ := id X
  refine lv_aload_n hx hb d_L_init_0 rfl (lv_at hl 0 rfl) ?_
  refine W.objInit hx hb hown (hts _ (tbm 172 (by decide +kernel))) (hts _ (tbm 38 (by decide +kernel))) (hts _ (tbm 39 (by decide +kernel))) rfl (by rw [hml]; exact hl.1) rfl d_L_init_1 (Nat.le_of_ble_eq_true rfl) (Nat.le_of_ble_eq_true rfl) ?_
  refine W.eq (g2 := F0 m 4 ls _) rfl ?_
  refine lv_aload_n hx hb d_L_init_4 rfl (lv_at hl 0 rfl) ?_
  refine lv_iload_n hx hb d_L_init_5 rfl (lv_at hl 1 rfl) ?_
  refine p_L_7 X hb hP hS he (Nat.le_of_ble_eq_true rfl) rfl d_L_init_6 (fun H locs hP hS => ?_)
  have he_1 := va_up_self g a (some (.inr (4, [.int x, .int 0, .null, .long 0, .null, .int 0]) : va_E))
  have hP : hw D vwCl A (va_up g a (some (.inr (4, [.int x, .int 0, .null, .long 0, .null, .int 0])))) H := hP
  refine lv_aload_n hx hb d_L_init_9 rfl (lv_at hl 0 rfl) ?_
  refine lv_iload_n hx hb d_L_init_10 rfl (lv_at hl 2 rfl) ?_
  refine p_L_13 X hb hP hS he_1 (Nat.le_of_ble_eq_true rfl) rfl d_L_init_11 (fun H locs hP hS => ?_)
  have he_2 := va_up_self (va_up g a (some (.inr (4, [.int x, .int 0, .null, .long 0, .null, .int 0])))) a (some (.inr (4, [.int x, .int y, .null, .long 0, .null, .int 0]) : va_E))
  have hP : hw D vwCl A (va_up (va_up g a (some (.inr (4, [.int x, .int 0, .null, .long 0, .null, .int 0])))) a (some (.inr (4, [.int x, .int y, .null, .long 0, .null, .int 0])))) H := hP
  refine lv_aload_n hx hb d_L_init_14 rfl (lv_at hl 0 rfl) ?_
  refine lv_aload_n hx hb d_L_init_15 rfl (lv_at hl 3 rfl) ?_
  refine p_L_16 X hb hP hS he_2 (Nat.le_of_ble_eq_true rfl) rfl rfl rfl d_L_init_16 (fun H locs hP hS => ?_)
  have he_3 := va_up_self (va_up (va_up g a (some (.inr (4, [.int x, .int 0, .null, .long 0, .null, .int 0])))) a (some (.inr (4, [.int x, .int y, .null, .long 0, .null, .int 0])))) a (some (.inr (4, [.int x, .int y, .ref ra, .long 0, .null, .int 0]) : va_E))
  have hP : hw D vwCl A (va_up (va_up (va_up g a (some (.inr (4, [.int x, .int 0, .null, .long 0, .null, .int 0])))) a (some (.inr (4, [.int x, .int y, .null, .long 0, .null, .int 0])))) a (some (.inr (4, [.int x, .int y, .ref ra, .long 0, .null, .int 0])))) H := hP
  refine lv_aload_n hx hb d_L_init_19 rfl (lv_at hl 0 rfl) ?_
  refine lv_lload hx hb d_L_init_20 (lv_at hl 4 rfl) ?_
  refine p_L_20 X hb hP hS he_3 (Nat.le_of_ble_eq_true rfl) rfl d_L_init_22 (fun H locs hP hS => ?_)
  have he_4 := va_up_self (va_up (va_up (va_up g a (some (.inr (4, [.int x, .int 0, .null, .long 0, .null, .int 0])))) a (some (.inr (4, [.int x, .int y, .null, .long 0, .null, .int 0])))) a (some (.inr (4, [.int x, .int y, .ref ra, .long 0, .null, .int 0])))) a (some (.inr (4, [.int x, .int y, .ref ra, .long du, .null, .int 0]) : va_E))
  have hP : hw D vwCl A (va_up (va_up (va_up (va_up g a (some (.inr (4, [.int x, .int 0, .null, .long 0, .null, .int 0])))) a (some (.inr (4, [.int x, .int y, .null, .long 0, .null, .int 0])))) a (some (.inr (4, [.int x, .int y, .ref ra, .long 0, .null, .int 0])))) a (some (.inr (4, [.int x, .int y, .ref ra, .long du, .null, .int 0])))) H := hP
  exact h_vret hx hb hr hlocks (Nat.le_of_ble_eq_true rfl) (Nat.le_of_ble_eq_true rfl) hP hS (by rw [bx_uu, bx_uu, bx_uu]; rfl) d_L_init_25
theorem k_F_96 {p : Program} {l : Launch} {e : Env} {R : Room} {s : State} {m : MethodId} {args : Array Value} {below : List Frame} {meth : Method} {c : Code} {H : Heap} {locs : List Loc} {cells slots : Nat} {Q : State → Prop} {cc : ByteArray} {pc : Nat} {ls : Array Slot} {rest : List Value} {D : va_G} {A : Nat → Prop} {t : Nat → ClassId} {g : hG} {nL : Nat} {ret0 : Option FieldType} {nm : String} (X : Cx p s m args meth c R_F cc nL ret0 TB D vwCl (tyL t) EX A nm) (hR : 1 + 1 ≤ R.frames ∧ 8 + (6 + 11) + 24 ≤ R.locals) (hf : cells + 0 ≤ R.cells ∧ slots + 0 ≤ R.slots) (hls : ls.size = nL) (hP : hw D vwCl A g H) (hS : va_S A s.heap H locs) {a : Nat} {x y : Int32} {ra : Nat} {du : Int64} (he : g a = some (.inr (4, [.int 0, .int 0, .null, .long 0, .null, .int 0]))) (hW : (rest.map fun v => v.category).sum ≤ 8) (hdg : decode cc pc = .ok (.invokespecial 96, 3)) (kk : ∀ (H1 : Heap) (locs1 : List Loc), hw D vwCl A (va_up g a (some (cLo x y ra du none 0))) H1 → va_S A s.heap H1 locs1 → W p l e R s m args below meth c H1 locs1 (cells + 0) (slots + 0) Q (F0 m (pc + 3) ls rest)) : W p l e R s m args below meth c H locs cells slots Q (F0 m pc ls (.long du :: .ref ra :: .int y :: .int x :: .ref a :: rest)) :=
  h_cv (runI X (c_L_init l D t A g a x y ra du he) (tbm 169 (by decide +kernel)) (tbm 170 (by decide +kernel)) (tbm 29 (by decide +kernel)) (tbm 171 (by decide +kernel)) rfl (n := 4) (by decide +kernel) hR hf hP hS hls rfl rfl hW hdg) hS (fun u H1 locs1 hp hP1 hS1 => kk H1 locs1 (hp ▸ hP1) hS1)

set_option maxRecDepth 100000 in
theorem c_D_init (l : Launch) (D : va_G) (t : Nat → ClassId) (A : Nat → Prop) (g : hG) (a b : Nat) (it pn : Int32) (ra : Nat) (du : Int64) (lo : Option Nat) (en : Int32) (so : Int32) (am dy : Int64) (he : g a = some (.inr (2, [.int 0, .null, .int 0, .long 0, .long 0, .long 0, .long 0]))) (hb0 : g b = some (cLo it pn ra du lo en)) : Met l y_D_init (Cond.code y_D_init b_D_init 7 none :: TB) ({ frames := 1, cells := 0, slots := 0, locals := 24 } : Room) (va_Pc [.ref a, .ref b, .int so, .long am, .long dy] (hI D vwCl (tyL t) EX A g)) (va_Qv (fun u => u = va_up g a (some (cDe pn ra so am dy am 0))) (fun u v => hw D vwCl A u v.heap) A) 0 0 A := by
  refine Met.ofH (cc := b_D_init) (maxL := 7) (ret := none) (lv := [(0, .ref a), (1, .ref b), (2, .int so), (3, .long am), (5, .long dy)]) (by decide) (Nat.le_of_ble_eq_true rfl) rfl ?_
  intro p e s m below meth c ls X hP hS hl
  obtain ⟨hx, hb, hml, hr, hts, hown, hlocks, hK, hEs, hA, hnm⟩ := id X
  refine lv_aload_n hx hb d_D_init_0 rfl (lv_at hl 0 rfl) ?_
  refine W.objInit hx hb hown (hts _ (tbm 253 (by decide +kernel))) (hts _ (tbm 38 (by decide +kernel))) (hts _ (tbm 39 (by decide +kernel))) rfl (by rw [hml]; exact hl.1) rfl d_D_init_1 (Nat.le_of_ble_eq_true rfl) (Nat.le_of_ble_eq_true rfl) ?_
  refine W.eq (g2 := F0 m 4 ls _) rfl ?_
  refine lv_aload_n hx hb d_D_init_4 rfl (lv_at hl 0 rfl) ?_
  refine lv_aload_n hx hb d_D_init_5 rfl (lv_at hl 1 rfl) ?_
  refine g_D_9 X hb hP hb0 rfl d_D_init_6 ?_
  refine p_D_15 X hb hP hS he (Nat.le_of_ble_eq_true rfl) rfl d_D_init_9 (fun H locs hP hS => ?_)
  have he_1 := up_at (o := some (.inr (2, [.int pn, .null, .int 0, .long 0, .long 0, .long 0, .long 0]))) hb0 (hw_kd hb0 he rfl)
  have he_2 := va_up_self g a (some (.inr (2, [.int pn, .null, .int 0, .long 0, .long 0, .long 0, .long 0]) : va_E))
  have hP : hw D vwCl A (va_up g a (some (.inr (2, [.int pn, .null, .int 0, .long 0, .long 0, .long 0, .long 0])))) H := hP
  refine lv_aload_n hx hb d_D_init_12 rfl (lv_at hl 0 rfl) ?_
  refine lv_aload_n hx hb d_D_init_13 rfl (lv_at hl 1 rfl) ?_
  refine g_D_18 X hb hP he_1 rfl d_D_init_14 ?_
  refine p_D_22 X hb hP hS he_2 (Nat.le_of_ble_eq_true rfl) rfl rfl rfl d_D_init_17 (fun H locs hP hS => ?_)
  have he_3 := up_at (o := some (.inr (2, [.int pn, .ref ra, .int 0, .long 0, .long 0, .long 0, .long 0]))) he_1 (hw_kd he_1 he_2 rfl)
  have he_4 := va_up_self (va_up g a (some (.inr (2, [.int pn, .null, .int 0, .long 0, .long 0, .long 0, .long 0])))) a (some (.inr (2, [.int pn, .ref ra, .int 0, .long 0, .long 0, .long 0, .long 0]) : va_E))
  have hP : hw D vwCl A (va_up (va_up g a (some (.inr (2, [.int pn, .null, .int 0, .long 0, .long 0, .long 0, .long 0])))) a (some (.inr (2, [.int pn, .ref ra, .int 0, .long 0, .long 0, .long 0, .long 0])))) H := hP
  refine lv_aload_n hx hb d_D_init_20 rfl (lv_at hl 0 rfl) ?_
  refine lv_iload_n hx hb d_D_init_21 rfl (lv_at hl 2 rfl) ?_
  refine p_D_23 X hb hP hS he_4 (Nat.le_of_ble_eq_true rfl) rfl d_D_init_22 (fun H locs hP hS => ?_)
  have he_5 := up_at (o := some (.inr (2, [.int pn, .ref ra, .int so, .long 0, .long 0, .long 0, .long 0]))) he_3 (hw_kd he_3 he_4 rfl)
  have he_6 := va_up_self (va_up (va_up g a (some (.inr (2, [.int pn, .null, .int 0, .long 0, .long 0, .long 0, .long 0])))) a (some (.inr (2, [.int pn, .ref ra, .int 0, .long 0, .long 0, .long 0, .long 0])))) a (some (.inr (2, [.int pn, .ref ra, .int so, .long 0, .long 0, .long 0, .long 0]) : va_E))
  have hP : hw D vwCl A (va_up (va_up (va_up g a (some (.inr (2, [.int pn, .null, .int 0, .long 0, .long 0, .long 0, .long 0])))) a (some (.inr (2, [.int pn, .ref ra, .int 0, .long 0, .long 0, .long 0, .long 0])))) a (some (.inr (2, [.int pn, .ref ra, .int so, .long 0, .long 0, .long 0, .long 0])))) H := hP
  refine lv_aload_n hx hb d_D_init_25 rfl (lv_at hl 0 rfl) ?_
  refine lv_lload_n hx hb d_D_init_26 rfl (lv_at hl 3 rfl) ?_
  refine p_D_26 X hb hP hS he_6 (Nat.le_of_ble_eq_true rfl) rfl d_D_init_27 (fun H locs hP hS => ?_)
  have he_7 := up_at (o := some (.inr (2, [.int pn, .ref ra, .int so, .long am, .long 0, .long 0, .long 0]))) he_5 (hw_kd he_5 he_6 rfl)
  have he_8 := va_up_self (va_up (va_up (va_up g a (some (.inr (2, [.int pn, .null, .int 0, .long 0, .long 0, .long 0, .long 0])))) a (some (.inr (2, [.int pn, .ref ra, .int 0, .long 0, .long 0, .long 0, .long 0])))) a (some (.inr (2, [.int pn, .ref ra, .int so, .long 0, .long 0, .long 0, .long 0])))) a (some (.inr (2, [.int pn, .ref ra, .int so, .long am, .long 0, .long 0, .long 0]) : va_E))
  have hP : hw D vwCl A (va_up (va_up (va_up (va_up g a (some (.inr (2, [.int pn, .null, .int 0, .long 0, .long 0, .long 0, .long 0])))) a (some (.inr (2, [.int pn, .ref ra, .int 0, .long 0, .long 0, .long 0, .long 0])))) a (some (.inr (2, [.int pn, .ref ra, .int so, .long 0, .long 0, .long 0, .long 0])))) a (some (.inr (2, [.int pn, .ref ra, .int so, .long am, .long 0, .long 0, .long 0])))) H := hP
  refine lv_aload_n hx hb d_D_init_30 rfl (lv_at hl 0 rfl) ?_
  refine lv_lload hx hb d_D_init_31 (lv_at hl 4 rfl) ?_
  refine p_D_30 X hb hP hS he_8 (Nat.le_of_ble_eq_true rfl) rfl d_D_init_33 (fun H locs hP hS => ?_)
  have he_9 := up_at (o := some (.inr (2, [.int pn, .ref ra, .int so, .long am, .long dy, .long 0, .long 0]))) he_7 (hw_kd he_7 he_8 rfl)
  have he_10 := va_up_self (va_up (va_up (va_up (va_up g a (some (.inr (2, [.int pn, .null, .int 0, .long 0, .long 0, .long 0, .long 0])))) a (some (.inr (2, [.int pn, .ref ra, .int 0, .long 0, .long 0, .long 0, .long 0])))) a (some (.inr (2, [.int pn, .ref ra, .int so, .long 0, .long 0, .long 0, .long 0])))) a (some (.inr (2, [.int pn, .ref ra, .int so, .long am, .long 0, .long 0, .long 0])))) a (some (.inr (2, [.int pn, .ref ra, .int so, .long am, .long dy, .long 0, .long 0]) : va_E))
  have hP : hw D vwCl A (va_up (va_up (va_up (va_up (va_up g a (some (.inr (2, [.int pn, .null, .int 0, .long 0, .long 0, .long 0, .long 0])))) a (some (.inr (2, [.int pn, .ref ra, .int 0, .long 0, .long 0, .long 0, .long 0])))) a (some (.inr (2, [.int pn, .ref ra, .int so, .long 0, .long 0, .long 0, .long 0])))) a (some (.inr (2, [.int pn, .ref ra, .int so, .long am, .long 0, .long 0, .long 0])))) a (some (.inr (2, [.int pn, .ref ra, .int so, .long am, .long dy, .long 0, .long 0])))) H := hP
  refine lv_aload_n hx hb d_D_init_36 rfl (lv_at hl 0 rfl) ?_
  refine lv_lload_n hx hb d_D_init_37 rfl (lv_at hl 3 rfl) ?_
  refine p_D_33 X hb hP hS he_10 (Nat.le_of_ble_eq_true rfl) d_D_init_38 (fun H locs hP hS => ?_)
  have he_11 := up_at (o := some (.inr (2, [.int pn, .ref ra, .int so, .long am, .long dy, .long am, .long 0]))) he_9 (hw_kd he_9 he_10 rfl)
  have he_12 := va_up_self (va_up (va_up (va_up (va_up (va_up g a (some (.inr (2, [.int pn, .null, .int 0, .long 0, .long 0, .long 0, .long 0])))) a (some (.inr (2, [.int pn, .ref ra, .int 0, .long 0, .long 0, .long 0, .long 0])))) a (some (.inr (2, [.int pn, .ref ra, .int so, .long 0, .long 0, .long 0, .long 0])))) a (some (.inr (2, [.int pn, .ref ra, .int so, .long am, .long 0, .long 0, .long 0])))) a (some (.inr (2, [.int pn, .ref ra, .int so, .long am, .long dy, .long 0, .long 0])))) a (some (.inr (2, [.int pn, .ref ra, .int so, .long am, .long dy, .long am, .long 0]) : va_E))
  have hP : hw D vwCl A (va_up (va_up (va_up (va_up (va_up (va_up g a (some (.inr (2, [.int pn, .null, .int 0, .long 0, .long 0, .long 0, .long 0])))) a (some (.inr (2, [.int pn, .ref ra, .int 0, .long 0, .long 0, .long 0, .long 0])))) a (some (.inr (2, [.int pn, .ref ra, .int so, .long 0, .long 0, .long 0, .long 0])))) a (some (.inr (2, [.int pn, .ref ra, .int so, .long am, .long 0, .long 0, .long 0])))) a (some (.inr (2, [.int pn, .ref ra, .int so, .long am, .long dy, .long 0, .long 0])))) a (some (.inr (2, [.int pn, .ref ra, .int so, .long am, .long dy, .long am, .long 0])))) H := hP
  exact h_vret hx hb hr hlocks (Nat.le_of_ble_eq_true rfl) (Nat.le_of_ble_eq_true rfl) hP hS (by rw [bx_uu, bx_uu, bx_uu, bx_uu, bx_uu]) d_D_init_41
theorem k_B_32 {p : Program} {l : Launch} {e : Env} {R : Room} {s : State} {m : MethodId} {args : Array Value} {below : List Frame} {meth : Method} {c : Code} {H : Heap} {locs : List Loc} {cells slots : Nat} {Q : State → Prop} {cc : ByteArray} {pc : Nat} {ls : Array Slot} {rest : List Value} {D : va_G} {A : Nat → Prop} {t : Nat → ClassId} {g : hG} {nL : Nat} {ret0 : Option FieldType} {nm : String} (X : Cx p s m args meth c R_B cc nL ret0 TB D vwCl (tyL t) EX A nm) (hR : 1 + 1 ≤ R.frames ∧ 8 + (7 + 11) + 24 ≤ R.locals) (hf : cells + 0 ≤ R.cells ∧ slots + 0 ≤ R.slots) (hls : ls.size = nL) (hP : hw D vwCl A g H) (hS : va_S A s.heap H locs) {a b : Nat} {it pn : Int32} {ra : Nat} {du : Int64} {lo : Option Nat} {en : Int32} {so : Int32} {am dy : Int64} (he : g a = some (.inr (2, [.int 0, .null, .int 0, .long 0, .long 0, .long 0, .long 0]))) (hb0 : g b = some (cLo it pn ra du lo en)) (hW : (rest.map fun v => v.category).sum ≤ 8) (hdg : decode cc pc = .ok (.invokespecial 32, 3)) (kk : ∀ (H1 : Heap) (locs1 : List Loc), hw D vwCl A (va_up g a (some (cDe pn ra so am dy am 0))) H1 → va_S A s.heap H1 locs1 → W p l e R s m args below meth c H1 locs1 (cells + 0) (slots + 0) Q (F0 m (pc + 3) ls rest)) : W p l e R s m args below meth c H locs cells slots Q (F0 m pc ls (.long dy :: .long am :: .int so :: .ref b :: .ref a :: rest)) :=
  h_cv (runI X (c_D_init l D t A g a b it pn ra du lo en so am dy he hb0) (tbm 250 (by decide +kernel)) (tbm 251 (by decide +kernel)) (tbm 31 (by decide +kernel)) (tbm 252 (by decide +kernel)) rfl (n := 4) (by decide +kernel) hR hf hP hS hls rfl rfl hW hdg) hS (fun u H1 locs1 hp hP1 hS1 => kk H1 locs1 (hp ▸ hP1) hS1)

set_option maxRecDepth 100000 in
theorem c_B_isFull (l : Launch) (D : va_G) (t : Nat → ClassId) (A : Nat → Prop) (g : hG) (a bn bd n : Nat) (he : g a = some (cBr bn bd (nI n))) (hn : n ≤ 200) : Met l y_B_isFull (Cond.code y_B_isFull b_B_isFull 1 (some .boolean) :: TB) ({ frames := 0, cells := 0, slots := 0, locals := 0 } : Room) (va_Pc [.ref a] (hI D vwCl (tyL t) EX A g)) (va_Qi (fun r u => r = bi (fullB n) ∧ u = g) (fun u v => hw D vwCl A u v.heap) A) 0 0 A := by
  refine Met.ofH (cc := b_B_isFull) (maxL := 1) (ret := (some .boolean)) (lv := [(0, .ref a)]) (by decide) (Nat.le_of_ble_eq_true rfl) rfl ?_
  intro p e s m below meth c ls X hP hS hl
  obtain ⟨hx, hb, hml, hr, hts, hown, hlocks, hK, hEs, hA, hnm⟩ := id X
  refine lv_aload_n hx hb d_B_isFull_0 rfl (lv_at hl 0 rfl) ?_
  refine g_B_20 X hb hP he rfl d_B_isFull_1 ?_
  refine lv_sipush (v := 200) hx hb d_B_isFull_4 (by decide) ?_
  refine lv_icmp_lt (tgt := 14) hx hb d_B_isFull_7 (by decide) (fun c_1 => ?_) (fun c_1 => ?_)
  · refine lv_iconst (v := 0) hx hb d_B_isFull_14 (by decide) ?_
    exact h_zret hx hb hr hlocks (rfl) (Nat.le_of_ble_eq_true rfl) (Nat.le_of_ble_eq_true rfl) hP hS (⟨by rw [show fullB n = false from decide_eq_false (Nat.not_le.mpr ((nI_ltI (b := 200) (by omega) (by decide)).mp c_1))]; rfl, rfl⟩) d_B_isFull_15
  · refine lv_iconst (v := 1) hx hb d_B_isFull_10 (by decide) ?_
    refine lv_goto (tgt := 15) hx hb d_B_isFull_11 (by decide) ?_
    exact h_zret hx hb hr hlocks (rfl) (Nat.le_of_ble_eq_true rfl) (Nat.le_of_ble_eq_true rfl) hP hS (⟨by rw [show fullB n = true from decide_eq_true (Nat.le_of_not_lt (fun q => c_1 (nI_lt (b := 200) q (by decide))))]; rfl, rfl⟩) d_B_isFull_15
theorem k_F_109 {p : Program} {l : Launch} {e : Env} {R : Room} {s : State} {m : MethodId} {args : Array Value} {below : List Frame} {meth : Method} {c : Code} {H : Heap} {locs : List Loc} {cells slots : Nat} {Q : State → Prop} {cc : ByteArray} {pc : Nat} {ls : Array Slot} {rest : List Value} {D : va_G} {A : Nat → Prop} {t : Nat → ClassId} {g : hG} {nL : Nat} {ret0 : Option FieldType} {nm : String} (X : Cx p s m args meth c R_F cc nL ret0 TB D vwCl (tyL t) EX A nm) (hR : 0 + 1 ≤ R.frames ∧ 8 + (1 + 11) + 0 ≤ R.locals) (hf : cells + 0 ≤ R.cells ∧ slots + 0 ≤ R.slots) (hls : ls.size = nL) (hP : hw D vwCl A g H) (hS : va_S A s.heap H locs) {a bn bd n : Nat} {fs9 : List Value} (he9 : g a = some (.inr (3, fs9))) (he : g a = some (cBr bn bd (nI n))) (hn : n ≤ 200) (hW : (rest.map fun v => v.category).sum ≤ 8) (hdg : decode cc pc = .ok (.invokevirtual 109, 3)) (kk : ∀ (r : Int32) (H1 : Heap) (locs1 : List Loc), r = bi (fullB n) → hw D vwCl A (g) H1 → va_S A s.heap H1 locs1 → W p l e R s m args below meth c H1 locs1 (cells + 0) (slots + 0) Q (F0 m (pc + 3) ls (.int r :: rest))) : W p l e R s m args below meth c H locs cells slots Q (F0 m pc ls (.ref a :: rest)) :=
  h_ci (runV (C := R_B) (T := F_B) (N := 3) X (c_B_isFull l D t A g a bn bd n he hn) (tbm 232 (by decide +kernel)) (tbm 233 (by decide +kernel)) (tbm 234 (by decide +kernel)) (tbm 21 (by decide +kernel)) (tbm 235 (by decide +kernel)) rfl (n := 0) (by decide +kernel) hR hf hP he9 hS hls rfl rfl hW hdg) hS (fun r u H1 locs1 hp hP1 hS1 => kk r H1 locs1 hp.1 (hp.2 ▸ hP1) hS1)
theorem k_B_28 {p : Program} {l : Launch} {e : Env} {R : Room} {s : State} {m : MethodId} {args : Array Value} {below : List Frame} {meth : Method} {c : Code} {H : Heap} {locs : List Loc} {cells slots : Nat} {Q : State → Prop} {cc : ByteArray} {pc : Nat} {ls : Array Slot} {rest : List Value} {D : va_G} {A : Nat → Prop} {t : Nat → ClassId} {g : hG} {nL : Nat} {ret0 : Option FieldType} {nm : String} (X : Cx p s m args meth c R_B cc nL ret0 TB D vwCl (tyL t) EX A nm) (hR : 0 + 1 ≤ R.frames ∧ 8 + (1 + 11) + 0 ≤ R.locals) (hf : cells + 0 ≤ R.cells ∧ slots + 0 ≤ R.slots) (hls : ls.size = nL) (hP : hw D vwCl A g H) (hS : va_S A s.heap H locs) {a bn bd n : Nat} {fs9 : List Value} (he9 : g a = some (.inr (3, fs9))) (he : g a = some (cBr bn bd (nI n))) (hn : n ≤ 200) (hW : (rest.map fun v => v.category).sum ≤ 8) (hdg : decode cc pc = .ok (.invokevirtual 28, 3)) (kk : ∀ (r : Int32) (H1 : Heap) (locs1 : List Loc), r = bi (fullB n) → hw D vwCl A (g) H1 → va_S A s.heap H1 locs1 → W p l e R s m args below meth c H1 locs1 (cells + 0) (slots + 0) Q (F0 m (pc + 3) ls (.int r :: rest))) : W p l e R s m args below meth c H locs cells slots Q (F0 m pc ls (.ref a :: rest)) :=
  h_ci (runV (C := R_B) (T := F_B) (N := 3) X (c_B_isFull l D t A g a bn bd n he hn) (tbm 248 (by decide +kernel)) (tbm 233 (by decide +kernel)) (tbm 234 (by decide +kernel)) (tbm 21 (by decide +kernel)) (tbm 235 (by decide +kernel)) rfl (n := 0) (by decide +kernel) hR hf hP he9 hS hls rfl rfl hW hdg) hS (fun r u H1 locs1 hp hP1 hS1 => kk r H1 locs1 hp.1 (hp.2 ▸ hP1) hS1)

set_option maxRecDepth 100000 in
theorem c_B_cameBehind (l : Launch) (D : va_G) (t : Nat → ClassId) (A : Nat → Prop) (g : hG) (a : Nat) (v : DC) (x : Int64) (he : g a = some (cDv v)) : Met l y_B_cameBehind (Cond.code y_B_cameBehind b_B_cameBehind 3 (some .boolean) :: TB) ({ frames := 0, cells := 0, slots := 0, locals := 0 } : Room) (va_Pc [.ref a, .long x] (hI D vwCl (tyL t) EX A g)) (va_Qi (fun r u => r = bi (decide (x < v.2.2.2.2.1)) ∧ u = g) (fun u v => hw D vwCl A u v.heap) A) 0 0 A := by
  refine Met.ofH (cc := b_B_cameBehind) (maxL := 3) (ret := (some .boolean)) (lv := [(0, .ref a), (1, .long x)]) (by decide) (Nat.le_of_ble_eq_true rfl) rfl ?_
  intro p e s m below meth c ls X hP hS hl
  obtain ⟨hx, hb, hml, hr, hts, hown, hlocks, hK, hEs, hA, hnm⟩ := id X
  refine lv_aload_n hx hb d_B_cameBehind_0 rfl (lv_at hl 0 rfl) ?_
  refine lv_ifnull hx hb d_B_cameBehind_1 ?_
  refine lv_aload_n hx hb d_B_cameBehind_4 rfl (lv_at hl 0 rfl) ?_
  refine g_B_39 X hb hP he rfl d_B_cameBehind_5 ?_
  refine lv_lload_n hx hb d_B_cameBehind_8 rfl (lv_at hl 1 rfl) ?_
  refine W.lcmp hx hb d_B_cameBehind_9 ?_
  refine lv_if_le (tgt := 17) hx hb d_B_cameBehind_10 (by decide) (fun c_1 => ?_) (fun c_1 => ?_)
  · rw [lg_cmp_le] at c_1
    refine lv_iconst (v := 0) hx hb d_B_cameBehind_17 (by decide) ?_
    exact h_zret hx hb hr hlocks (rfl) (Nat.le_of_ble_eq_true rfl) (Nat.le_of_ble_eq_true rfl) hP hS (⟨by rw [decide_eq_false (Int64.not_lt.mpr c_1)]; rfl, rfl⟩) d_B_cameBehind_18
  · rw [lg_cmp_le] at c_1
    refine lv_iconst (v := 1) hx hb d_B_cameBehind_13 (by decide) ?_
    refine lv_goto (tgt := 18) hx hb d_B_cameBehind_14 (by decide) ?_
    exact h_zret hx hb hr hlocks (rfl) (Nat.le_of_ble_eq_true rfl) (Nat.le_of_ble_eq_true rfl) hP hS (⟨by rw [decide_eq_true (Int64.not_le.mp c_1)]; rfl, rfl⟩) d_B_cameBehind_18
theorem k_B_35 {p : Program} {l : Launch} {e : Env} {R : Room} {s : State} {m : MethodId} {args : Array Value} {below : List Frame} {meth : Method} {c : Code} {H : Heap} {locs : List Loc} {cells slots : Nat} {Q : State → Prop} {cc : ByteArray} {pc : Nat} {ls : Array Slot} {rest : List Value} {D : va_G} {A : Nat → Prop} {t : Nat → ClassId} {g : hG} {nL : Nat} {ret0 : Option FieldType} {nm : String} (X : Cx p s m args meth c R_B cc nL ret0 TB D vwCl (tyL t) EX A nm) (hR : 0 + 1 ≤ R.frames ∧ 8 + (3 + 11) + 0 ≤ R.locals) (hf : cells + 0 ≤ R.cells ∧ slots + 0 ≤ R.slots) (hls : ls.size = nL) (hP : hw D vwCl A g H) (hS : va_S A s.heap H locs) {a : Nat} {v : DC} {x : Int64} (he : g a = some (cDv v)) (hW : (rest.map fun v => v.category).sum ≤ 8) (hdg : decode cc pc = .ok (.invokestatic 35, 3)) (kk : ∀ (r : Int32) (H1 : Heap) (locs1 : List Loc), r = bi (decide (x < v.2.2.2.2.1)) → hw D vwCl A (g) H1 → va_S A s.heap H1 locs1 → W p l e R s m args below meth c H1 locs1 (cells + 0) (slots + 0) Q (F0 m (pc + 3) ls (.int r :: rest))) : W p l e R s m args below meth c H locs cells slots Q (F0 m pc ls (.long x :: .ref a :: rest)) :=
  h_ci (runS X (c_B_cameBehind l D t A g a v x he) (tbm 285 (by decide +kernel)) (tbm 286 (by decide +kernel)) (tbm 21 (by decide +kernel)) (tbm 287 (by decide +kernel)) (n := 2) (by decide +kernel) hR hf hP hS hls rfl rfl hW hdg) hS (fun r u H1 locs1 hp hP1 hS1 => kk r H1 locs1 hp.1 (hp.2 ▸ hP1) hS1)
