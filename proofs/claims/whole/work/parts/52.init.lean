set_option maxRecDepth 100000 in
theorem c_C_init (l : Launch) (D : va_G) (t : Nat → ClassId) (A : Nat → Prop) (g : hG) (a : Nat) (he : g a = some (.inr (1, [.null, .int 0]))) : Met l y_C_init (Cond.code y_C_init b_C_init 1 none :: TB) ({ frames := 1, cells := 1, slots := 100, locals := 24 } : Room) (va_Pc [.ref a] (hI D vwCl (tyL t) EX A g)) (va_Qv (fun u => ∃ q, g q = none ∧ u = va_up (va_up g q (some (arJ t 100 (fun _ => 0)))) a (some (cCl q 0))) (fun u v => hw D vwCl A u v.heap) A) 1 100 A := by
  refine Met.ofH (cc := b_C_init) (maxL := 1) (ret := none) (lv := [(0, .ref a)]) (by decide) (Nat.le_of_ble_eq_true rfl) rfl ?_
  intro p e s m below meth c ls X hP hS hl
  obtain ⟨hx, hb, hml, hr, hts, hown, hlocks, hK, hEs, hA, hnm⟩ := id X
  refine lv_aload_n hx hb d_C_init_0 rfl (lv_at hl 0 rfl) ?_
  refine W.objInit hx hb hown (hts _ (tbm 68 (by decide +kernel))) (hts _ (tbm 38 (by decide +kernel))) (hts _ (tbm 39 (by decide +kernel))) rfl (by rw [hml]; exact hl.1) rfl d_C_init_1 (Nat.le_of_ble_eq_true rfl) (Nat.le_of_ble_eq_true rfl) ?_
  refine W.eq (g2 := F0 m 4 ls _) rfl ?_
  refine lv_aload_n hx hb d_C_init_4 rfl (lv_at hl 0 rfl) ?_
  refine lv_bipush (v := 100) hx hb d_C_init_5 (by decide) ?_
  refine h_newa (a0 := (100, .inr (.inl (fun _ => 0)))) (N' := 100) hx hb (hts _ (tbm 77 (by decide +kernel))) rfl hK hP hS hA 1 rfl (fun _ => by rw [vp_cell_l]; rfl) (by decide) (by decide) (by decide) (Nat.le_of_ble_eq_true rfl) (Nat.le_of_ble_eq_true rfl) d_C_init_7 (fun q_1 H hq_1 hP hS => ?_)
  have he_2 := up_at (o := some (arJ t 100 (fun _ => 0))) he (hw_new he hq_1)
  have he_3 := va_up_self g q_1 (some (arJ t 100 (fun _ => 0) : va_E))
  have hP : hw D vwCl A (va_up g q_1 (some (arJ t 100 (fun _ => 0)))) H := hP
  refine p_C_9 X hb hP hS he_2 (Nat.le_of_ble_eq_true rfl) rfl d_C_init_9 (fun H locs hP hS => ?_)
  have he_4 := up_at (o := some (.inr (1, [.ref q_1, .int 0]))) he_3 (hw_kd he_3 he_2 rfl)
  have he_5 := va_up_self (va_up g q_1 (some (arJ t 100 (fun _ => 0)))) a (some (.inr (1, [.ref q_1, .int 0]) : va_E))
  have hP : hw D vwCl A (va_up (va_up g q_1 (some (arJ t 100 (fun _ => 0)))) a (some (.inr (1, [.ref q_1, .int 0])))) H := hP
  exact h_vret hx hb hr hlocks (Nat.le_of_ble_eq_true rfl) (Nat.le_of_ble_eq_true rfl) hP hS (⟨_, hq_1, rfl⟩) d_C_init_12
theorem k_F_33 {p : Program} {l : Launch} {e : Env} {R : Room} {s : State} {m : MethodId} {args : Array Value} {below : List Frame} {meth : Method} {c : Code} {H : Heap} {locs : List Loc} {cells slots : Nat} {Q : State → Prop} {cc : ByteArray} {pc : Nat} {ls : Array Slot} {rest : List Value} {D : va_G} {A : Nat → Prop} {t : Nat → ClassId} {g : hG} {nL : Nat} {ret0 : Option FieldType} {nm : String} (X : Cx p s m args meth c R_F cc nL ret0 TB D vwCl (tyL t) EX A nm) (hR : 1 + 1 ≤ R.frames ∧ 8 + (1 + 11) + 24 ≤ R.locals) (hf : cells + 1 ≤ R.cells ∧ slots + 100 ≤ R.slots) (hls : ls.size = nL) (hP : hw D vwCl A g H) (hS : va_S A s.heap H locs) {a : Nat} (he : g a = some (.inr (1, [.null, .int 0]))) (hW : (rest.map fun v => v.category).sum ≤ 8) (hdg : decode cc pc = .ok (.invokespecial 33, 3)) (kk : ∀ (u : hG) (H1 : Heap) (locs1 : List Loc), ((fun u => ∃ q, g q = none ∧ u = va_up (va_up g q (some (arJ t 100 (fun _ => 0)))) a (some (cCl q 0))) u) → hw D vwCl A u H1 → va_S A s.heap H1 locs1 → W p l e R s m args below meth c H1 locs1 (cells + 1) (slots + 100) Q (F0 m (pc + 3) ls rest)) : W p l e R s m args below meth c H locs cells slots Q (F0 m pc ls (.ref a :: rest)) :=
  h_cv (runIN R_F X (c_C_init l D t A g a he) X.2.2.2.2.2.2.2.2.1.1.2.1 (tbm 66 (by decide +kernel)) (tbm 22 (by decide +kernel)) (tbm 67 (by decide +kernel)) rfl (n := 0) (by decide +kernel) hR hf hP hS hls rfl rfl hW hdg) hS kk

set_option maxRecDepth 100000 in
theorem c_B_init (l : Launch) (D : va_G) (t : Nat → ClassId) (A : Nat → Prop) (g : hG) (a : Nat) (he : g a = some (.inr (3, [.null, .null, .int 0]))) : Met l y_B_init (Cond.code y_B_init b_B_init 1 none :: TB) ({ frames := 1, cells := 2, slots := 400, locals := 24 } : Room) (va_Pc [.ref a] (hI D vwCl (tyL t) EX A g)) (va_Qv (fun u => ∃ q r, g q = none ∧ (va_up (va_up g q (some (arQ t 5 200 (fun _ => none)))) a (some (.inr (3, [.ref q, .null, .int 0])))) r = none ∧ u = va_up (va_up (va_up (va_up g q (some (arQ t 5 200 (fun _ => none)))) a (some (.inr (3, [.ref q, .null, .int 0])))) r (some (arQ t 5 200 (fun _ => none)))) a (some (cBr q r 0))) (fun u v => hw D vwCl A u v.heap) A) 2 400 A := by
  refine Met.ofH (cc := b_B_init) (maxL := 1) (ret := none) (lv := [(0, .ref a)]) (by decide) (Nat.le_of_ble_eq_true rfl) rfl ?_
  intro p e s m below meth c ls X hP hS hl
  obtain ⟨hx, hb, hml, hr, hts, hown, hlocks, hK, hEs, hA, hnm⟩ := id X
  refine lv_aload_n hx hb d_B_init_0 rfl (lv_at hl 0 rfl) ?_
  refine W.objInit hx hb hown (hts _ (tbm 49 (by decide +kernel))) (hts _ (tbm 38 (by decide +kernel))) (hts _ (tbm 39 (by decide +kernel))) rfl (by rw [hml]; exact hl.1) rfl d_B_init_1 (Nat.le_of_ble_eq_true rfl) (Nat.le_of_ble_eq_true rfl) ?_
  refine W.eq (g2 := F0 m 4 ls _) rfl ?_
  refine lv_aload_n hx hb d_B_init_4 rfl (lv_at hl 0 rfl) ?_
  refine lv_sipush (v := 200) hx hb d_B_init_5 (by decide) ?_
  refine h_newq (N' := 200) hx hb hown (hts _ (tbm 50 (by decide +kernel))) hEs.2.2.2 hK hP hS hA 5 rfl (by decide) (by decide) (by decide) (Nat.le_of_ble_eq_true rfl) (Nat.le_of_ble_eq_true rfl) d_B_init_8 (fun q_1 H hq_1 hP hS => ?_)
  have he_2 := up_at (o := some (arQ t 5 200 (fun _ => none))) he (hw_new he hq_1)
  have he_3 := va_up_self g q_1 (some (arQ t 5 200 (fun _ => none) : va_E))
  have hP : hw D vwCl A (va_up g q_1 (some (arQ t 5 200 (fun _ => none)))) H := hP
  refine p_B_11 X hb hP hS he_2 (Nat.le_of_ble_eq_true rfl) rfl d_B_init_11 (fun H locs hP hS => ?_)
  have he_4 := up_at (o := some (.inr (3, [.ref q_1, .null, .int 0]))) he_3 (hw_kd he_3 he_2 rfl)
  have he_5 := va_up_self (va_up g q_1 (some (arQ t 5 200 (fun _ => none)))) a (some (.inr (3, [.ref q_1, .null, .int 0]) : va_E))
  have hP : hw D vwCl A (va_up (va_up g q_1 (some (arQ t 5 200 (fun _ => none)))) a (some (.inr (3, [.ref q_1, .null, .int 0])))) H := hP
  refine lv_aload_n hx hb d_B_init_14 rfl (lv_at hl 0 rfl) ?_
  refine lv_sipush (v := 200) hx hb d_B_init_15 (by decide) ?_
  refine h_newq (N' := 200) hx hb hown (hts _ (tbm 50 (by decide +kernel))) hEs.2.2.2 hK hP hS hA 5 rfl (by decide) (by decide) (by decide) (Nat.le_of_ble_eq_true rfl) (Nat.le_of_ble_eq_true rfl) d_B_init_18 (fun q_6 H hq_6 hP hS => ?_)
  have he_7 := up_at (o := some (arQ t 5 200 (fun _ => none))) he_4 (hw_new he_4 hq_6)
  have he_8 := up_at (o := some (arQ t 5 200 (fun _ => none))) he_5 (hw_new he_5 hq_6)
  have he_9 := va_up_self (va_up (va_up g q_1 (some (arQ t 5 200 (fun _ => none)))) a (some (.inr (3, [.ref q_1, .null, .int 0])))) q_6 (some (arQ t 5 200 (fun _ => none) : va_E))
  have hP : hw D vwCl A (va_up (va_up (va_up g q_1 (some (arQ t 5 200 (fun _ => none)))) a (some (.inr (3, [.ref q_1, .null, .int 0])))) q_6 (some (arQ t 5 200 (fun _ => none)))) H := hP
  refine p_B_17 X hb hP hS he_8 (Nat.le_of_ble_eq_true rfl) rfl d_B_init_21 (fun H locs hP hS => ?_)
  have he_10 := up_at (o := some (.inr (3, [.ref q_1, .ref q_6, .int 0]))) he_7 (hw_kd he_7 he_8 rfl)
  have he_11 := up_at (o := some (.inr (3, [.ref q_1, .ref q_6, .int 0]))) he_9 (hw_kd he_9 he_8 rfl)
  have he_12 := va_up_self (va_up (va_up (va_up g q_1 (some (arQ t 5 200 (fun _ => none)))) a (some (.inr (3, [.ref q_1, .null, .int 0])))) q_6 (some (arQ t 5 200 (fun _ => none)))) a (some (.inr (3, [.ref q_1, .ref q_6, .int 0]) : va_E))
  have hP : hw D vwCl A (va_up (va_up (va_up (va_up g q_1 (some (arQ t 5 200 (fun _ => none)))) a (some (.inr (3, [.ref q_1, .null, .int 0])))) q_6 (some (arQ t 5 200 (fun _ => none)))) a (some (.inr (3, [.ref q_1, .ref q_6, .int 0])))) H := hP
  exact h_vret hx hb hr hlocks (Nat.le_of_ble_eq_true rfl) (Nat.le_of_ble_eq_true rfl) hP hS (⟨_, _, hq_1, hq_6, rfl⟩) d_B_init_24
theorem k_F_26 {p : Program} {l : Launch} {e : Env} {R : Room} {s : State} {m : MethodId} {args : Array Value} {below : List Frame} {meth : Method} {c : Code} {H : Heap} {locs : List Loc} {cells slots : Nat} {Q : State → Prop} {cc : ByteArray} {pc : Nat} {ls : Array Slot} {rest : List Value} {D : va_G} {A : Nat → Prop} {t : Nat → ClassId} {g : hG} {nL : Nat} {ret0 : Option FieldType} {nm : String} (X : Cx p s m args meth c R_F cc nL ret0 TB D vwCl (tyL t) EX A nm) (hR : 1 + 1 ≤ R.frames ∧ 8 + (1 + 11) + 24 ≤ R.locals) (hf : cells + 2 ≤ R.cells ∧ slots + 400 ≤ R.slots) (hls : ls.size = nL) (hP : hw D vwCl A g H) (hS : va_S A s.heap H locs) {a : Nat} (he : g a = some (.inr (3, [.null, .null, .int 0]))) (hW : (rest.map fun v => v.category).sum ≤ 8) (hdg : decode cc pc = .ok (.invokespecial 26, 3)) (kk : ∀ (u : hG) (H1 : Heap) (locs1 : List Loc), ((fun u => ∃ q r, g q = none ∧ (va_up (va_up g q (some (arQ t 5 200 (fun _ => none)))) a (some (.inr (3, [.ref q, .null, .int 0])))) r = none ∧ u = va_up (va_up (va_up (va_up g q (some (arQ t 5 200 (fun _ => none)))) a (some (.inr (3, [.ref q, .null, .int 0])))) r (some (arQ t 5 200 (fun _ => none)))) a (some (cBr q r 0))) u) → hw D vwCl A u H1 → va_S A s.heap H1 locs1 → W p l e R s m args below meth c H1 locs1 (cells + 2) (slots + 400) Q (F0 m (pc + 3) ls rest)) : W p l e R s m args below meth c H locs cells slots Q (F0 m pc ls (.ref a :: rest)) :=
  h_cv (runIN R_F X (c_B_init l D t A g a he) X.2.2.2.2.2.2.2.2.1.1.1 (tbm 47 (by decide +kernel)) (tbm 21 (by decide +kernel)) (tbm 48 (by decide +kernel)) rfl (n := 0) (by decide +kernel) hR hf hP hS hls rfl rfl hW hdg) hS kk
