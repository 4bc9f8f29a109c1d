set_option maxRecDepth 100000 in
theorem c_F_isWithin (l : Launch) (D : va_G) (t : Nat → ClassId) (A : Nat → Prop) (g : hG) (x y z : Int32) : Met l y_F_isWithin (Cond.code y_F_isWithin b_F_isWithin 3 (some .boolean) :: TB) ({ frames := 0, cells := 0, slots := 0, locals := 0 } : Room) (va_Pc [.int x, .int y, .int z] (hI D vwCl (tyL t) EX A g)) (va_Qi (fun r u => r = bi (wi x y z) ∧ u = g) (fun u v => hw D vwCl A u v.heap) A) 0 0 A := by
  refine Met.ofH (cc := b_F_isWithin) (maxL := 3) (ret := (some .boolean)) (lv := [(0, .int x), (1, .int y), (2, .int z)]) (by decide) (Nat.le_of_ble_eq_true rfl) rfl ?_
  intro p e s m below meth c ls X hP hS hl
  obtain ⟨hx, hb, hml, hr, hts, hown, hlocks, hK, hEs, hA, hnm⟩ := id X
  refine lv_iload_n hx hb d_F_isWithin_0 rfl (lv_at hl 0 rfl) ?_
  refine lv_iload_n hx hb d_F_isWithin_1 rfl (lv_at hl 1 rfl) ?_
  refine lv_icmp_lt (tgt := 14) hx hb d_F_isWithin_2 (by decide) (fun c_1 => ?_) (fun c_1 => ?_)
  · refine lv_iconst (v := 0) hx hb d_F_isWithin_14 (by decide) ?_
    exact h_zret hx hb hr hlocks (rfl) (Nat.le_of_ble_eq_true rfl) (Nat.le_of_ble_eq_true rfl) hP hS (⟨by rw [wi_f1 c_1]; rfl, rfl⟩) d_F_isWithin_15
  · refine lv_iload_n hx hb d_F_isWithin_5 rfl (lv_at hl 0 rfl) ?_
    refine lv_iload_n hx hb d_F_isWithin_6 rfl (lv_at hl 2 rfl) ?_
    refine lv_icmp_gt (tgt := 14) hx hb d_F_isWithin_7 (by decide) (fun c_2 => ?_) (fun c_2 => ?_)
    · refine lv_iconst (v := 0) hx hb d_F_isWithin_14 (by decide) ?_
      exact h_zret hx hb hr hlocks (rfl) (Nat.le_of_ble_eq_true rfl) (Nat.le_of_ble_eq_true rfl) hP hS (⟨by rw [wi_f2 c_2]; rfl, rfl⟩) d_F_isWithin_15
    · refine lv_iconst (v := 1) hx hb d_F_isWithin_10 (by decide) ?_
      refine lv_goto (tgt := 15) hx hb d_F_isWithin_11 (by decide) ?_
      exact h_zret hx hb hr hlocks (rfl) (Nat.le_of_ble_eq_true rfl) (Nat.le_of_ble_eq_true rfl) hP hS (⟨by rw [wi_t (Int32.not_lt.mp c_1) (Int32.not_lt.mp c_2)]; rfl, rfl⟩) d_F_isWithin_15
theorem k_F_47 {p : Program} {l : Launch} {e : Env} {R : Room} {s : State} {m : MethodId} {args : Array Value} {below : List Frame} {meth : Method} {c : Code} {H : Heap} {locs : List Loc} {cells slots : Nat} {Q : State → Prop} {cc : ByteArray} {pc : Nat} {ls : Array Slot} {rest : List Value} {D : va_G} {A : Nat → Prop} {t : Nat → ClassId} {g : hG} {nL : Nat} {ret0 : Option FieldType} {nm : String} (X : Cx p s m args meth c R_F cc nL ret0 TB D vwCl (tyL t) EX A nm) (hR : 0 + 1 ≤ R.frames ∧ 8 + (3 + 11) + 0 ≤ R.locals) (hf : cells + 0 ≤ R.cells ∧ slots + 0 ≤ R.slots) (hls : ls.size = nL) (hP : hw D vwCl A g H) (hS : va_S A s.heap H locs) {x y z : Int32}  (hW : (rest.map fun v => v.category).sum ≤ 8) (hdg : decode cc pc = .ok (.invokestatic 47, 3)) (kk : ∀ (r : Int32) (H1 : Heap) (locs1 : List Loc), r = bi (wi x y z) → hw D vwCl A (g) H1 → va_S A s.heap H1 locs1 → W p l e R s m args below meth c H1 locs1 (cells + 0) (slots + 0) Q (F0 m (pc + 3) ls (.int r :: rest))) : W p l e R s m args below meth c H locs cells slots Q (F0 m pc ls (.int z :: .int y :: .int x :: rest)) :=
  h_ci (runS X (c_F_isWithin l D t A g x y z ) (tbm 111 (by decide +kernel)) (tbm 112 (by decide +kernel)) (tbm 20 (by decide +kernel)) (tbm 113 (by decide +kernel)) (n := 3) (by decide +kernel) hR hf hP hS hls rfl rfl hW hdg) hS (fun r u H1 locs1 hp hP1 hS1 => kk r H1 locs1 hp.1 (hp.2 ▸ hP1) hS1)
theorem k_B_24 {p : Program} {l : Launch} {e : Env} {R : Room} {s : State} {m : MethodId} {args : Array Value} {below : List Frame} {meth : Method} {c : Code} {H : Heap} {locs : List Loc} {cells slots : Nat} {Q : State → Prop} {cc : ByteArray} {pc : Nat} {ls : Array Slot} {rest : List Value} {D : va_G} {A : Nat → Prop} {t : Nat → ClassId} {g : hG} {nL : Nat} {ret0 : Option FieldType} {nm : String} (X : Cx p s m args meth c R_B cc nL ret0 TB D vwCl (tyL t) EX A nm) (hR : 0 + 1 ≤ R.frames ∧ 8 + (3 + 11) + 0 ≤ R.locals) (hf : cells + 0 ≤ R.cells ∧ slots + 0 ≤ R.slots) (hls : ls.size = nL) (hP : hw D vwCl A g H) (hS : va_S A s.heap H locs) {x y z : Int32}  (hW : (rest.map fun v => v.category).sum ≤ 8) (hdg : decode cc pc = .ok (.invokestatic 24, 3)) (kk : ∀ (r : Int32) (H1 : Heap) (locs1 : List Loc), r = bi (wi x y z) → hw D vwCl A (g) H1 → va_S A s.heap H1 locs1 → W p l e R s m args below meth c H1 locs1 (cells + 0) (slots + 0) Q (F0 m (pc + 3) ls (.int r :: rest))) : W p l e R s m args below meth c H locs cells slots Q (F0 m pc ls (.int z :: .int y :: .int x :: rest)) :=
  h_ci (runSN R_F X (c_F_isWithin l D t A g x y z ) X.2.2.2.2.2.2.2.2.1.1.2.2 (tbm 112 (by decide +kernel)) (tbm 20 (by decide +kernel)) (tbm 113 (by decide +kernel)) (n := 3) (by decide +kernel) hR hf hP hS hls rfl rfl hW hdg) hS (fun r u H1 locs1 hp hP1 hS1 => kk r H1 locs1 hp.1 (hp.2 ▸ hP1) hS1)

set_option maxRecDepth 100000 in
theorem c_F_isDay (l : Launch) (D : va_G) (t : Nat → ClassId) (A : Nat → Prop) (g : hG) (d : Int64) : Met l y_F_isDay (Cond.code y_F_isDay b_F_isDay 2 (some .boolean) :: TB) ({ frames := 0, cells := 0, slots := 0, locals := 0 } : Room) (va_Pc [.long d] (hI D vwCl (tyL t) EX A g)) (va_Qi (fun r u => r = bi (wd d) ∧ u = g) (fun u v => hw D vwCl A u v.heap) A) 0 0 A := by
  refine Met.ofH (cc := b_F_isDay) (maxL := 2) (ret := (some .boolean)) (lv := [(0, .long d)]) (by decide) (Nat.le_of_ble_eq_true rfl) rfl ?_
  intro p e s m below meth c ls X hP hS hl
  obtain ⟨hx, hb, hml, hr, hts, hown, hlocks, hK, hEs, hA, hnm⟩ := id X
  refine lv_lload_n hx hb d_F_isDay_0 rfl (lv_at hl 0 rfl) ?_
  refine lv_lconst (v := 0) hx hb d_F_isDay_1 (by decide) ?_
  refine W.lcmp hx hb d_F_isDay_2 ?_
  refine lv_if_lt (tgt := 18) hx hb d_F_isDay_3 (by decide) (fun c_1 => ?_) (fun c_1 => ?_)
  · rw [lg_cmp_lt] at c_1
    refine lv_iconst (v := 0) hx hb d_F_isDay_18 (by decide) ?_
    exact h_zret hx hb hr hlocks (rfl) (Nat.le_of_ble_eq_true rfl) (Nat.le_of_ble_eq_true rfl) hP hS (⟨by rw [wd_f1 c_1]; rfl, rfl⟩) d_F_isDay_19
  · rw [lg_cmp_lt] at c_1
    refine lv_lload_n hx hb d_F_isDay_6 rfl (lv_at hl 0 rfl) ?_
    refine lv_ldc2 (v := 1000000) hx hb hown (hts _ (tbm 145 (by decide +kernel))) d_F_isDay_7 ?_
    refine W.lcmp hx hb d_F_isDay_10 ?_
    refine lv_if_gt (tgt := 18) hx hb d_F_isDay_11 (by decide) (fun c_2 => ?_) (fun c_2 => ?_)
    · rw [lg_cmp_gt] at c_2
      refine lv_iconst (v := 0) hx hb d_F_isDay_18 (by decide) ?_
      exact h_zret hx hb hr hlocks (rfl) (Nat.le_of_ble_eq_true rfl) (Nat.le_of_ble_eq_true rfl) hP hS (⟨by rw [wd_f2 c_2]; rfl, rfl⟩) d_F_isDay_19
    · rw [lg_cmp_gt] at c_2
      refine lv_iconst (v := 1) hx hb d_F_isDay_14 (by decide) ?_
      refine lv_goto (tgt := 19) hx hb d_F_isDay_15 (by decide) ?_
      exact h_zret hx hb hr hlocks (rfl) (Nat.le_of_ble_eq_true rfl) (Nat.le_of_ble_eq_true rfl) hP hS (⟨by rw [wd_t (Int64.not_lt.mp c_1) (Int64.not_lt.mp c_2)]; rfl, rfl⟩) d_F_isDay_19
theorem k_F_76 {p : Program} {l : Launch} {e : Env} {R : Room} {s : State} {m : MethodId} {args : Array Value} {below : List Frame} {meth : Method} {c : Code} {H : Heap} {locs : List Loc} {cells slots : Nat} {Q : State → Prop} {cc : ByteArray} {pc : Nat} {ls : Array Slot} {rest : List Value} {D : va_G} {A : Nat → Prop} {t : Nat → ClassId} {g : hG} {nL : Nat} {ret0 : Option FieldType} {nm : String} (X : Cx p s m args meth c R_F cc nL ret0 TB D vwCl (tyL t) EX A nm) (hR : 0 + 1 ≤ R.frames ∧ 8 + (2 + 11) + 0 ≤ R.locals) (hf : cells + 0 ≤ R.cells ∧ slots + 0 ≤ R.slots) (hls : ls.size = nL) (hP : hw D vwCl A g H) (hS : va_S A s.heap H locs) {d : Int64}  (hW : (rest.map fun v => v.category).sum ≤ 8) (hdg : decode cc pc = .ok (.invokestatic 76, 3)) (kk : ∀ (r : Int32) (H1 : Heap) (locs1 : List Loc), r = bi (wd d) → hw D vwCl A (g) H1 → va_S A s.heap H1 locs1 → W p l e R s m args below meth c H1 locs1 (cells + 0) (slots + 0) Q (F0 m (pc + 3) ls (.int r :: rest))) : W p l e R s m args below meth c H locs cells slots Q (F0 m pc ls (.long d :: rest)) :=
  h_ci (runS X (c_F_isDay l D t A g d ) (tbm 142 (by decide +kernel)) (tbm 143 (by decide +kernel)) (tbm 20 (by decide +kernel)) (tbm 144 (by decide +kernel)) (n := 1) (by decide +kernel) hR hf hP hS hls rfl rfl hW hdg) hS (fun r u H1 locs1 hp hP1 hS1 => kk r H1 locs1 hp.1 (hp.2 ▸ hP1) hS1)

set_option maxRecDepth 100000 in
theorem c_F_isPerson (l : Launch) (D : va_G) (t : Nat → ClassId) (A : Nat → Prop) (g : hG) (x : Int32) : Met l y_F_isPerson (Cond.code y_F_isPerson b_F_isPerson 1 (some .boolean) :: TB) ({ frames := 1, cells := 0, slots := 0, locals := 22 } : Room) (va_Pc [.int x] (hI D vwCl (tyL t) EX A g)) (va_Qi (fun r u => r = bi (wi x 0 29) ∧ u = g) (fun u v => hw D vwCl A u v.heap) A) 0 0 A := by
  refine Met.ofH (cc := b_F_isPerson) (maxL := 1) (ret := (some .boolean)) (lv := [(0, .int x)]) (by decide) (Nat.le_of_ble_eq_true rfl) rfl ?_
  intro p e s m below meth c ls X hP hS hl
  obtain ⟨hx, hb, hml, hr, hts, hown, hlocks, hK, hEs, hA, hnm⟩ := id X
  refine lv_iload_n hx hb d_F_isPerson_0 rfl (lv_at hl 0 rfl) ?_
  refine lv_iconst (v := 0) hx hb d_F_isPerson_1 (by decide) ?_
  refine lv_bipush (v := 29) hx hb d_F_isPerson_2 (by decide) ?_
  refine k_F_47 X ⟨Nat.le_of_ble_eq_true rfl, Nat.le_of_ble_eq_true rfl⟩ ⟨Nat.le_of_ble_eq_true rfl, Nat.le_of_ble_eq_true rfl⟩ hl.1 hP hS (by exact Nat.le_of_ble_eq_true rfl) d_F_isPerson_4 (fun r_1 H locs er_1 hP hS => ?_)
  exact h_zret hx hb hr hlocks (by rw [er_1]; exact bi_nar _) (Nat.le_of_ble_eq_true rfl) (Nat.le_of_ble_eq_true rfl) hP hS (⟨er_1, rfl⟩) d_F_isPerson_7
theorem k_F_90 {p : Program} {l : Launch} {e : Env} {R : Room} {s : State} {m : MethodId} {args : Array Value} {below : List Frame} {meth : Method} {c : Code} {H : Heap} {locs : List Loc} {cells slots : Nat} {Q : State → Prop} {cc : ByteArray} {pc : Nat} {ls : Array Slot} {rest : List Value} {D : va_G} {A : Nat → Prop} {t : Nat → ClassId} {g : hG} {nL : Nat} {ret0 : Option FieldType} {nm : String} (X : Cx p s m args meth c R_F cc nL ret0 TB D vwCl (tyL t) EX A nm) (hR : 1 + 1 ≤ R.frames ∧ 8 + (1 + 11) + 22 ≤ R.locals) (hf : cells + 0 ≤ R.cells ∧ slots + 0 ≤ R.slots) (hls : ls.size = nL) (hP : hw D vwCl A g H) (hS : va_S A s.heap H locs) {x : Int32}  (hW : (rest.map fun v => v.category).sum ≤ 8) (hdg : decode cc pc = .ok (.invokestatic 90, 3)) (kk : ∀ (r : Int32) (H1 : Heap) (locs1 : List Loc), r = bi (wi x 0 29) → hw D vwCl A (g) H1 → va_S A s.heap H1 locs1 → W p l e R s m args below meth c H1 locs1 (cells + 0) (slots + 0) Q (F0 m (pc + 3) ls (.int r :: rest))) : W p l e R s m args below meth c H locs cells slots Q (F0 m pc ls (.int x :: rest)) :=
  h_ci (runS X (c_F_isPerson l D t A g x ) (tbm 165 (by decide +kernel)) (tbm 166 (by decide +kernel)) (tbm 20 (by decide +kernel)) (tbm 167 (by decide +kernel)) (n := 1) (by decide +kernel) hR hf hP hS hls rfl rfl hW hdg) hS (fun r u H1 locs1 hp hP1 hS1 => kk r H1 locs1 hp.1 (hp.2 ▸ hP1) hS1)

set_option maxRecDepth 100000 in
theorem c_F_isItem (l : Launch) (D : va_G) (t : Nat → ClassId) (A : Nat → Prop) (g : hG) (x : Int32) : Met l y_F_isItem (Cond.code y_F_isItem b_F_isItem 1 (some .boolean) :: TB) ({ frames := 1, cells := 0, slots := 0, locals := 22 } : Room) (va_Pc [.int x] (hI D vwCl (tyL t) EX A g)) (va_Qi (fun r u => r = bi (wi x 0 59) ∧ u = g) (fun u v => hw D vwCl A u v.heap) A) 0 0 A := by
  refine Met.ofH (cc := b_F_isItem) (maxL := 1) (ret := (some .boolean)) (lv := [(0, .int x)]) (by decide) (Nat.le_of_ble_eq_true rfl) rfl ?_
  intro p e s m below meth c ls X hP hS hl
  obtain ⟨hx, hb, hml, hr, hts, hown, hlocks, hK, hEs, hA, hnm⟩ := id X
  refine lv_iload_n hx hb d_F_isItem_0 rfl (lv_at hl 0 rfl) ?_
  refine lv_iconst (v := 0) hx hb d_F_isItem_1 (by decide) ?_
  refine lv_bipush (v := 59) hx hb d_F_isItem_2 (by decide) ?_
  refine k_F_47 X ⟨Nat.le_of_ble_eq_true rfl, Nat.le_of_ble_eq_true rfl⟩ ⟨Nat.le_of_ble_eq_true rfl, Nat.le_of_ble_eq_true rfl⟩ hl.1 hP hS (by exact Nat.le_of_ble_eq_true rfl) d_F_isItem_4 (fun r_1 H locs er_1 hP hS => ?_)
  exact h_zret hx hb hr hlocks (by rw [er_1]; exact bi_nar _) (Nat.le_of_ble_eq_true rfl) (Nat.le_of_ble_eq_true rfl) hP hS (⟨er_1, rfl⟩) d_F_isItem_7
theorem k_F_86 {p : Program} {l : Launch} {e : Env} {R : Room} {s : State} {m : MethodId} {args : Array Value} {below : List Frame} {meth : Method} {c : Code} {H : Heap} {locs : List Loc} {cells slots : Nat} {Q : State → Prop} {cc : ByteArray} {pc : Nat} {ls : Array Slot} {rest : List Value} {D : va_G} {A : Nat → Prop} {t : Nat → ClassId} {g : hG} {nL : Nat} {ret0 : Option FieldType} {nm : String} (X : Cx p s m args meth c R_F cc nL ret0 TB D vwCl (tyL t) EX A nm) (hR : 1 + 1 ≤ R.frames ∧ 8 + (1 + 11) + 22 ≤ R.locals) (hf : cells + 0 ≤ R.cells ∧ slots + 0 ≤ R.slots) (hls : ls.size = nL) (hP : hw D vwCl A g H) (hS : va_S A s.heap H locs) {x : Int32}  (hW : (rest.map fun v => v.category).sum ≤ 8) (hdg : decode cc pc = .ok (.invokestatic 86, 3)) (kk : ∀ (r : Int32) (H1 : Heap) (locs1 : List Loc), r = bi (wi x 0 59) → hw D vwCl A (g) H1 → va_S A s.heap H1 locs1 → W p l e R s m args below meth c H1 locs1 (cells + 0) (slots + 0) Q (F0 m (pc + 3) ls (.int r :: rest))) : W p l e R s m args below meth c H locs cells slots Q (F0 m pc ls (.int x :: rest)) :=
  h_ci (runS X (c_F_isItem l D t A g x ) (tbm 162 (by decide +kernel)) (tbm 163 (by decide +kernel)) (tbm 20 (by decide +kernel)) (tbm 164 (by decide +kernel)) (n := 1) (by decide +kernel) hR hf hP hS hls rfl rfl hW hdg) hS (fun r u H1 locs1 hp hP1 hS1 => kk r H1 locs1 hp.1 (hp.2 ▸ hP1) hS1)

set_option maxRecDepth 100000 in
theorem c_R_centsFor (l : Launch) (D : va_G) (t : Nat → ClassId) (A : Nat → Prop) (g : hG) (a : Nat) (v : RV) (d : Int64) (he : g a = some (cRu v)) : Met l y_R_centsFor (Cond.code y_R_centsFor b_R_centsFor 3 (some .long) :: TB) ({ frames := 1, cells := 0, slots := 0, locals := 24 } : Room) (va_Pc [.ref a, .long d] (hI D vwCl (tyL t) EX A g)) (va_Ql (fun r u => r = rvCents v d ∧ u = g) (fun u v => hw D vwCl A u v.heap) A) 0 0 A := by
  refine Met.ofH (cc := b_R_centsFor) (maxL := 3) (ret := (some .long)) (lv := [(0, .ref a), (1, .long d)]) (by decide) (Nat.le_of_ble_eq_true rfl) rfl ?_
  intro p e s m below meth c ls X hP hS hl
  obtain ⟨hx, hb, hml, hr, hts, hown, hlocks, hK, hEs, hA, hnm⟩ := id X
  refine lv_lload_n hx hb d_R_centsFor_0 rfl (lv_at hl 1 rfl) ?_
  refine lv_aload_n hx hb d_R_centsFor_1 rfl (lv_at hl 0 rfl) ?_
  refine g_R_16 X hb hP he rfl d_R_centsFor_2 ?_
  refine lv_i2l hx hb d_R_centsFor_5 rfl ?_
  refine W.lcmp hx hb d_R_centsFor_6 ?_
  refine lv_if_le (tgt := 28) hx hb d_R_centsFor_7 (by decide) (fun c_1 => ?_) (fun c_1 => ?_)
  · rw [lg_cmp_le] at c_1
    refine lv_lconst (v := 0) hx hb d_R_centsFor_28 (by decide) ?_
    exact h_lret hx hb hr hlocks (Nat.le_of_ble_eq_true rfl) (Nat.le_of_ble_eq_true rfl) hP hS (⟨by simp [rvCents, mnJ, c_1], rfl⟩) d_R_centsFor_29
  · rw [lg_cmp_le] at c_1
    refine lv_lload_n hx hb d_R_centsFor_10 rfl (lv_at hl 1 rfl) ?_
    refine lv_aload_n hx hb d_R_centsFor_11 rfl (lv_at hl 0 rfl) ?_
    refine g_R_7 X hb hP he rfl d_R_centsFor_12 ?_
    refine lv_i2l hx hb d_R_centsFor_15 rfl ?_
    refine lv_lmul hx hb d_R_centsFor_16 ?_
    refine lv_aload_n hx hb d_R_centsFor_17 rfl (lv_at hl 0 rfl) ?_
    refine g_R_13 X hb hP he rfl d_R_centsFor_18 ?_
    refine lv_i2l hx hb d_R_centsFor_21 rfl ?_
    refine va_mmin_long hx hb (by rw [hml]; exact hl.1.symm) hown (hts _ (tbm 225 (by decide +kernel))) (hts _ (tbm 226 (by decide +kernel))) (hts _ (tbm 30 (by decide +kernel))) (hts _ (tbm 227 (by decide +kernel))) (Nat.le_of_ble_eq_true rfl) (Nat.le_of_ble_eq_true rfl) (Nat.le_of_ble_eq_true rfl) (Nat.le_of_ble_eq_true rfl) d_R_centsFor_22 ?_
    refine lv_goto (tgt := 29) hx hb d_R_centsFor_25 (by decide) ?_
    exact h_lret hx hb hr hlocks (Nat.le_of_ble_eq_true rfl) (Nat.le_of_ble_eq_true rfl) hP hS (⟨by simp [rvCents, mnJ, c_1], rfl⟩) d_R_centsFor_29
theorem k_F_205 {p : Program} {l : Launch} {e : Env} {R : Room} {s : State} {m : MethodId} {args : Array Value} {below : List Frame} {meth : Method} {c : Code} {H : Heap} {locs : List Loc} {cells slots : Nat} {Q : State → Prop} {cc : ByteArray} {pc : Nat} {ls : Array Slot} {rest : List Value} {D : va_G} {A : Nat → Prop} {t : Nat → ClassId} {g : hG} {nL : Nat} {ret0 : Option FieldType} {nm : String} (X : Cx p s m args meth c R_F cc nL ret0 TB D vwCl (tyL t) EX A nm) (hR : 1 + 1 ≤ R.frames ∧ 8 + (3 + 11) + 24 ≤ R.locals) (hf : cells + 0 ≤ R.cells ∧ slots + 0 ≤ R.slots) (hls : ls.size = nL) (hP : hw D vwCl A g H) (hS : va_S A s.heap H locs) {a : Nat} {v : RV} {d : Int64} {fs9 : List Value} (he9 : g a = some (.inr (5, fs9))) (he : g a = some (cRu v)) (hW : (rest.map fun v => v.category).sum ≤ 8) (hdg : decode cc pc = .ok (.invokevirtual 205, 3)) (kk : ∀ (r : Int64) (H1 : Heap) (locs1 : List Loc), r = rvCents v d → hw D vwCl A (g) H1 → va_S A s.heap H1 locs1 → W p l e R s m args below meth c H1 locs1 (cells + 0) (slots + 0) Q (F0 m (pc + 3) ls (.long r :: rest))) : W p l e R s m args below meth c H locs cells slots Q (F0 m pc ls (.long d :: .ref a :: rest)) :=
  h_cl (runV (C := R_R) (T := F_R) (N := 5) X (c_R_centsFor l D t A g a v d he) (tbm 221 (by decide +kernel)) (tbm 222 (by decide +kernel)) (tbm 223 (by decide +kernel)) (tbm 24 (by decide +kernel)) (tbm 224 (by decide +kernel)) rfl (n := 1) (by decide +kernel) hR hf hP he9 hS hls rfl rfl hW hdg) hS (fun r u H1 locs1 hp hP1 hS1 => kk r H1 locs1 hp.1 (hp.2 ▸ hP1) hS1)

set_option maxRecDepth 100000 in
theorem c_R_interestFor (l : Launch) (D : va_G) (t : Nat → ClassId) (A : Nat → Prop) (g : hG) (a : Nat) (v : RV) (x n : Int64) (he : g a = some (cRu v)) : Met l y_R_interestFor (Cond.code y_R_interestFor b_R_interestFor 5 (some .long) :: TB) ({ frames := 0, cells := 0, slots := 0, locals := 0 } : Room) (va_Pc [.ref a, .long x, .long n] (hI D vwCl (tyL t) EX A g)) (va_Ql (fun r u => r = rvInt v x n ∧ u = g) (fun u v => hw D vwCl A u v.heap) A) 0 0 A := by
  refine Met.ofH (cc := b_R_interestFor) (maxL := 5) (ret := (some .long)) (lv := [(0, .ref a), (1, .long x), (3, .long n)]) (by decide) (Nat.le_of_ble_eq_true rfl) rfl ?_
  intro p e s m below meth c ls X hP hS hl
  obtain ⟨hx, hb, hml, hr, hts, hown, hlocks, hK, hEs, hA, hnm⟩ := id X
  refine lv_aload_n hx hb d_R_interestFor_0 rfl (lv_at hl 0 rfl) ?_
  refine g_R_25 X hb hP he rfl d_R_interestFor_1 ?_
  refine lv_if_le (tgt := 25) hx hb d_R_interestFor_4 (by decide) (fun c_1 => ?_) (fun c_1 => ?_)
  · refine lv_lconst (v := 0) hx hb d_R_interestFor_25 (by decide) ?_
    exact h_lret hx hb hr hlocks (Nat.le_of_ble_eq_true rfl) (Nat.le_of_ble_eq_true rfl) hP hS (⟨by simp [rvInt, c_1], rfl⟩) d_R_interestFor_26
  · refine lv_lload_n hx hb d_R_interestFor_7 rfl (lv_at hl 1 rfl) ?_
    refine lv_aload_n hx hb d_R_interestFor_8 rfl (lv_at hl 0 rfl) ?_
    refine g_R_28 X hb hP he rfl d_R_interestFor_9 ?_
    refine lv_i2l hx hb d_R_interestFor_12 rfl ?_
    refine lv_lmul hx hb d_R_interestFor_13 ?_
    refine lv_lload_n hx hb d_R_interestFor_14 rfl (lv_at hl 2 rfl) ?_
    refine lv_lmul hx hb d_R_interestFor_15 ?_
    refine lv_aload_n hx hb d_R_interestFor_16 rfl (lv_at hl 0 rfl) ?_
    refine g_R_25 X hb hP he rfl d_R_interestFor_17 ?_
    refine lv_i2l hx hb d_R_interestFor_20 rfl ?_
    refine lv_ldiv hx hb d_R_interestFor_21 (toI64_ne0 c_1) ?_
    refine lv_goto (tgt := 26) hx hb d_R_interestFor_22 (by decide) ?_
    exact h_lret hx hb hr hlocks (Nat.le_of_ble_eq_true rfl) (Nat.le_of_ble_eq_true rfl) hP hS (⟨by simp [rvInt, c_1], rfl⟩) d_R_interestFor_26
theorem k_D_47 {p : Program} {l : Launch} {e : Env} {R : Room} {s : State} {m : MethodId} {args : Array Value} {below : List Frame} {meth : Method} {c : Code} {H : Heap} {locs : List Loc} {cells slots : Nat} {Q : State → Prop} {cc : ByteArray} {pc : Nat} {ls : Array Slot} {rest : List Value} {D : va_G} {A : Nat → Prop} {t : Nat → ClassId} {g : hG} {nL : Nat} {ret0 : Option FieldType} {nm : String} (X : Cx p s m args meth c R_D cc nL ret0 TB D vwCl (tyL t) EX A nm) (hR : 0 + 1 ≤ R.frames ∧ 8 + (5 + 11) + 0 ≤ R.locals) (hf : cells + 0 ≤ R.cells ∧ slots + 0 ≤ R.slots) (hls : ls.size = nL) (hP : hw D vwCl A g H) (hS : va_S A s.heap H locs) {a : Nat} {v : RV} {x n : Int64} {fs9 : List Value} (he9 : g a = some (.inr (5, fs9))) (he : g a = some (cRu v)) (hW : (rest.map fun v => v.category).sum ≤ 8) (hdg : decode cc pc = .ok (.invokevirtual 47, 3)) (kk : ∀ (r : Int64) (H1 : Heap) (locs1 : List Loc), r = rvInt v x n → hw D vwCl A (g) H1 → va_S A s.heap H1 locs1 → W p l e R s m args below meth c H1 locs1 (cells + 0) (slots + 0) Q (F0 m (pc + 3) ls (.long r :: rest))) : W p l e R s m args below meth c H locs cells slots Q (F0 m pc ls (.long n :: .long x :: .ref a :: rest)) :=
  h_cl (runV (C := R_R) (T := F_R) (N := 5) X (c_R_interestFor l D t A g a v x n he) (tbm 345 (by decide +kernel)) (tbm 346 (by decide +kernel)) (tbm 347 (by decide +kernel)) (tbm 24 (by decide +kernel)) (tbm 348 (by decide +kernel)) rfl (n := 2) (by decide +kernel) hR hf hP he9 hS hls rfl rfl hW hdg) hS (fun r u H1 locs1 hp hP1 hS1 => kk r H1 locs1 hp.1 (hp.2 ▸ hP1) hS1)
