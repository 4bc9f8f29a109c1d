set_option maxRecDepth 100000 in
theorem c_B_numbered (l : Launch) (D : va_G) (t : Nat → ClassId) (A : Nat → Prop) (g : hG) (a bn bd n : Nat) (fN : Nat → Option Nat) (x : Int32) (he : g a = some (cBr bn bd (nI n))) (ha : g bn = some (arQ t 5 200 fN)) (hn : n ≤ 200) : Met l y_B_numbered (Cond.code y_B_numbered b_B_numbered 2 (some (.object "FineRows$Debt")) :: TB) ({ frames := 1, cells := 0, slots := 0, locals := 22 } : Room) (va_Pc [.ref a, .int x] (hI D vwCl (tyL t) EX A g)) (va_Qq (fun r u => r = numQ fN n x ∧ u = g) (fun u v => hw D vwCl A u v.heap) A) 0 0 A := by
  refine Met.ofH (cc := b_B_numbered) (maxL := 2) (ret := (some (.object "FineRows$Debt"))) (lv := [(0, .ref a), (1, .int x)]) (by decide) (Nat.le_of_ble_eq_true rfl) rfl ?_
  intro p e s m below meth c ls X hP hS hl
  obtain ⟨hx, hb, hml, hr, hts, hown, hlocks, hK, hEs, hA, hnm⟩ := id X
  refine lv_iload_n hx hb d_B_numbered_0 rfl (lv_at hl 1 rfl) ?_
  refine lv_iconst (v := 1) hx hb d_B_numbered_1 (by decide) ?_
  refine lv_aload_n hx hb d_B_numbered_2 rfl (lv_at hl 0 rfl) ?_
  refine g_B_20 X hb hP he rfl d_B_numbered_3 ?_
  refine k_B_24 X ⟨Nat.le_of_ble_eq_true rfl, Nat.le_of_ble_eq_true rfl⟩ ⟨Nat.le_of_ble_eq_true rfl, Nat.le_of_ble_eq_true rfl⟩ hl.1 hP hS (by exact Nat.le_of_ble_eq_true rfl) d_B_numbered_6 (fun r_1 H locs er_1 hP hS => ?_)
  refine lv_if_eq (tgt := 23) hx hb d_B_numbered_9 (by decide) (fun c_2 => ?_) (fun c_2 => ?_)
  · have t_1 := bi_0.mp (er_1 ▸ c_2)
    refine lv_null hx hb d_B_numbered_23 ?_
    exact h_aret (r := none) hx hb hr hlocks (Nat.le_of_ble_eq_true rfl) (Nat.le_of_ble_eq_true rfl) hP hS (⟨(numQ_no (bi_0.mp (er_1 ▸ c_2))).symm, rfl⟩) d_B_numbered_24
  · have t_1 := bi_n0.mp (er_1 ▸ c_2)
    obtain ⟨k, hk, rfl⟩ := wi_num (by omega) (bi_n0.mp (er_1 ▸ c_2))
    refine lv_aload_n hx hb d_B_numbered_12 rfl (lv_at hl 0 rfl) ?_
    refine g_B_11 X hb hP he rfl d_B_numbered_13 ?_
    refine lv_iload_n hx hb d_B_numbered_16 rfl (lv_at hl 1 rfl) ?_
    refine lv_iconst (v := 1) hx hb d_B_numbered_17 (by decide) ?_
    refine lv_isub hx hb d_B_numbered_18 ?_
    rw [nI_pred]
    refine n_aald X hb hP 5 ha rfl ⟨by omega, by decide⟩ d_B_numbered_19 ?_
    refine lv_goto (tgt := 24) hx hb d_B_numbered_20 (by decide) ?_
    exact h_aret (r := (fN k)) hx hb hr hlocks (Nat.le_of_ble_eq_true rfl) (Nat.le_of_ble_eq_true rfl) hP hS (⟨(numQ_at (by omega) hk).symm, rfl⟩) d_B_numbered_24
theorem k_F_124 {p : Program} {l : Launch} {e : Env} {R : Room} {s : State} {m : MethodId} {args : Array Value} {below : List Frame} {meth : Method} {c : Code} {H : Heap} {locs : List Loc} {cells slots : Nat} {Q : State → Prop} {cc : ByteArray} {pc : Nat} {ls : Array Slot} {rest : List Value} {D : va_G} {A : Nat → Prop} {t : Nat → ClassId} {g : hG} {nL : Nat} {ret0 : Option FieldType} {nm : String} (X : Cx p s m args meth c R_F cc nL ret0 TB D vwCl (tyL t) EX A nm) (hR : 1 + 1 ≤ R.frames ∧ 8 + (2 + 11) + 22 ≤ R.locals) (hf : cells + 0 ≤ R.cells ∧ slots + 0 ≤ R.slots) (hls : ls.size = nL) (hP : hw D vwCl A g H) (hS : va_S A s.heap H locs) {a bn bd n : Nat} {fN : Nat → Option Nat} {x : Int32} {fs9 : List Value} (he9 : g a = some (.inr (3, fs9))) (he : g a = some (cBr bn bd (nI n))) (ha : g bn = some (arQ t 5 200 fN)) (hn : n ≤ 200) (hW : (rest.map fun v => v.category).sum ≤ 8) (hdg : decode cc pc = .ok (.invokevirtual 124, 3)) (kk : ∀ (r : Option Nat) (H1 : Heap) (locs1 : List Loc), r = numQ fN n x → hw D vwCl A (g) H1 → va_S A s.heap H1 locs1 → W p l e R s m args below meth c H1 locs1 (cells + 0) (slots + 0) Q (F0 m (pc + 3) ls (va_rf r :: rest))) : W p l e R s m args below meth c H locs cells slots Q (F0 m pc ls (.int x :: .ref a :: rest)) :=
  h_cq (runV (C := R_B) (T := F_B) (N := 3) X (c_B_numbered l D t A g a bn bd n fN x he ha hn) (tbm 292 (by decide +kernel)) (tbm 293 (by decide +kernel)) (tbm 294 (by decide +kernel)) (tbm 21 (by decide +kernel)) (tbm 295 (by decide +kernel)) rfl (n := 1) (by decide +kernel) hR hf hP he9 hS hls rfl rfl hW hdg) hS (fun r u H1 locs1 hp hP1 hS1 => kk r H1 locs1 hp.1 (hp.2 ▸ hP1) hS1)

set_option maxRecDepth 100000 in
theorem c_B_inOrder (l : Launch) (D : va_G) (t : Nat → ClassId) (A : Nat → Prop) (g : hG) (a bn bd n : Nat) (fB : Nat → Option Nat) (x : Int32) (he : g a = some (cBr bn bd (nI n))) (ha : g bd = some (arQ t 5 200 fB)) (hn : n ≤ 200) : Met l y_B_inOrder (Cond.code y_B_inOrder b_B_inOrder 2 (some (.object "FineRows$Debt")) :: TB) ({ frames := 1, cells := 0, slots := 0, locals := 22 } : Room) (va_Pc [.ref a, .int x] (hI D vwCl (tyL t) EX A g)) (va_Qq (fun r u => r = ordQ fB n x ∧ u = g) (fun u v => hw D vwCl A u v.heap) A) 0 0 A := by
  refine Met.ofH (cc := b_B_inOrder) (maxL := 2) (ret := (some (.object "FineRows$Debt"))) (lv := [(0, .ref a), (1, .int x)]) (by decide) (Nat.le_of_ble_eq_true rfl) rfl ?_
  intro p e s m below meth c ls X hP hS hl
  obtain ⟨hx, hb, hml, hr, hts, hown, hlocks, hK, hEs, hA, hnm⟩ := id X
  refine lv_iload_n hx hb d_B_inOrder_0 rfl (lv_at hl 1 rfl) ?_
  refine lv_iconst (v := 0) hx hb d_B_inOrder_1 (by decide) ?_
  refine lv_aload_n hx hb d_B_inOrder_2 rfl (lv_at hl 0 rfl) ?_
  refine g_B_20 X hb hP he rfl d_B_inOrder_3 ?_
  refine lv_iconst (v := 1) hx hb d_B_inOrder_6 (by decide) ?_
  refine lv_isub hx hb d_B_inOrder_7 ?_
  refine k_B_24 X ⟨Nat.le_of_ble_eq_true rfl, Nat.le_of_ble_eq_true rfl⟩ ⟨Nat.le_of_ble_eq_true rfl, Nat.le_of_ble_eq_true rfl⟩ hl.1 hP hS (by exact Nat.le_of_ble_eq_true rfl) d_B_inOrder_8 (fun r_1 H locs er_1 hP hS => ?_)
  refine lv_if_eq (tgt := 23) hx hb d_B_inOrder_11 (by decide) (fun c_2 => ?_) (fun c_2 => ?_)
  · have t_1 := bi_0.mp (er_1 ▸ c_2)
    refine lv_null hx hb d_B_inOrder_23 ?_
    exact h_aret (r := none) hx hb hr hlocks (Nat.le_of_ble_eq_true rfl) (Nat.le_of_ble_eq_true rfl) hP hS (⟨(ordQ_no (bi_0.mp (er_1 ▸ c_2))).symm, rfl⟩) d_B_inOrder_24
  · have t_1 := bi_n0.mp (er_1 ▸ c_2)
    obtain ⟨k, hk, rfl⟩ := wi_ord (by omega) (bi_n0.mp (er_1 ▸ c_2))
    refine lv_aload_n hx hb d_B_inOrder_14 rfl (lv_at hl 0 rfl) ?_
    refine g_B_17 X hb hP he rfl d_B_inOrder_15 ?_
    refine lv_iload_n hx hb d_B_inOrder_18 rfl (lv_at hl 1 rfl) ?_
    refine n_aald X hb hP 5 ha rfl ⟨by omega, by decide⟩ d_B_inOrder_19 ?_
    refine lv_goto (tgt := 24) hx hb d_B_inOrder_20 (by decide) ?_
    exact h_aret (r := (fB k)) hx hb hr hlocks (Nat.le_of_ble_eq_true rfl) (Nat.le_of_ble_eq_true rfl) hP hS (⟨(ordQ_at (by omega) hk).symm, rfl⟩) d_B_inOrder_24
theorem k_F_149 {p : Program} {l : Launch} {e : Env} {R : Room} {s : State} {m : MethodId} {args : Array Value} {below : List Frame} {meth : Method} {c : Code} {H : Heap} {locs : List Loc} {cells slots : Nat} {Q : State → Prop} {cc : ByteArray} {pc : Nat} {ls : Array Slot} {rest : List Value} {D : va_G} {A : Nat → Prop} {t : Nat → ClassId} {g : hG} {nL : Nat} {ret0 : Option FieldType} {nm : String} (X : Cx p s m args meth c R_F cc nL ret0 TB D vwCl (tyL t) EX A nm) (hR : 1 + 1 ≤ R.frames ∧ 8 + (2 + 11) + 22 ≤ R.locals) (hf : cells + 0 ≤ R.cells ∧ slots + 0 ≤ R.slots) (hls : ls.size = nL) (hP : hw D vwCl A g H) (hS : va_S A s.heap H locs) {a bn bd n : Nat} {fB : Nat → Option Nat} {x : Int32} {fs9 : List Value} (he9 : g a = some (.inr (3, fs9))) (he : g a = some (cBr bn bd (nI n))) (ha : g bd = some (arQ t 5 200 fB)) (hn : n ≤ 200) (hW : (rest.map fun v => v.category).sum ≤ 8) (hdg : decode cc pc = .ok (.invokevirtual 149, 3)) (kk : ∀ (r : Option Nat) (H1 : Heap) (locs1 : List Loc), r = ordQ fB n x → hw D vwCl A (g) H1 → va_S A s.heap H1 locs1 → W p l e R s m args below meth c H1 locs1 (cells + 0) (slots + 0) Q (F0 m (pc + 3) ls (va_rf r :: rest))) : W p l e R s m args below meth c H locs cells slots Q (F0 m pc ls (.int x :: .ref a :: rest)) :=
  h_cq (runV (C := R_B) (T := F_B) (N := 3) X (c_B_inOrder l D t A g a bn bd n fB x he ha hn) (tbm 309 (by decide +kernel)) (tbm 310 (by decide +kernel)) (tbm 311 (by decide +kernel)) (tbm 21 (by decide +kernel)) (tbm 312 (by decide +kernel)) rfl (n := 1) (by decide +kernel) hR hf hP he9 hS hls rfl rfl hW hdg) hS (fun r u H1 locs1 hp hP1 hS1 => kk r H1 locs1 hp.1 (hp.2 ▸ hP1) hS1)

set_option maxHeartbeats 4000000 in
set_option maxRecDepth 100000 in
theorem lp_B_leftOf {p : Program} {l : Launch} {e : Env} {s : State} {m : MethodId} {below : List Frame} {meth : Method} {c : Code} {D : va_G} {t : Nat → ClassId} {A : Nat → Prop} (g : hG) (a bn bd n : Nat) (fN : Nat → Option Nat) (aN : Nat → Nat) (dv : Nat → DC) (x : Int32) (he : g a = some (cBr bn bd (nI n))) (ha : g bn = some (arQ t 5 200 fN)) (hn : n ≤ 200) (hN : ∀ i, i < n → fN i = some (aN i)) (hD : ∀ i, i < n → g (aN i) = some (cDv (dv i))) (X : Cx p s m ([.ref a, .int x] : List Value).toArray meth c R_B b_B_leftOf 6 (some .long) TB D vwCl (tyL t) EX A "leftOf") : ∀ (k : Nat) (i : Nat) (b : Int64) (H : Heap) (locs : List Loc) (ls : Array Slot) (_ : i ≤ n) (_ : n + 1 ≤ i + k) (_ : b = sLe dv x i) (_ : hw D vwCl A g H) (_ : va_S A s.heap H locs) (_ : lv_has ls 6 [(4, .int (nI i)), (2, .long b), (0, .ref a), (1, .int x)]), W p l e ({ frames := 0, cells := 0, slots := 0, locals := 0 } : Room) s m ([.ref a, .int x] : List Value).toArray below meth c H locs 0 0 (MQ below (va_Ql (fun r u => r = sLe dv x n ∧ u = g) (fun u v => hw D vwCl A u v.heap) A) ([.ref a, .int x] : List Value).toArray s 0 0 A) (F0 m 5 ls []) := by
  obtain ⟨hx, hb, hml, hr, hts, hown, hlocks, hK, hEs, hA, hnm⟩ := id X
  intro k
  induction k with
  | zero => exact fun i b H locs ls h1 h2 => absurd h2 (by omega)
  | succ k ih =>
    intro i b H locs ls hi hk hbt hP hS hl
    refine lv_iload hx hb d_B_leftOf_5 (lv_at hl 0 rfl) ?_
    refine lv_aload_n hx hb d_B_leftOf_7 rfl (lv_at hl 2 rfl) ?_
    refine g_B_20 X hb hP he rfl d_B_leftOf_8 ?_
    refine lv_icmp_ge (tgt := 51) hx hb d_B_leftOf_11 (by decide) (fun c_1 => ?_) (fun c_1 => ?_)
    · refine lv_lload_n hx hb d_B_leftOf_51 rfl (lv_at hl 1 rfl) ?_
      exact h_lret hx hb hr hlocks (Nat.le_of_ble_eq_true rfl) (Nat.le_of_ble_eq_true rfl) hP hS (⟨by rw [hbt, show i = n from Nat.le_antisymm hi ((nI_leI (by omega) (by omega)).mp c_1)], rfl⟩) d_B_leftOf_52
    · have hlt : i < n := Nat.lt_of_not_le (fun q => c_1 (nI_le q (by omega)))
      refine lv_aload_n hx hb d_B_leftOf_14 rfl (lv_at hl 2 rfl) ?_
      refine g_B_11 X hb hP he rfl d_B_leftOf_15 ?_
      refine lv_iload hx hb d_B_leftOf_18 (lv_at hl 0 rfl) ?_
      refine n_aald X hb hP 5 ha rfl ⟨by omega, by decide⟩ d_B_leftOf_20 ?_
      refine lv_some (y := (aN i)) (hN i hlt) ?_
      refine lv_astore (lv' := [(5, .ref (aN i)), (4, .int (nI i)), (2, .long b), (0, .ref a), (1, .int x)]) hx hb d_B_leftOf_21 hl (by decide) rfl (fun ls hl => ?_)
      refine lv_aload hx hb d_B_leftOf_23 (lv_at hl 0 rfl) ?_
      refine lv_ifnull hx hb d_B_leftOf_25 ?_
      refine lv_aload hx hb d_B_leftOf_28 (lv_at hl 0 rfl) ?_
      refine g_B_43 X hb hP (hD i hlt) rfl d_B_leftOf_30 ?_
      refine lv_iload_n hx hb d_B_leftOf_33 rfl (lv_at hl 4 rfl) ?_
      refine lv_icmp_ne (tgt := 45) hx hb d_B_leftOf_34 (by decide) (fun c_2 => ?_) (fun c_2 => ?_)
      · obtain ⟨x_3, ex_3⟩ : ∃ z : Int32, z = (nI i) + 1 := ⟨_, rfl⟩
        refine lv_iinc (v := x_3) (lv' := [(4, .int x_3), (5, .ref (aN i)), (2, .long b), (0, .ref a), (1, .int x)]) hx hb d_B_leftOf_45 hl (k := 1) rfl (by rw [ex_3]; rfl) (by decide) rfl (fun ls hl => ?_)
        refine lv_goto (tgt := 5) hx hb d_B_leftOf_48 (by decide) ?_
        obtain rfl : x_3 = nI (i + 1) := by rw [ex_3]; exact nI_1 i
        exact ih (i + 1) b H locs ls (by omega) (by omega) (by rw [sLe_n c_2]; exact hbt) hP hS (lv_sub hl [0, 2, 3, 4] rfl)
      · refine lv_lload_n hx hb d_B_leftOf_37 rfl (lv_at hl 2 rfl) ?_
        refine lv_aload hx hb d_B_leftOf_38 (lv_at hl 0 rfl) ?_
        refine g_B_46 X hb hP (hD i hlt) rfl d_B_leftOf_40 ?_
        refine lv_ladd hx hb d_B_leftOf_43 ?_
        refine lv_topl (fun x_4 ex_4 => ?_)
        refine lv_lstore_n (lv' := [(2, .long x_4), (5, .ref (aN i)), (4, .int (nI i)), (0, .ref a), (1, .int x)]) hx hb d_B_leftOf_44 rfl hl (by decide) rfl (fun ls hl => ?_)
        obtain ⟨x_5, ex_5⟩ : ∃ z : Int32, z = (nI i) + 1 := ⟨_, rfl⟩
        refine lv_iinc (v := x_5) (lv' := [(4, .int x_5), (2, .long x_4), (5, .ref (aN i)), (0, .ref a), (1, .int x)]) hx hb d_B_leftOf_45 hl (k := 2) rfl (by rw [ex_5]; rfl) (by decide) rfl (fun ls hl => ?_)
        refine lv_goto (tgt := 5) hx hb d_B_leftOf_48 (by decide) ?_
        obtain rfl : x_5 = nI (i + 1) := by rw [ex_5]; exact nI_1 i
        exact ih (i + 1) x_4 H locs ls (by omega) (by omega) (by rw [ex_4, hbt, sLe_y c_2]) hP hS (lv_sub hl [0, 1, 3, 4] rfl)

set_option maxRecDepth 100000 in
theorem c_B_leftOf (l : Launch) (D : va_G) (t : Nat → ClassId) (A : Nat → Prop) (g : hG) (a bn bd n : Nat) (fN : Nat → Option Nat) (aN : Nat → Nat) (dv : Nat → DC) (x : Int32) (he : g a = some (cBr bn bd (nI n))) (ha : g bn = some (arQ t 5 200 fN)) (hn : n ≤ 200) (hN : ∀ i, i < n → fN i = some (aN i)) (hD : ∀ i, i < n → g (aN i) = some (cDv (dv i))) : Met l y_B_leftOf (Cond.code y_B_leftOf b_B_leftOf 6 (some .long) :: TB) ({ frames := 0, cells := 0, slots := 0, locals := 0 } : Room) (va_Pc [.ref a, .int x] (hI D vwCl (tyL t) EX A g)) (va_Ql (fun r u => r = sLe dv x n ∧ u = g) (fun u v => hw D vwCl A u v.heap) A) 0 0 A := by
  refine Met.ofH (cc := b_B_leftOf) (maxL := 6) (ret := (some .long)) (lv := [(0, .ref a), (1, .int x)]) (by decide) (Nat.le_of_ble_eq_true rfl) rfl ?_
  intro p e s m below meth c ls X hP hS hl
  obtain ⟨hx, hb, hml, hr, hts, hown, hlocks, hK, hEs, hA, hnm⟩ := id X
  refine lv_lconst (v := 0) hx hb d_B_leftOf_0 (by decide) ?_
  refine lv_lstore_n (lv' := [(2, .long 0), (0, .ref a), (1, .int x)]) hx hb d_B_leftOf_1 rfl hl (by decide) rfl (fun ls hl => ?_)
  refine lv_iconst (v := 0) hx hb d_B_leftOf_2 (by decide) ?_
  refine lv_istore (lv' := [(4, .int 0), (2, .long 0), (0, .ref a), (1, .int x)]) hx hb d_B_leftOf_3 hl (by decide) rfl (fun ls hl => ?_)
  exact lp_B_leftOf g a bn bd n fN aN dv x he ha hn hN hD X (n + 1) 0 0 _ _ ls (Nat.zero_le n) (by omega) rfl hP hS (lv_sub hl [0, 1, 2, 3] rfl)
theorem k_F_175 {p : Program} {l : Launch} {e : Env} {R : Room} {s : State} {m : MethodId} {args : Array Value} {below : List Frame} {meth : Method} {c : Code} {H : Heap} {locs : List Loc} {cells slots : Nat} {Q : State → Prop} {cc : ByteArray} {pc : Nat} {ls : Array Slot} {rest : List Value} {D : va_G} {A : Nat → Prop} {t : Nat → ClassId} {g : hG} {nL : Nat} {ret0 : Option FieldType} {nm : String} (X : Cx p s m args meth c R_F cc nL ret0 TB D vwCl (tyL t) EX A nm) (hR : 0 + 1 ≤ R.frames ∧ 8 + (6 + 11) + 0 ≤ R.locals) (hf : cells + 0 ≤ R.cells ∧ slots + 0 ≤ R.slots) (hls : ls.size = nL) (hP : hw D vwCl A g H) (hS : va_S A s.heap H locs) {a bn bd n : Nat} {fN : Nat → Option Nat} {aN : Nat → Nat} {dv : Nat → DC} {x : Int32} {fs9 : List Value} (he9 : g a = some (.inr (3, fs9))) (he : g a = some (cBr bn bd (nI n))) (ha : g bn = some (arQ t 5 200 fN)) (hn : n ≤ 200) (hN : ∀ i, i < n → fN i = some (aN i)) (hD : ∀ i, i < n → g (aN i) = some (cDv (dv i))) (hW : (rest.map fun v => v.category).sum ≤ 8) (hdg : decode cc pc = .ok (.invokevirtual 175, 3)) (kk : ∀ (r : Int64) (H1 : Heap) (locs1 : List Loc), r = sLe dv x n → hw D vwCl A (g) H1 → va_S A s.heap H1 locs1 → W p l e R s m args below meth c H1 locs1 (cells + 0) (slots + 0) Q (F0 m (pc + 3) ls (.long r :: rest))) : W p l e R s m args below meth c H locs cells slots Q (F0 m pc ls (.int x :: .ref a :: rest)) :=
  h_cl (runV (C := R_B) (T := F_B) (N := 3) X (c_B_leftOf l D t A g a bn bd n fN aN dv x he ha hn hN hD) (tbm 331 (by decide +kernel)) (tbm 332 (by decide +kernel)) (tbm 333 (by decide +kernel)) (tbm 21 (by decide +kernel)) (tbm 334 (by decide +kernel)) rfl (n := 1) (by decide +kernel) hR hf hP he9 hS hls rfl rfl hW hdg) hS (fun r u H1 locs1 hp hP1 hS1 => kk r H1 locs1 hp.1 (hp.2 ▸ hP1) hS1)

set_option maxHeartbeats 4000000 in
set_option maxRecDepth 100000 in
theorem lp_B_interestOf {p : Program} {l : Launch} {e : Env} {s : State} {m : MethodId} {below : List Frame} {meth : Method} {c : Code} {D : va_G} {t : Nat → ClassId} {A : Nat → Prop} (g : hG) (a bn bd n : Nat) (fN : Nat → Option Nat) (aN : Nat → Nat) (dv : Nat → DC) (rv : Nat → RV) (x : Int32) (y : Int64) (he : g a = some (cBr bn bd (nI n))) (ha : g bn = some (arQ t 5 200 fN)) (hn : n ≤ 200) (hN : ∀ i, i < n → fN i = some (aN i)) (hD : ∀ i, i < n → g (aN i) = some (cDv (dv i))) (hR0 : ∀ i, i < n → g (dv i).2.1 = some (cRu (rv i))) (X : Cx p s m ([.ref a, .int x, .long y] : List Value).toArray meth c R_B b_B_interestOf 8 (some .long) TB D vwCl (tyL t) EX A "interestOf") : ∀ (k : Nat) (i : Nat) (b : Int64) (H : Heap) (locs : List Loc) (ls : Array Slot) (_ : i ≤ n) (_ : n + 1 ≤ i + k) (_ : b = sIn dv rv x y i) (_ : hw D vwCl A g H) (_ : va_S A s.heap H locs) (_ : lv_has ls 8 [(6, .int (nI i)), (4, .long b), (0, .ref a), (1, .int x), (2, .long y)]), W p l e ({ frames := 2, cells := 0, slots := 0, locals := 46 } : Room) s m ([.ref a, .int x, .long y] : List Value).toArray below meth c H locs 0 0 (MQ below (va_Ql (fun r u => r = sIn dv rv x y n ∧ u = g) (fun u v => hw D vwCl A u v.heap) A) ([.ref a, .int x, .long y] : List Value).toArray s 0 0 A) (F0 m 6 ls []) := by
  obtain ⟨hx, hb, hml, hr, hts, hown, hlocks, hK, hEs, hA, hnm⟩ := id X
  intro k
  induction k with
  | zero => exact fun i b H locs ls h1 h2 => absurd h2 (by omega)
  | succ k ih =>
    intro i b H locs ls hi hk hbt hP hS hl
    refine lv_iload hx hb d_B_interestOf_6 (lv_at hl 0 rfl) ?_
    refine lv_aload_n hx hb d_B_interestOf_8 rfl (lv_at hl 2 rfl) ?_
    refine g_B_20 X hb hP he rfl d_B_interestOf_9 ?_
    refine lv_icmp_ge (tgt := 55) hx hb d_B_interestOf_12 (by decide) (fun c_1 => ?_) (fun c_1 => ?_)
    · refine lv_lload hx hb d_B_interestOf_55 (lv_at hl 1 rfl) ?_
      exact h_lret hx hb hr hlocks (Nat.le_of_ble_eq_true rfl) (Nat.le_of_ble_eq_true rfl) hP hS (⟨by rw [hbt, show i = n from Nat.le_antisymm hi ((nI_leI (by omega) (by omega)).mp c_1)], rfl⟩) d_B_interestOf_57
    · have hlt : i < n := Nat.lt_of_not_le (fun q => c_1 (nI_le q (by omega)))
      refine lv_aload_n hx hb d_B_interestOf_15 rfl (lv_at hl 2 rfl) ?_
      refine g_B_11 X hb hP he rfl d_B_interestOf_16 ?_
      refine lv_iload hx hb d_B_interestOf_19 (lv_at hl 0 rfl) ?_
      refine n_aald X hb hP 5 ha rfl ⟨by omega, by decide⟩ d_B_interestOf_21 ?_
      refine lv_some (y := (aN i)) (hN i hlt) ?_
      refine lv_astore (lv' := [(7, .ref (aN i)), (6, .int (nI i)), (4, .long b), (0, .ref a), (1, .int x), (2, .long y)]) hx hb d_B_interestOf_22 hl (by decide) rfl (fun ls hl => ?_)
      refine lv_aload hx hb d_B_interestOf_24 (lv_at hl 0 rfl) ?_
      refine lv_ifnull hx hb d_B_interestOf_26 ?_
      refine lv_aload hx hb d_B_interestOf_29 (lv_at hl 0 rfl) ?_
      refine g_B_43 X hb hP (hD i hlt) rfl d_B_interestOf_31 ?_
      refine lv_iload_n hx hb d_B_interestOf_34 rfl (lv_at hl 4 rfl) ?_
      refine lv_icmp_ne (tgt := 49) hx hb d_B_interestOf_35 (by decide) (fun c_2 => ?_) (fun c_2 => ?_)
      · obtain ⟨x_3, ex_3⟩ : ∃ z : Int32, z = (nI i) + 1 := ⟨_, rfl⟩
        refine lv_iinc (v := x_3) (lv' := [(6, .int x_3), (7, .ref (aN i)), (4, .long b), (0, .ref a), (1, .int x), (2, .long y)]) hx hb d_B_interestOf_49 hl (k := 1) rfl (by rw [ex_3]; rfl) (by decide) rfl (fun ls hl => ?_)
        refine lv_goto (tgt := 6) hx hb d_B_interestOf_52 (by decide) ?_
        obtain rfl : x_3 = nI (i + 1) := by rw [ex_3]; exact nI_1 i
        exact ih (i + 1) b H locs ls (by omega) (by omega) (by rw [sIn_n c_2]; exact hbt) hP hS (lv_sub hl [0, 2, 3, 4, 5] rfl)
      · refine lv_lload hx hb d_B_interestOf_38 (lv_at hl 2 rfl) ?_
        refine lv_aload hx hb d_B_interestOf_40 (lv_at hl 0 rfl) ?_
        refine lv_lload_n hx hb d_B_interestOf_42 rfl (lv_at hl 5 rfl) ?_
        refine k_B_49 X ⟨Nat.le_of_ble_eq_true rfl, Nat.le_of_ble_eq_true rfl⟩ ⟨Nat.le_of_ble_eq_true rfl, Nat.le_of_ble_eq_true rfl⟩ hl.1 hP hS (hD i hlt) (hD i hlt) (hR0 i hlt) (by exact Nat.le_of_ble_eq_true rfl) d_B_interestOf_43 (fun r_4 H locs er_4 hP hS => ?_)
        refine lv_ladd hx hb d_B_interestOf_46 ?_
        refine lv_topl (fun x_5 ex_5 => ?_)
        refine lv_lstore (lv' := [(4, .long x_5), (7, .ref (aN i)), (6, .int (nI i)), (0, .ref a), (1, .int x), (2, .long y)]) hx hb d_B_interestOf_47 hl (by decide) rfl (fun ls hl => ?_)
        obtain ⟨x_6, ex_6⟩ : ∃ z : Int32, z = (nI i) + 1 := ⟨_, rfl⟩
        refine lv_iinc (v := x_6) (lv' := [(6, .int x_6), (4, .long x_5), (7, .ref (aN i)), (0, .ref a), (1, .int x), (2, .long y)]) hx hb d_B_interestOf_49 hl (k := 2) rfl (by rw [ex_6]; rfl) (by decide) rfl (fun ls hl => ?_)
        refine lv_goto (tgt := 6) hx hb d_B_interestOf_52 (by decide) ?_
        obtain rfl : x_6 = nI (i + 1) := by rw [ex_6]; exact nI_1 i
        exact ih (i + 1) x_5 H locs ls (by omega) (by omega) (by rw [ex_5, er_4, hbt, sIn_y c_2]) hP hS (lv_sub hl [0, 1, 3, 4, 5] rfl)

set_option maxRecDepth 100000 in
theorem c_B_interestOf (l : Launch) (D : va_G) (t : Nat → ClassId) (A : Nat → Prop) (g : hG) (a bn bd n : Nat) (fN : Nat → Option Nat) (aN : Nat → Nat) (dv : Nat → DC) (rv : Nat → RV) (x : Int32) (y : Int64) (he : g a = some (cBr bn bd (nI n))) (ha : g bn = some (arQ t 5 200 fN)) (hn : n ≤ 200) (hN : ∀ i, i < n → fN i = some (aN i)) (hD : ∀ i, i < n → g (aN i) = some (cDv (dv i))) (hR0 : ∀ i, i < n → g (dv i).2.1 = some (cRu (rv i))) : Met l y_B_interestOf (Cond.code y_B_interestOf b_B_interestOf 8 (some .long) :: TB) ({ frames := 2, cells := 0, slots := 0, locals := 46 } : Room) (va_Pc [.ref a, .int x, .long y] (hI D vwCl (tyL t) EX A g)) (va_Ql (fun r u => r = sIn dv rv x y n ∧ u = g) (fun u v => hw D vwCl A u v.heap) A) 0 0 A := by
  refine Met.ofH (cc := b_B_interestOf) (maxL := 8) (ret := (some .long)) (lv := [(0, .ref a), (1, .int x), (2, .long y)]) (by decide) (Nat.le_of_ble_eq_true rfl) rfl ?_
  intro p e s m below meth c ls X hP hS hl
  obtain ⟨hx, hb, hml, hr, hts, hown, hlocks, hK, hEs, hA, hnm⟩ := id X
  refine lv_lconst (v := 0) hx hb d_B_interestOf_0 (by decide) ?_
  refine lv_lstore (lv' := [(4, .long 0), (0, .ref a), (1, .int x), (2, .long y)]) hx hb d_B_interestOf_1 hl (by decide) rfl (fun ls hl => ?_)
  refine lv_iconst (v := 0) hx hb d_B_interestOf_3 (by decide) ?_
  refine lv_istore (lv' := [(6, .int 0), (4, .long 0), (0, .ref a), (1, .int x), (2, .long y)]) hx hb d_B_interestOf_4 hl (by decide) rfl (fun ls hl => ?_)
  exact lp_B_interestOf g a bn bd n fN aN dv rv x y he ha hn hN hD hR0 X (n + 1) 0 0 _ _ ls (Nat.zero_le n) (by omega) rfl hP hS (lv_sub hl [0, 1, 2, 3, 4] rfl)
theorem k_F_171 {p : Program} {l : Launch} {e : Env} {R : Room} {s : State} {m : MethodId} {args : Array Value} {below : List Frame} {meth : Method} {c : Code} {H : Heap} {locs : List Loc} {cells slots : Nat} {Q : State → Prop} {cc : ByteArray} {pc : Nat} {ls : Array Slot} {rest : List Value} {D : va_G} {A : Nat → Prop} {t : Nat → ClassId} {g : hG} {nL : Nat} {ret0 : Option FieldType} {nm : String} (X : Cx p s m args meth c R_F cc nL ret0 TB D vwCl (tyL t) EX A nm) (hR : 2 + 1 ≤ R.frames ∧ 8 + (8 + 11) + 46 ≤ R.locals) (hf : cells + 0 ≤ R.cells ∧ slots + 0 ≤ R.slots) (hls : ls.size = nL) (hP : hw D vwCl A g H) (hS : va_S A s.heap H locs) {a bn bd n : Nat} {fN : Nat → Option Nat} {aN : Nat → Nat} {dv : Nat → DC} {rv : Nat → RV} {x : Int32} {y : Int64} {fs9 : List Value} (he9 : g a = some (.inr (3, fs9))) (he : g a = some (cBr bn bd (nI n))) (ha : g bn = some (arQ t 5 200 fN)) (hn : n ≤ 200) (hN : ∀ i, i < n → fN i = some (aN i)) (hD : ∀ i, i < n → g (aN i) = some (cDv (dv i))) (hR0 : ∀ i, i < n → g (dv i).2.1 = some (cRu (rv i))) (hW : (rest.map fun v => v.category).sum ≤ 8) (hdg : decode cc pc = .ok (.invokevirtual 171, 3)) (kk : ∀ (r : Int64) (H1 : Heap) (locs1 : List Loc), r = sIn dv rv x y n → hw D vwCl A (g) H1 → va_S A s.heap H1 locs1 → W p l e R s m args below meth c H1 locs1 (cells + 0) (slots + 0) Q (F0 m (pc + 3) ls (.long r :: rest))) : W p l e R s m args below meth c H locs cells slots Q (F0 m pc ls (.long y :: .int x :: .ref a :: rest)) :=
  h_cl (runV (C := R_B) (T := F_B) (N := 3) X (c_B_interestOf l D t A g a bn bd n fN aN dv rv x y he ha hn hN hD hR0) (tbm 336 (by decide +kernel)) (tbm 337 (by decide +kernel)) (tbm 338 (by decide +kernel)) (tbm 21 (by decide +kernel)) (tbm 339 (by decide +kernel)) rfl (n := 2) (by decide +kernel) hR hf hP he9 hS hls rfl rfl hW hdg) hS (fun r u H1 locs1 hp hP1 hS1 => kk r H1 locs1 hp.1 (hp.2 ▸ hP1) hS1)
