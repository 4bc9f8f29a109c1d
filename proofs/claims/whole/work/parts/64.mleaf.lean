set_option maxRecDepth 100000 in
theorem c_M_in (l : Launch) (D : va_G) (t : Nat → ClassId) (A : Nat → Prop) (g : hG) (x y z : Int64) : Met l y_M_in (Cond.code y_M_in b_M_in 6 (some .boolean) :: TB) ({ frames := 0, cells := 0, slots := 0, locals := 0 } : Room) (va_Pc [.long x, .long y, .long z] (hI D vwCl (tyL t) EX A g)) (va_Qi (fun r u => r = bi (wl x y z) ∧ u = g) (fun u v => hw D vwCl A u v.heap) A) 0 0 A := by
  refine Met.ofH (cc := b_M_in) (maxL := 6) (ret := (some .boolean)) (lv := [(0, .long x), (2, .long y), (4, .long z)]) (by decide) (Nat.le_of_ble_eq_true rfl) rfl ?_
  intro p e s m below meth c ls X hP hS hl
  obtain ⟨hx, hb, hml, hr, hts, hown, hlocks, hK, hEs, hA, hnm⟩ := id X
  refine lv_lload_n hx hb d_M_in_0 rfl (lv_at hl 0 rfl) ?_
  refine lv_lload_n hx hb d_M_in_1 rfl (lv_at hl 1 rfl) ?_
  refine W.lcmp hx hb d_M_in_2 ?_
  refine lv_if_lt (tgt := 17) hx hb d_M_in_3 (by decide) (fun c_1 => ?_) (fun c_1 => ?_)
  · rw [lg_cmp_lt] at c_1
    refine lv_iconst (v := 0) hx hb d_M_in_17 (by decide) ?_
    exact h_zret hx hb hr hlocks (rfl) (Nat.le_of_ble_eq_true rfl) (Nat.le_of_ble_eq_true rfl) hP hS (⟨by rw [wl_f1 c_1]; rfl, rfl⟩) d_M_in_18
  · rw [lg_cmp_lt] at c_1
    refine lv_lload_n hx hb d_M_in_6 rfl (lv_at hl 0 rfl) ?_
    refine lv_lload hx hb d_M_in_7 (lv_at hl 2 rfl) ?_
    refine W.lcmp hx hb d_M_in_9 ?_
    refine lv_if_gt (tgt := 17) hx hb d_M_in_10 (by decide) (fun c_2 => ?_) (fun c_2 => ?_)
    · rw [lg_cmp_gt] at c_2
      refine lv_iconst (v := 0) hx hb d_M_in_17 (by decide) ?_
      exact h_zret hx hb hr hlocks (rfl) (Nat.le_of_ble_eq_true rfl) (Nat.le_of_ble_eq_true rfl) hP hS (⟨by rw [wl_f2 c_2]; rfl, rfl⟩) d_M_in_18
    · rw [lg_cmp_gt] at c_2
      refine lv_iconst (v := 1) hx hb d_M_in_13 (by decide) ?_
      refine lv_goto (tgt := 18) hx hb d_M_in_14 (by decide) ?_
      exact h_zret hx hb hr hlocks (rfl) (Nat.le_of_ble_eq_true rfl) (Nat.le_of_ble_eq_true rfl) hP hS (⟨by rw [wl_t (Int64.not_lt.mp c_1) (Int64.not_lt.mp c_2)]; rfl, rfl⟩) d_M_in_18
theorem k_M_81 {p : Program} {l : Launch} {e : Env} {R : Room} {s : State} {m : MethodId} {args : Array Value} {below : List Frame} {meth : Method} {c : Code} {H : Heap} {locs : List Loc} {cells slots : Nat} {Q : State → Prop} {cc : ByteArray} {pc : Nat} {ls : Array Slot} {rest : List Value} {D : va_G} {A : Nat → Prop} {t : Nat → ClassId} {g : hG} {nL : Nat} {ret0 : Option FieldType} {nm : String} (X : Cx p s m args meth c R_M cc nL ret0 TB D vwCl (tyL t) EX A nm) (hR : 0 + 1 ≤ R.frames ∧ 8 + (6 + 11) + 0 ≤ R.locals) (hf : cells + 0 ≤ R.cells ∧ slots + 0 ≤ R.slots) (hls : ls.size = nL) (hP : hw D vwCl A g H) (hS : va_S A s.heap H locs) {x y z : Int64}  (hW : (rest.map fun v => v.category).sum ≤ 8) (hdg : decode cc pc = .ok (.invokestatic 81, 3)) (kk : ∀ (r : Int32) (H1 : Heap) (locs1 : List Loc), r = bi (wl x y z) → hw D vwCl A (g) H1 → va_S A s.heap H1 locs1 → W p l e R s m args below meth c H1 locs1 (cells + 0) (slots + 0) Q (F0 m (pc + 3) ls (.int r :: rest))) : W p l e R s m args below meth c H locs cells slots Q (F0 m pc ls (.long z :: .long y :: .long x :: rest)) :=
  h_ci (runS X (c_M_in l D t A g x y z ) (tbm 542 (by decide +kernel)) (tbm 543 (by decide +kernel)) (tbm 23 (by decide +kernel)) (tbm 544 (by decide +kernel)) (n := 3) (by decide +kernel) hR hf hP hS hls rfl rfl hW hdg) hS (fun r u H1 locs1 hp hP1 hS1 => kk r H1 locs1 hp.1 (hp.2 ▸ hP1) hS1)

set_option maxRecDepth 100000 in
theorem c_M_isDay (l : Launch) (D : va_G) (t : Nat → ClassId) (A : Nat → Prop) (g : hG) (d : Int64) : Met l y_M_isDay (Cond.code y_M_isDay b_M_isDay 2 (some .boolean) :: TB) ({ frames := 1, cells := 0, slots := 0, locals := 25 } : Room) (va_Pc [.long d] (hI D vwCl (tyL t) EX A g)) (va_Qi (fun r u => r = bi (wd d) ∧ u = g) (fun u v => hw D vwCl A u v.heap) A) 0 0 A := by
  refine Met.ofH (cc := b_M_isDay) (maxL := 2) (ret := (some .boolean)) (lv := [(0, .long d)]) (by decide) (Nat.le_of_ble_eq_true rfl) rfl ?_
  intro p e s m below meth c ls X hP hS hl
  obtain ⟨hx, hb, hml, hr, hts, hown, hlocks, hK, hEs, hA, hnm⟩ := id X
  refine lv_lload_n hx hb d_M_isDay_0 rfl (lv_at hl 0 rfl) ?_
  refine lv_lconst (v := 0) hx hb d_M_isDay_1 (by decide) ?_
  refine lv_ldc2 (v := 1000000) hx hb hown (hts _ (tbm 552 (by decide +kernel))) d_M_isDay_2 ?_
  refine k_M_81 X ⟨Nat.le_of_ble_eq_true rfl, Nat.le_of_ble_eq_true rfl⟩ ⟨Nat.le_of_ble_eq_true rfl, Nat.le_of_ble_eq_true rfl⟩ hl.1 hP hS (by exact Nat.le_of_ble_eq_true rfl) d_M_isDay_5 (fun r_1 H locs er_1 hP hS => ?_)
  exact h_zret hx hb hr hlocks (by rw [er_1]; exact bi_nar _) (Nat.le_of_ble_eq_true rfl) (Nat.le_of_ble_eq_true rfl) hP hS (⟨er_1, rfl⟩) d_M_isDay_8
theorem k_M_100 {p : Program} {l : Launch} {e : Env} {R : Room} {s : State} {m : MethodId} {args : Array Value} {below : List Frame} {meth : Method} {c : Code} {H : Heap} {locs : List Loc} {cells slots : Nat} {Q : State → Prop} {cc : ByteArray} {pc : Nat} {ls : Array Slot} {rest : List Value} {D : va_G} {A : Nat → Prop} {t : Nat → ClassId} {g : hG} {nL : Nat} {ret0 : Option FieldType} {nm : String} (X : Cx p s m args meth c R_M cc nL ret0 TB D vwCl (tyL t) EX A nm) (hR : 1 + 1 ≤ R.frames ∧ 8 + (2 + 11) + 25 ≤ R.locals) (hf : cells + 0 ≤ R.cells ∧ slots + 0 ≤ R.slots) (hls : ls.size = nL) (hP : hw D vwCl A g H) (hS : va_S A s.heap H locs) {d : Int64}  (hW : (rest.map fun v => v.category).sum ≤ 8) (hdg : decode cc pc = .ok (.invokestatic 100, 3)) (kk : ∀ (r : Int32) (H1 : Heap) (locs1 : List Loc), r = bi (wd d) → hw D vwCl A (g) H1 → va_S A s.heap H1 locs1 → W p l e R s m args below meth c H1 locs1 (cells + 0) (slots + 0) Q (F0 m (pc + 3) ls (.int r :: rest))) : W p l e R s m args below meth c H locs cells slots Q (F0 m pc ls (.long d :: rest)) :=
  h_ci (runS X (c_M_isDay l D t A g d ) (tbm 558 (by decide +kernel)) (tbm 559 (by decide +kernel)) (tbm 23 (by decide +kernel)) (tbm 560 (by decide +kernel)) (n := 1) (by decide +kernel) hR hf hP hS hls rfl rfl hW hdg) hS (fun r u H1 locs1 hp hP1 hS1 => kk r H1 locs1 hp.1 (hp.2 ▸ hP1) hS1)

set_option maxHeartbeats 4000000 in
set_option maxRecDepth 100000 in
theorem c_M_thrown (l : Launch) (D : va_G) (t : Nat → ClassId) (A : Nat → Prop) (g : hG) (ma : Nat → Nat) (tv : Int32) (σ : SS) (hMx : RMx t ma tv σ g) (hV : Inv σ) : Met l y_M_thrown (Cond.code y_M_thrown b_M_thrown 1 (some .int) :: TB) ({ frames := 0, cells := 0, slots := 0, locals := 0 } : Room) (va_Pc [.ref (ma 0)] (hI D vwCl (tyL t) EX A g)) (va_Qi (fun r u => r = tv ∧ u = g) (fun u v => hw D vwCl A u v.heap) A) 0 0 A := by
  refine Met.ofH (cc := b_M_thrown) (maxL := 1) (ret := (some .int)) (lv := [(0, .ref (ma 0))]) (by decide) (Nat.le_of_ble_eq_true rfl) rfl ?_
  intro p e s m below meth c ls X hP hS hl
  obtain ⟨hx, hb, hml, hr, hts, hown, hlocks, hK, hEs, hA, hnm⟩ := id X
  obtain ⟨fm, fj, hM, hR1, hR2, hR3, hR6, hR20, hR11⟩ := id hMx
  have m0 := hM.1
  have hinj := hM.2.2
  have hn1 := hV.1.1
  have hn2 := hV.1.2.1
  have hn3 := hV.1.2.2.1
  have hn4 := hV.1.2.2.2
  refine lv_aload_n hx hb d_M_thrown_0 rfl (lv_at hl 0 rfl) ?_
  refine g_M_76 X hb hP m0 rfl d_M_thrown_1 ?_
  exact h_iret hx hb hr hlocks (Nat.le_of_ble_eq_true rfl) (Nat.le_of_ble_eq_true rfl) hP hS (⟨rfl, rfl⟩) d_M_thrown_4
theorem k_W_29 {p : Program} {l : Launch} {e : Env} {R : Room} {s : State} {m : MethodId} {args : Array Value} {below : List Frame} {meth : Method} {c : Code} {H : Heap} {locs : List Loc} {cells slots : Nat} {Q : State → Prop} {cc : ByteArray} {pc : Nat} {ls : Array Slot} {rest : List Value} {D : va_G} {A : Nat → Prop} {t : Nat → ClassId} {g : hG} {nL : Nat} {ret0 : Option FieldType} {nm : String} (X : Cx p s m args meth c R_W cc nL ret0 TB D vwCl (tyL t) EX A nm) (hR : 0 + 1 ≤ R.frames ∧ 8 + (1 + 11) + 0 ≤ R.locals) (hf : cells + 0 ≤ R.cells ∧ slots + 0 ≤ R.slots) (hls : ls.size = nL) (hP : hw D vwCl A g H) (hS : va_S A s.heap H locs) {ma : Nat → Nat} {tv : Int32} {σ : SS}  {fs9 : List Value} (he9 : g (ma 0) = some (.inr (6, fs9))) (hMx : RMx t ma tv σ g) (hV : Inv σ)  (hW : (rest.map fun v => v.category).sum ≤ 8) (hdg : decode cc pc = .ok (.invokevirtual 29, 3)) (kk : ∀ (r : Int32) (H1 : Heap) (locs1 : List Loc), r = tv → hw D vwCl A (g) H1 → va_S A s.heap H1 locs1 → W p l e R s m args below meth c H1 locs1 (cells + 0) (slots + 0) Q (F0 m (pc + 3) ls (.int r :: rest))) : W p l e R s m args below meth c H locs cells slots Q (F0 m pc ls (.ref (ma 0) :: rest)) :=
  h_ci (runV (C := R_M) (T := F_M) (N := 26) X (c_M_thrown l D t A g ma tv σ hMx hV) (tbm 533 (by decide +kernel)) (tbm 534 (by decide +kernel)) (tbm 535 (by decide +kernel)) (tbm 23 (by decide +kernel)) (tbm 536 (by decide +kernel)) rfl (n := 0) (by decide +kernel) hR hf hP he9 hS hls rfl rfl hW hdg) hS (fun r u H1 locs1 hp hP1 hS1 => kk r H1 locs1 hp.1 (hp.2 ▸ hP1) hS1)

set_option maxHeartbeats 4000000 in
set_option maxRecDepth 100000 in
theorem lp_M_isClosed {p : Program} {l : Launch} {e : Env} {s : State} {m : MethodId} {below : List Frame} {meth : Method} {c : Code} {D : va_G} {t : Nat → ClassId} {A : Nat → Prop} (g : hG) (ma : Nat → Nat) (tv : Int32) (σ : SS) (fm : Nat → Nat → Int32) (fj : Nat → Nat → Int64) (x : Int64) (hM : MC t g ma tv (nI (sNR σ)) (nI (sNL σ)) (nI (sND σ)) (nI (sNC σ)) (sTH σ) fm fj) (hR : MRel fm fj σ) (hV : Inv σ)  (X : Cx p s m ([.ref (ma 0), .long x] : List Value).toArray meth c R_M b_M_isClosed 5 (some .boolean) TB D vwCl (tyL t) EX A "isClosed") : ∀ (k : Nat) (i : Nat) (b : Int32) (H : Heap) (locs : List Loc) (ls : Array Slot) (_ : i ≤ sNC σ) (_ : sNC σ + 1 ≤ i + k) (_ : b = bi (clB (sCD σ) x i)) (_ : hw D vwCl A g H) (_ : va_S A s.heap H locs) (_ : lv_has ls 5 [(4, .int (nI i)), (3, .int b), (0, .ref (ma 0)), (1, .long x)]), W p l e ({ frames := 0, cells := 0, slots := 0, locals := 0 } : Room) s m ([.ref (ma 0), .long x] : List Value).toArray below meth c H locs 0 0 (MQ below (va_Qi (fun r u => r = bi (clB (sCD σ) x (sNC σ)) ∧ u = g) (fun u v => hw D vwCl A u v.heap) A) ([.ref (ma 0), .long x] : List Value).toArray s 0 0 A) (F0 m 5 ls []) := by
  obtain ⟨hx, hb, hml, hr, hts, hown, hlocks, hK, hEs, hA, hnm⟩ := id X
  intro k
  induction k with
  | zero => exact fun i b H locs ls h1 h2 => absurd h2 (by omega)
  | succ k ih =>
    intro i b H locs ls hi hk hbt hP hS hl
    obtain ⟨hR1, hR2, hR3, hR6, hR20, hR11⟩ := id hR
    have m0 := hM.1
    have hinj := hM.2.2
    have m6 : g (ma 6) = some (arJ t 100 (fj 6)) := hM.2.1 6 (by decide) (by decide)
    have hn1 := hV.1.1
    have hn2 := hV.1.2.1
    have hn3 := hV.1.2.2.1
    have hn4 := hV.1.2.2.2
    refine lv_iload hx hb d_M_isClosed_5 (lv_at hl 0 rfl) ?_
    refine lv_aload_n hx hb d_M_isClosed_7 rfl (lv_at hl 2 rfl) ?_
    refine g_M_97 X hb hP m0 rfl d_M_isClosed_8 ?_
    refine lv_icmp_ge (tgt := 42) hx hb d_M_isClosed_11 (by decide) (fun c_1 => ?_) (fun c_1 => ?_)
    · refine lv_iload_n hx hb d_M_isClosed_42 rfl (lv_at hl 1 rfl) ?_
      exact h_zret hx hb hr hlocks (by rw [hbt]; exact bi_nar _) (Nat.le_of_ble_eq_true rfl) (Nat.le_of_ble_eq_true rfl) hP hS (⟨by rw [hbt, show i = sNC σ from Nat.le_antisymm hi ((nI_leI (by omega) (by omega)).mp c_1)], rfl⟩) d_M_isClosed_43
    · have hlt : i < sNC σ := Nat.lt_of_not_le (fun z => c_1 (nI_le z (by omega)))
      refine lv_iload_n hx hb d_M_isClosed_14 rfl (lv_at hl 1 rfl) ?_
      refine lv_if_ne (tgt := 30) hx hb d_M_isClosed_15 (by decide) (fun c_2 => ?_) (fun c_2 => ?_)
      · refine lv_iconst (v := 1) hx hb d_M_isClosed_30 (by decide) ?_
        refine lv_goto (tgt := 35) hx hb d_M_isClosed_31 (by decide) ?_
        refine lv_istore_n (lv' := [(3, .int 1), (4, .int (nI i)), (0, .ref (ma 0)), (1, .long x)]) hx hb d_M_isClosed_35 rfl hl (by decide) rfl (fun ls hl => ?_)
        obtain ⟨x_3, ex_3⟩ : ∃ z : Int32, z = (nI i) + 1 := ⟨_, rfl⟩
        refine lv_iinc (v := x_3) (lv' := [(4, .int x_3), (3, .int 1), (0, .ref (ma 0)), (1, .long x)]) hx hb d_M_isClosed_36 hl (k := 1) rfl (by rw [ex_3]; rfl) (by decide) rfl (fun ls hl => ?_)
        refine lv_goto (tgt := 5) hx hb d_M_isClosed_39 (by decide) ?_
        obtain rfl : x_3 = nI (i + 1) := by rw [ex_3]; exact nI_1 i
        exact ih (i + 1) 1 H locs ls (by omega) (by omega) (by rw [clB, show clB (sCD σ) x i = true from bi_n0.mp (hbt ▸ c_2)]; rfl) hP hS (lv_sub hl [0, 1, 2, 3] rfl)
      · refine lv_aload_n hx hb d_M_isClosed_18 rfl (lv_at hl 2 rfl) ?_
        refine g_M_25 X hb hP m0 rfl d_M_isClosed_19 ?_
        refine lv_iload hx hb d_M_isClosed_22 (lv_at hl 0 rfl) ?_
        refine n_lald X hb hP m6 ⟨by omega, by decide⟩ d_M_isClosed_24 ?_
        refine lv_lload_n hx hb d_M_isClosed_25 rfl (lv_at hl 3 rfl) ?_
        refine W.lcmp hx hb d_M_isClosed_26 ?_
        refine lv_if_ne (tgt := 34) hx hb d_M_isClosed_27 (by decide) (fun c_4 => ?_) (fun c_4 => ?_)
        · rw [lg_cmp_eq] at c_4
          refine lv_iconst (v := 0) hx hb d_M_isClosed_34 (by decide) ?_
          refine lv_istore_n (lv' := [(3, .int 0), (4, .int (nI i)), (0, .ref (ma 0)), (1, .long x)]) hx hb d_M_isClosed_35 rfl hl (by decide) rfl (fun ls hl => ?_)
          obtain ⟨x_5, ex_5⟩ : ∃ z : Int32, z = (nI i) + 1 := ⟨_, rfl⟩
          refine lv_iinc (v := x_5) (lv' := [(4, .int x_5), (3, .int 0), (0, .ref (ma 0)), (1, .long x)]) hx hb d_M_isClosed_36 hl (k := 1) rfl (by rw [ex_5]; rfl) (by decide) rfl (fun ls hl => ?_)
          refine lv_goto (tgt := 5) hx hb d_M_isClosed_39 (by decide) ?_
          obtain rfl : x_5 = nI (i + 1) := by rw [ex_5]; exact nI_1 i
          exact ih (i + 1) 0 H locs ls (by omega) (by omega) (by rw [clB, show clB (sCD σ) x i = false from bi_0.mp (hbt ▸ c_2), show decide (sCD σ i = x) = false from decide_eq_false (hR6 ▸ c_4)]; rfl) hP hS (lv_sub hl [0, 1, 2, 3] rfl)
        · rw [lg_cmp_eq] at c_4
          refine lv_iconst (v := 1) hx hb d_M_isClosed_30 (by decide) ?_
          refine lv_goto (tgt := 35) hx hb d_M_isClosed_31 (by decide) ?_
          refine lv_istore_n (lv' := [(3, .int 1), (4, .int (nI i)), (0, .ref (ma 0)), (1, .long x)]) hx hb d_M_isClosed_35 rfl hl (by decide) rfl (fun ls hl => ?_)
          obtain ⟨x_6, ex_6⟩ : ∃ z : Int32, z = (nI i) + 1 := ⟨_, rfl⟩
          refine lv_iinc (v := x_6) (lv' := [(4, .int x_6), (3, .int 1), (0, .ref (ma 0)), (1, .long x)]) hx hb d_M_isClosed_36 hl (k := 1) rfl (by rw [ex_6]; rfl) (by decide) rfl (fun ls hl => ?_)
          refine lv_goto (tgt := 5) hx hb d_M_isClosed_39 (by decide) ?_
          obtain rfl : x_6 = nI (i + 1) := by rw [ex_6]; exact nI_1 i
          exact ih (i + 1) 1 H locs ls (by omega) (by omega) (by rw [clB, show decide (sCD σ i = x) = true from decide_eq_true (hR6 ▸ c_4), Bool.or_true]; rfl) hP hS (lv_sub hl [0, 1, 2, 3] rfl)

set_option maxHeartbeats 4000000 in
set_option maxRecDepth 100000 in
theorem c_M_isClosed (l : Launch) (D : va_G) (t : Nat → ClassId) (A : Nat → Prop) (g : hG) (ma : Nat → Nat) (tv : Int32) (σ : SS) (x : Int64) (hMx : RMx t ma tv σ g) (hV : Inv σ) : Met l y_M_isClosed (Cond.code y_M_isClosed b_M_isClosed 5 (some .boolean) :: TB) ({ frames := 0, cells := 0, slots := 0, locals := 0 } : Room) (va_Pc [.ref (ma 0), .long x] (hI D vwCl (tyL t) EX A g)) (va_Qi (fun r u => r = bi (clB (sCD σ) x (sNC σ)) ∧ u = g) (fun u v => hw D vwCl A u v.heap) A) 0 0 A := by
  refine Met.ofH (cc := b_M_isClosed) (maxL := 5) (ret := (some .boolean)) (lv := [(0, .ref (ma 0)), (1, .long x)]) (by decide) (Nat.le_of_ble_eq_true rfl) rfl ?_
  intro p e s m below meth c ls X hP hS hl
  obtain ⟨hx, hb, hml, hr, hts, hown, hlocks, hK, hEs, hA, hnm⟩ := id X
  obtain ⟨fm, fj, hM, hR1, hR2, hR3, hR6, hR20, hR11⟩ := id hMx
  have m0 := hM.1
  have hinj := hM.2.2
  have m6 : g (ma 6) = some (arJ t 100 (fj 6)) := hM.2.1 6 (by decide) (by decide)
  have hn1 := hV.1.1
  have hn2 := hV.1.2.1
  have hn3 := hV.1.2.2.1
  have hn4 := hV.1.2.2.2
  refine lv_iconst (v := 0) hx hb d_M_isClosed_0 (by decide) ?_
  refine lv_istore_n (lv' := [(3, .int 0), (0, .ref (ma 0)), (1, .long x)]) hx hb d_M_isClosed_1 rfl hl (by decide) rfl (fun ls hl => ?_)
  refine lv_iconst (v := 0) hx hb d_M_isClosed_2 (by decide) ?_
  refine lv_istore (lv' := [(4, .int 0), (3, .int 0), (0, .ref (ma 0)), (1, .long x)]) hx hb d_M_isClosed_3 hl (by decide) rfl (fun ls hl => ?_)
  exact lp_M_isClosed g ma tv σ fm fj x hM ⟨hR1, hR2, hR3, hR6, hR20, hR11⟩ hV X (sNC σ + 1) 0 0 _ _ ls (Nat.zero_le _) (by omega) rfl hP hS (lv_sub hl [0, 1, 2, 3] rfl)
theorem k_M_104 {p : Program} {l : Launch} {e : Env} {R : Room} {s : State} {m : MethodId} {args : Array Value} {below : List Frame} {meth : Method} {c : Code} {H : Heap} {locs : List Loc} {cells slots : Nat} {Q : State → Prop} {cc : ByteArray} {pc : Nat} {ls : Array Slot} {rest : List Value} {D : va_G} {A : Nat → Prop} {t : Nat → ClassId} {g : hG} {nL : Nat} {ret0 : Option FieldType} {nm : String} (X : Cx p s m args meth c R_M cc nL ret0 TB D vwCl (tyL t) EX A nm) (hR : 0 + 1 ≤ R.frames ∧ 8 + (5 + 11) + 0 ≤ R.locals) (hf : cells + 0 ≤ R.cells ∧ slots + 0 ≤ R.slots) (hls : ls.size = nL) (hP : hw D vwCl A g H) (hS : va_S A s.heap H locs) {ma : Nat → Nat} {tv : Int32} {σ : SS} {x : Int64} {fs9 : List Value} (he9 : g (ma 0) = some (.inr (6, fs9))) (hMx : RMx t ma tv σ g) (hV : Inv σ)  (hW : (rest.map fun v => v.category).sum ≤ 8) (hdg : decode cc pc = .ok (.invokevirtual 104, 3)) (kk : ∀ (r : Int32) (H1 : Heap) (locs1 : List Loc), r = bi (clB (sCD σ) x (sNC σ)) → hw D vwCl A (g) H1 → va_S A s.heap H1 locs1 → W p l e R s m args below meth c H1 locs1 (cells + 0) (slots + 0) Q (F0 m (pc + 3) ls (.int r :: rest))) : W p l e R s m args below meth c H locs cells slots Q (F0 m pc ls (.long x :: .ref (ma 0) :: rest)) :=
  h_ci (runV (C := R_M) (T := F_M) (N := 26) X (c_M_isClosed l D t A g ma tv σ x hMx hV) (tbm 561 (by decide +kernel)) (tbm 563 (by decide +kernel)) (tbm 9 (by decide +kernel)) (tbm 23 (by decide +kernel)) (tbm 564 (by decide +kernel)) rfl (n := 1) (by decide +kernel) hR hf hP he9 hS hls rfl rfl hW hdg) hS (fun r u H1 locs1 hp hP1 hS1 => kk r H1 locs1 hp.1 (hp.2 ▸ hP1) hS1)

set_option maxHeartbeats 4000000 in
set_option maxRecDepth 100000 in
theorem lp_M_loanOfItem {p : Program} {l : Launch} {e : Env} {s : State} {m : MethodId} {below : List Frame} {meth : Method} {c : Code} {D : va_G} {t : Nat → ClassId} {A : Nat → Prop} (g : hG) (ma : Nat → Nat) (tv : Int32) (σ : SS) (fm : Nat → Nat → Int32) (fj : Nat → Nat → Int64) (x : Int32) (hM : MC t g ma tv (nI (sNR σ)) (nI (sNL σ)) (nI (sND σ)) (nI (sNC σ)) (sTH σ) fm fj) (hR : MRel fm fj σ) (hV : Inv σ)  (X : Cx p s m ([.ref (ma 0), .int x] : List Value).toArray meth c R_M b_M_loanOfItem 4 (some .int) TB D vwCl (tyL t) EX A "loanOfItem") : ∀ (k : Nat) (i b : Nat) (H : Heap) (locs : List Loc) (ls : Array Slot) (_ : i ≤ sNL σ) (_ : sNL σ + 1 ≤ i + k) (_ : b = lof (sLV σ) x i) (_ : hw D vwCl A g H) (_ : va_S A s.heap H locs) (_ : lv_has ls 4 [(3, .int (nI (i + 1))), (2, .int (nI b)), (0, .ref (ma 0)), (1, .int x)]), W p l e ({ frames := 0, cells := 0, slots := 0, locals := 0 } : Room) s m ([.ref (ma 0), .int x] : List Value).toArray below meth c H locs 0 0 (MQ below (va_Qi (fun r u => r = nI (lof (sLV σ) x (sNL σ)) ∧ u = g) (fun u v => hw D vwCl A u v.heap) A) ([.ref (ma 0), .int x] : List Value).toArray s 0 0 A) (F0 m 4 ls []) := by
  obtain ⟨hx, hb, hml, hr, hts, hown, hlocks, hK, hEs, hA, hnm⟩ := id X
  intro k
  induction k with
  | zero => exact fun i b H locs ls h1 h2 => absurd h2 (by omega)
  | succ k ih =>
    intro i b H locs ls hi hk hbt hP hS hl
    obtain ⟨hR1, hR2, hR3, hR6, hR20, hR11⟩ := id hR
    have m0 := hM.1
    have hinj := hM.2.2
    have m7 : g (ma 7) = some (arI t 121 (fm 7)) := hM.2.1 7 (by decide) (by decide)
    have m10 : g (ma 10) = some (arI t 121 (fm 10)) := hM.2.1 10 (by decide) (by decide)
    have hn1 := hV.1.1
    have hn2 := hV.1.2.1
    have hn3 := hV.1.2.2.1
    have hn4 := hV.1.2.2.2
    refine lv_iload_n hx hb d_M_loanOfItem_4 rfl (lv_at hl 0 rfl) ?_
    refine lv_aload_n hx hb d_M_loanOfItem_5 rfl (lv_at hl 2 rfl) ?_
    refine g_M_107 X hb hP m0 rfl d_M_loanOfItem_6 ?_
    refine lv_icmp_gt (tgt := 44) hx hb d_M_loanOfItem_9 (by decide) (fun c_1 => ?_) (fun c_1 => ?_)
    · refine lv_iload_n hx hb d_M_loanOfItem_44 rfl (lv_at hl 1 rfl) ?_
      exact h_iret hx hb hr hlocks (Nat.le_of_ble_eq_true rfl) (Nat.le_of_ble_eq_true rfl) hP hS (⟨by rw [hbt, show i = sNL σ from Nat.le_antisymm hi (Nat.le_of_lt_succ ((nI_ltI (by omega) (by omega)).mp c_1))], rfl⟩) d_M_loanOfItem_45
    · have hlt : i < sNL σ := Nat.lt_of_not_le (fun z => c_1 (nI_lt (by omega) (by omega)))
      refine lv_aload_n hx hb d_M_loanOfItem_12 rfl (lv_at hl 2 rfl) ?_
      refine g_M_29 X hb hP m0 rfl d_M_loanOfItem_13 ?_
      refine lv_iload_n hx hb d_M_loanOfItem_16 rfl (lv_at hl 0 rfl) ?_
      refine n_iald X hb hP m7 ⟨by omega, by decide⟩ d_M_loanOfItem_17 ?_
      refine lv_iload_n hx hb d_M_loanOfItem_18 rfl (lv_at hl 3 rfl) ?_
      refine lv_icmp_ne (tgt := 36) hx hb d_M_loanOfItem_19 (by decide) (fun c_2 => ?_) (fun c_2 => ?_)
      · refine lv_iload_n hx hb d_M_loanOfItem_36 rfl (lv_at hl 1 rfl) ?_
        refine lv_istore_n (lv' := [(2, .int (nI b)), (3, .int (nI (i + 1))), (0, .ref (ma 0)), (1, .int x)]) hx hb d_M_loanOfItem_37 rfl hl (by decide) rfl (fun ls hl => ?_)
        obtain ⟨x_3, ex_3⟩ : ∃ z : Int32, z = (nI (i + 1)) + 1 := ⟨_, rfl⟩
        refine lv_iinc (v := x_3) (lv' := [(3, .int x_3), (2, .int (nI b)), (0, .ref (ma 0)), (1, .int x)]) hx hb d_M_loanOfItem_38 hl (k := 1) rfl (by rw [ex_3]; rfl) (by decide) rfl (fun ls hl => ?_)
        refine lv_goto (tgt := 4) hx hb d_M_loanOfItem_41 (by decide) ?_
        obtain rfl : x_3 = nI (i + 1 + 1) := by rw [ex_3]; exact nI_1 _
        exact ih (i + 1) b H locs ls (by omega) (by omega) (by rw [lof_n1 (fun z => c_2 (by rw [(hR2 i hlt).1]; exact z))]; exact hbt) hP hS (lv_sub hl [0, 1, 2, 3] rfl)
      · refine lv_aload_n hx hb d_M_loanOfItem_22 rfl (lv_at hl 2 rfl) ?_
        refine g_M_38 X hb hP m0 rfl d_M_loanOfItem_23 ?_
        refine lv_iload_n hx hb d_M_loanOfItem_26 rfl (lv_at hl 0 rfl) ?_
        refine n_iald X hb hP m10 ⟨by omega, by decide⟩ d_M_loanOfItem_27 ?_
        refine lv_iconst (v := 2) hx hb d_M_loanOfItem_28 (by decide) ?_
        refine lv_icmp_eq (tgt := 36) hx hb d_M_loanOfItem_29 (by decide) (fun c_4 => ?_) (fun c_4 => ?_)
        · refine lv_iload_n hx hb d_M_loanOfItem_36 rfl (lv_at hl 1 rfl) ?_
          refine lv_istore_n (lv' := [(2, .int (nI b)), (3, .int (nI (i + 1))), (0, .ref (ma 0)), (1, .int x)]) hx hb d_M_loanOfItem_37 rfl hl (by decide) rfl (fun ls hl => ?_)
          obtain ⟨x_5, ex_5⟩ : ∃ z : Int32, z = (nI (i + 1)) + 1 := ⟨_, rfl⟩
          refine lv_iinc (v := x_5) (lv' := [(3, .int x_5), (2, .int (nI b)), (0, .ref (ma 0)), (1, .int x)]) hx hb d_M_loanOfItem_38 hl (k := 1) rfl (by rw [ex_5]; rfl) (by decide) rfl (fun ls hl => ?_)
          refine lv_goto (tgt := 4) hx hb d_M_loanOfItem_41 (by decide) ?_
          obtain rfl : x_5 = nI (i + 1 + 1) := by rw [ex_5]; exact nI_1 _
          exact ih (i + 1) b H locs ls (by omega) (by omega) (by rw [lof_n2 (by have h9 := c_4; rw [(hR2 i hlt).2.2.2.1] at h9; exact (nI_small (by have := (hV.2.2.1 i hlt).2.2.2.1; omega) (b := 2) (by decide)).mp h9)]; exact hbt) hP hS (lv_sub hl [0, 1, 2, 3] rfl)
        · refine lv_iload_n hx hb d_M_loanOfItem_32 rfl (lv_at hl 0 rfl) ?_
          refine lv_goto (tgt := 37) hx hb d_M_loanOfItem_33 (by decide) ?_
          refine lv_istore_n (lv' := [(2, .int (nI (i + 1))), (3, .int (nI (i + 1))), (0, .ref (ma 0)), (1, .int x)]) hx hb d_M_loanOfItem_37 rfl hl (by decide) rfl (fun ls hl => ?_)
          obtain ⟨x_6, ex_6⟩ : ∃ z : Int32, z = (nI (i + 1)) + 1 := ⟨_, rfl⟩
          refine lv_iinc (v := x_6) (lv' := [(3, .int x_6), (2, .int (nI (i + 1))), (0, .ref (ma 0)), (1, .int x)]) hx hb d_M_loanOfItem_38 hl (k := 1) rfl (by rw [ex_6]; rfl) (by decide) rfl (fun ls hl => ?_)
          refine lv_goto (tgt := 4) hx hb d_M_loanOfItem_41 (by decide) ?_
          obtain rfl : x_6 = nI (i + 1 + 1) := by rw [ex_6]; exact nI_1 _
          exact ih (i + 1) (i + 1) H locs ls (by omega) (by omega) ((lof_y (by rw [← (hR2 i hlt).1]; exact c_2) (fun z => c_4 (by rw [(hR2 i hlt).2.2.2.1, z]; rfl))).symm) hP hS (lv_sub hl [0, 1, 2, 3] rfl)

set_option maxHeartbeats 4000000 in
set_option maxRecDepth 100000 in
theorem c_M_loanOfItem (l : Launch) (D : va_G) (t : Nat → ClassId) (A : Nat → Prop) (g : hG) (ma : Nat → Nat) (tv : Int32) (σ : SS) (x : Int32) (hMx : RMx t ma tv σ g) (hV : Inv σ) : Met l y_M_loanOfItem (Cond.code y_M_loanOfItem b_M_loanOfItem 4 (some .int) :: TB) ({ frames := 0, cells := 0, slots := 0, locals := 0 } : Room) (va_Pc [.ref (ma 0), .int x] (hI D vwCl (tyL t) EX A g)) (va_Qi (fun r u => r = nI (lof (sLV σ) x (sNL σ)) ∧ u = g) (fun u v => hw D vwCl A u v.heap) A) 0 0 A := by
  refine Met.ofH (cc := b_M_loanOfItem) (maxL := 4) (ret := (some .int)) (lv := [(0, .ref (ma 0)), (1, .int x)]) (by decide) (Nat.le_of_ble_eq_true rfl) rfl ?_
  intro p e s m below meth c ls X hP hS hl
  obtain ⟨hx, hb, hml, hr, hts, hown, hlocks, hK, hEs, hA, hnm⟩ := id X
  obtain ⟨fm, fj, hM, hR1, hR2, hR3, hR6, hR20, hR11⟩ := id hMx
  have m0 := hM.1
  have hinj := hM.2.2
  have m7 : g (ma 7) = some (arI t 121 (fm 7)) := hM.2.1 7 (by decide) (by decide)
  have m10 : g (ma 10) = some (arI t 121 (fm 10)) := hM.2.1 10 (by decide) (by decide)
  have hn1 := hV.1.1
  have hn2 := hV.1.2.1
  have hn3 := hV.1.2.2.1
  have hn4 := hV.1.2.2.2
  refine lv_iconst (v := 0) hx hb d_M_loanOfItem_0 (by decide) ?_
  refine lv_istore_n (lv' := [(2, .int 0), (0, .ref (ma 0)), (1, .int x)]) hx hb d_M_loanOfItem_1 rfl hl (by decide) rfl (fun ls hl => ?_)
  refine lv_iconst (v := 1) hx hb d_M_loanOfItem_2 (by decide) ?_
  refine lv_istore_n (lv' := [(3, .int 1), (2, .int 0), (0, .ref (ma 0)), (1, .int x)]) hx hb d_M_loanOfItem_3 rfl hl (by decide) rfl (fun ls hl => ?_)
  exact lp_M_loanOfItem g ma tv σ fm fj x hM ⟨hR1, hR2, hR3, hR6, hR20, hR11⟩ hV X (sNL σ + 1) 0 0 _ _ ls (Nat.zero_le _) (by omega) rfl hP hS (lv_sub hl [0, 1, 2, 3] rfl)
theorem k_M_114 {p : Program} {l : Launch} {e : Env} {R : Room} {s : State} {m : MethodId} {args : Array Value} {below : List Frame} {meth : Method} {c : Code} {H : Heap} {locs : List Loc} {cells slots : Nat} {Q : State → Prop} {cc : ByteArray} {pc : Nat} {ls : Array Slot} {rest : List Value} {D : va_G} {A : Nat → Prop} {t : Nat → ClassId} {g : hG} {nL : Nat} {ret0 : Option FieldType} {nm : String} (X : Cx p s m args meth c R_M cc nL ret0 TB D vwCl (tyL t) EX A nm) (hR : 0 + 1 ≤ R.frames ∧ 8 + (4 + 11) + 0 ≤ R.locals) (hf : cells + 0 ≤ R.cells ∧ slots + 0 ≤ R.slots) (hls : ls.size = nL) (hP : hw D vwCl A g H) (hS : va_S A s.heap H locs) {ma : Nat → Nat} {tv : Int32} {σ : SS} {x : Int32} {fs9 : List Value} (he9 : g (ma 0) = some (.inr (6, fs9))) (hMx : RMx t ma tv σ g) (hV : Inv σ)  (hW : (rest.map fun v => v.category).sum ≤ 8) (hdg : decode cc pc = .ok (.invokevirtual 114, 3)) (kk : ∀ (r : Int32) (H1 : Heap) (locs1 : List Loc), r = nI (lof (sLV σ) x (sNL σ)) → hw D vwCl A (g) H1 → va_S A s.heap H1 locs1 → W p l e R s m args below meth c H1 locs1 (cells + 0) (slots + 0) Q (F0 m (pc + 3) ls (.int r :: rest))) : W p l e R s m args below meth c H locs cells slots Q (F0 m pc ls (.int x :: .ref (ma 0) :: rest)) :=
  h_ci (runV (C := R_M) (T := F_M) (N := 26) X (c_M_loanOfItem l D t A g ma tv σ x hMx hV) (tbm 571 (by decide +kernel)) (tbm 573 (by decide +kernel)) (tbm 10 (by decide +kernel)) (tbm 23 (by decide +kernel)) (tbm 574 (by decide +kernel)) rfl (n := 1) (by decide +kernel) hR hf hP he9 hS hls rfl rfl hW hdg) hS (fun r u H1 locs1 hp hP1 hS1 => kk r H1 locs1 hp.1 (hp.2 ▸ hP1) hS1)

set_option maxHeartbeats 4000000 in
set_option maxRecDepth 100000 in
theorem c_M_isLent (l : Launch) (D : va_G) (t : Nat → ClassId) (A : Nat → Prop) (g : hG) (ma : Nat → Nat) (tv : Int32) (σ : SS) (x : Int32) (hMx : RMx t ma tv σ g) (hV : Inv σ) : Met l y_M_isLent (Cond.code y_M_isLent b_M_isLent 2 (some .boolean) :: TB) ({ frames := 1, cells := 0, slots := 0, locals := 25 } : Room) (va_Pc [.ref (ma 0), .int x] (hI D vwCl (tyL t) EX A g)) (va_Qi (fun r u => r = bi (lentN σ x).isSome ∧ u = g) (fun u v => hw D vwCl A u v.heap) A) 0 0 A := by
  refine Met.ofH (cc := b_M_isLent) (maxL := 2) (ret := (some .boolean)) (lv := [(0, .ref (ma 0)), (1, .int x)]) (by decide) (Nat.le_of_ble_eq_true rfl) rfl ?_
  intro p e s m below meth c ls X hP hS hl
  obtain ⟨hx, hb, hml, hr, hts, hown, hlocks, hK, hEs, hA, hnm⟩ := id X
  obtain ⟨fm, fj, hM, hR1, hR2, hR3, hR6, hR20, hR11⟩ := id hMx
  have m0 := hM.1
  have hinj := hM.2.2
  have m10 : g (ma 10) = some (arI t 121 (fm 10)) := hM.2.1 10 (by decide) (by decide)
  have hn1 := hV.1.1
  have hn2 := hV.1.2.1
  have hn3 := hV.1.2.2.1
  have hn4 := hV.1.2.2.2
  refine lv_iload_n hx hb d_M_isLent_0 rfl (lv_at hl 1 rfl) ?_
  refine lv_i2l hx hb d_M_isLent_1 rfl ?_
  refine lv_lconst (v := 1) hx hb d_M_isLent_2 (by decide) ?_
  refine lv_aload_n hx hb d_M_isLent_3 rfl (lv_at hl 0 rfl) ?_
  refine g_M_107 X hb hP m0 rfl d_M_isLent_4 ?_
  refine lv_i2l hx hb d_M_isLent_7 rfl ?_
  refine k_M_81 X ⟨Nat.le_of_ble_eq_true rfl, Nat.le_of_ble_eq_true rfl⟩ ⟨Nat.le_of_ble_eq_true rfl, Nat.le_of_ble_eq_true rfl⟩ hl.1 hP hS (by exact Nat.le_of_ble_eq_true rfl) d_M_isLent_8 (fun r_1 H locs er_1 hP hS => ?_)
  refine lv_if_eq (tgt := 28) hx hb d_M_isLent_11 (by decide) (fun c_2 => ?_) (fun c_2 => ?_)
  · have t_1 := bi_0.mp (er_1 ▸ c_2)
    refine lv_iconst (v := 0) hx hb d_M_isLent_28 (by decide) ?_
    exact h_zret hx hb hr hlocks (rfl) (Nat.le_of_ble_eq_true rfl) (Nat.le_of_ble_eq_true rfl) hP hS (⟨by rw [lentN_w (by rw [← wl_i]; exact t_1)]; rfl, rfl⟩) d_M_isLent_29
  · have t_1 := bi_n0.mp (er_1 ▸ c_2)
    have hw9 : wi x 1 (nI (sNL σ)) = true := by rw [← wl_i]; exact t_1
    obtain ⟨k, hk, rfl⟩ := wi_num (by omega) hw9
    refine lv_aload_n hx hb d_M_isLent_14 rfl (lv_at hl 0 rfl) ?_
    refine g_M_38 X hb hP m0 rfl d_M_isLent_15 ?_
    refine lv_iload_n hx hb d_M_isLent_18 rfl (lv_at hl 1 rfl) ?_
    refine n_iald X hb hP m10 ⟨by omega, by decide⟩ d_M_isLent_19 ?_
    refine lv_iconst (v := 1) hx hb d_M_isLent_20 (by decide) ?_
    refine lv_icmp_ne (tgt := 28) hx hb d_M_isLent_21 (by decide) (fun c_3 => ?_) (fun c_3 => ?_)
    · refine lv_iconst (v := 0) hx hb d_M_isLent_28 (by decide) ?_
      exact h_zret hx hb hr hlocks (rfl) (Nat.le_of_ble_eq_true rfl) (Nat.le_of_ble_eq_true rfl) hP hS (⟨by rw [lentN_n hV hk (fun z => c_3 (by rw [(hR2 k hk).2.2.2.1, z]; rfl))]; rfl, rfl⟩) d_M_isLent_29
    · refine lv_iconst (v := 1) hx hb d_M_isLent_24 (by decide) ?_
      refine lv_goto (tgt := 29) hx hb d_M_isLent_25 (by decide) ?_
      exact h_zret hx hb hr hlocks (rfl) (Nat.le_of_ble_eq_true rfl) (Nat.le_of_ble_eq_true rfl) hP hS (⟨by rw [lentN_y hV hk ((nI_small (by have := (hV.2.2.1 k hk).2.2.2.1; omega) (b := 1) (by decide)).mp (by rw [← (hR2 k hk).2.2.2.1]; exact c_3))]; rfl, rfl⟩) d_M_isLent_29
theorem k_M_118 {p : Program} {l : Launch} {e : Env} {R : Room} {s : State} {m : MethodId} {args : Array Value} {below : List Frame} {meth : Method} {c : Code} {H : Heap} {locs : List Loc} {cells slots : Nat} {Q : State → Prop} {cc : ByteArray} {pc : Nat} {ls : Array Slot} {rest : List Value} {D : va_G} {A : Nat → Prop} {t : Nat → ClassId} {g : hG} {nL : Nat} {ret0 : Option FieldType} {nm : String} (X : Cx p s m args meth c R_M cc nL ret0 TB D vwCl (tyL t) EX A nm) (hR : 1 + 1 ≤ R.frames ∧ 8 + (2 + 11) + 25 ≤ R.locals) (hf : cells + 0 ≤ R.cells ∧ slots + 0 ≤ R.slots) (hls : ls.size = nL) (hP : hw D vwCl A g H) (hS : va_S A s.heap H locs) {ma : Nat → Nat} {tv : Int32} {σ : SS} {x : Int32} {fs9 : List Value} (he9 : g (ma 0) = some (.inr (6, fs9))) (hMx : RMx t ma tv σ g) (hV : Inv σ)  (hW : (rest.map fun v => v.category).sum ≤ 8) (hdg : decode cc pc = .ok (.invokevirtual 118, 3)) (kk : ∀ (r : Int32) (H1 : Heap) (locs1 : List Loc), r = bi (lentN σ x).isSome → hw D vwCl A (g) H1 → va_S A s.heap H1 locs1 → W p l e R s m args below meth c H1 locs1 (cells + 0) (slots + 0) Q (F0 m (pc + 3) ls (.int r :: rest))) : W p l e R s m args below meth c H locs cells slots Q (F0 m pc ls (.int x :: .ref (ma 0) :: rest)) :=
  h_ci (runV (C := R_M) (T := F_M) (N := 26) X (c_M_isLent l D t A g ma tv σ x hMx hV) (tbm 579 (by decide +kernel)) (tbm 581 (by decide +kernel)) (tbm 11 (by decide +kernel)) (tbm 23 (by decide +kernel)) (tbm 582 (by decide +kernel)) rfl (n := 1) (by decide +kernel) hR hf hP he9 hS hls rfl rfl hW hdg) hS (fun r u H1 locs1 hp hP1 hS1 => kk r H1 locs1 hp.1 (hp.2 ▸ hP1) hS1)
