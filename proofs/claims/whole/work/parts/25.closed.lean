set_option maxRecDepth 100000 in
theorem c_C_openDays (l : Launch) (D : va_G) (t : Nat → ClassId) (A : Nat → Prop) (g : hG) (a : Nat) (n : Nat) (ad : Nat) (f : Nat → Int64) (x y : Int64) (he : g a = some (cCl ad (nI n))) (ha : g ad = some (arJ t 100 f)) (hn : n ≤ 100) : Met l y_C_openDays (Cond.code y_C_openDays b_C_openDays 5 (some .long) :: TB) ({ frames := 1, cells := 0, slots := 0, locals := 26 } : Room) (va_Pc [.ref a, .long x, .long y] (hI D vwCl (tyL t) EX A g)) (va_Ql (fun r u => r = opD f n x y ∧ u = g) (fun u v => hw D vwCl A u v.heap) A) 0 0 A := by
  refine Met.ofH (cc := b_C_openDays) (maxL := 5) (ret := (some .long)) (lv := [(0, .ref a), (1, .long x), (3, .long y)]) (by decide) (Nat.le_of_ble_eq_true rfl) rfl ?_
  intro p e s m below meth c ls X hP hS hl
  obtain ⟨hx, hb, hml, hr, hts, hown, hlocks, hK, hEs, hA, hnm⟩ := id X
  refine lv_lload_n hx hb d_C_openDays_0 rfl (lv_at hl 2 rfl) ?_
  refine lv_lload_n hx hb d_C_openDays_1 rfl (lv_at hl 1 rfl) ?_
  refine W.lcmp hx hb d_C_openDays_2 ?_
  refine lv_if_le (tgt := 20) hx hb d_C_openDays_3 (by decide) (fun c_1 => ?_) (fun c_1 => ?_)
  · rw [lg_cmp_le] at c_1
    refine lv_lconst (v := 0) hx hb d_C_openDays_20 (by decide) ?_
    exact h_lret hx hb hr hlocks (Nat.le_of_ble_eq_true rfl) (Nat.le_of_ble_eq_true rfl) hP hS (⟨by simp [opD, c_1], rfl⟩) d_C_openDays_21
  · rw [lg_cmp_le] at c_1
    refine lv_lload_n hx hb d_C_openDays_6 rfl (lv_at hl 2 rfl) ?_
    refine lv_lload_n hx hb d_C_openDays_7 rfl (lv_at hl 1 rfl) ?_
    refine lv_lsub hx hb d_C_openDays_8 ?_
    refine lv_aload_n hx hb d_C_openDays_9 rfl (lv_at hl 0 rfl) ?_
    refine lv_lload_n hx hb d_C_openDays_10 rfl (lv_at hl 1 rfl) ?_
    refine lv_lload_n hx hb d_C_openDays_11 rfl (lv_at hl 2 rfl) ?_
    refine k_C_19 X ⟨Nat.le_of_ble_eq_true rfl, Nat.le_of_ble_eq_true rfl⟩ ⟨Nat.le_of_ble_eq_true rfl, Nat.le_of_ble_eq_true rfl⟩ hl.1 hP hS he he ha hn (by exact Nat.le_of_ble_eq_true rfl) d_C_openDays_12 (fun r_2 H locs er_2 hP hS => ?_)
    refine lv_i2l hx hb d_C_openDays_15 rfl ?_
    refine lv_lsub hx hb d_C_openDays_16 ?_
    refine lv_goto (tgt := 21) hx hb d_C_openDays_17 (by decide) ?_
    exact h_lret hx hb hr hlocks (Nat.le_of_ble_eq_true rfl) (Nat.le_of_ble_eq_true rfl) hP hS (⟨by rw [er_2]; simp [opD, c_1], rfl⟩) d_C_openDays_21
theorem k_F_202 {p : Program} {l : Launch} {e : Env} {R : Room} {s : State} {m : MethodId} {args : Array Value} {below : List Frame} {meth : Method} {c : Code} {H : Heap} {locs : List Loc} {cells slots : Nat} {Q : State → Prop} {cc : ByteArray} {pc : Nat} {ls : Array Slot} {rest : List Value} {D : va_G} {A : Nat → Prop} {t : Nat → ClassId} {g : hG} {nL : Nat} {ret0 : Option FieldType} {nm : String} (X : Cx p s m args meth c R_F cc nL ret0 TB D vwCl (tyL t) EX A nm) (hR : 1 + 1 ≤ R.frames ∧ 8 + (5 + 11) + 26 ≤ R.locals) (hf : cells + 0 ≤ R.cells ∧ slots + 0 ≤ R.slots) (hls : ls.size = nL) (hP : hw D vwCl A g H) (hS : va_S A s.heap H locs) {a : Nat} {n : Nat} {ad : Nat} {f : Nat → Int64} {x y : Int64} {fs9 : List Value} (he9 : g a = some (.inr (1, fs9))) (he : g a = some (cCl ad (nI n))) (ha : g ad = some (arJ t 100 f)) (hn : n ≤ 100) (hW : (rest.map fun v => v.category).sum ≤ 8) (hdg : decode cc pc = .ok (.invokevirtual 202, 3)) (kk : ∀ (r : Int64) (H1 : Heap) (locs1 : List Loc), r = opD f n x y → hw D vwCl A (g) H1 → va_S A s.heap H1 locs1 → W p l e R s m args below meth c H1 locs1 (cells + 0) (slots + 0) Q (F0 m (pc + 3) ls (.long r :: rest))) : W p l e R s m args below meth c H locs cells slots Q (F0 m pc ls (.long y :: .long x :: .ref a :: rest)) :=
  h_cl (runV (C := R_C) (T := F_C) (N := 2) X (c_C_openDays l D t A g a n ad f x y he ha hn) (tbm 217 (by decide +kernel)) (tbm 218 (by decide +kernel)) (tbm 219 (by decide +kernel)) (tbm 22 (by decide +kernel)) (tbm 220 (by decide +kernel)) rfl (n := 2) (by decide +kernel) hR hf hP he9 hS hls rfl rfl hW hdg) hS (fun r u H1 locs1 hp hP1 hS1 => kk r H1 locs1 hp.1 (hp.2 ▸ hP1) hS1)

/-- a day can be closed: there is room, and it is not closed yet -/
def cadd (f : Nat → Int64) (n : Nat) (x : Int64) : Bool := decide (n < 100) && decide (cB f (x - 1) x n ≤ 0)
def cAdd (t : Nat → ClassId) (g : hG) (a ad : Nat) (f : Nat → Int64) (n : Nat) (x : Int64) : hG := if cadd f n x then va_up (va_up g ad (some (arJ t 100 (va_up f n x)))) a (some (cCl ad (nI (n + 1)))) else g
set_option maxRecDepth 100000 in
theorem c_C_add (l : Launch) (D : va_G) (t : Nat → ClassId) (A : Nat → Prop) (g : hG) (a : Nat) (n : Nat) (ad : Nat) (f : Nat → Int64) (x : Int64) (he : g a = some (cCl ad (nI n))) (ha : g ad = some (arJ t 100 f)) (hn : n ≤ 100) : Met l y_C_add (Cond.code y_C_add b_C_add 3 (some .boolean) :: TB) ({ frames := 1, cells := 0, slots := 0, locals := 26 } : Room) (va_Pc [.ref a, .long x] (hI D vwCl (tyL t) EX A g)) (va_Qi (fun r u => r = bi (cadd f n x) ∧ u = cAdd t g a ad f n x) (fun u v => hw D vwCl A u v.heap) A) 0 0 A := by
  refine Met.ofH (cc := b_C_add) (maxL := 3) (ret := (some .boolean)) (lv := [(0, .ref a), (1, .long x)]) (by decide) (Nat.le_of_ble_eq_true rfl) rfl ?_
  intro p e s m below meth c ls X hP hS hl
  obtain ⟨hx, hb, hml, hr, hts, hown, hlocks, hK, hEs, hA, hnm⟩ := id X
  refine lv_aload_n hx hb d_C_add_0 rfl (lv_at hl 0 rfl) ?_
  refine g_C_15 X hb hP he rfl d_C_add_1 ?_
  refine lv_bipush (v := 100) hx hb d_C_add_4 (by decide) ?_
  refine lv_icmp_ge (tgt := 20) hx hb d_C_add_6 (by decide) (fun c_1 => ?_) (fun c_1 => ?_)
  · have hc : cadd f n x = false := by simp [cadd, Nat.not_lt.mpr ((nI_leI (a := 100) (by decide) (by omega)).mp c_1)]
    refine lv_iconst (v := 0) hx hb d_C_add_20 (by decide) ?_
    exact h_zret hx hb hr hlocks (rfl) (Nat.le_of_ble_eq_true rfl) (Nat.le_of_ble_eq_true rfl) hP hS (⟨by rw [hc]; rfl, by rw [cAdd, hc]; rfl⟩) d_C_add_21
  · have hlt : n < 100 := Nat.lt_of_not_le (fun q => c_1 (nI_le (a := 100) q (by omega)))
    refine lv_aload_n hx hb d_C_add_9 rfl (lv_at hl 0 rfl) ?_
    refine lv_lload_n hx hb d_C_add_10 rfl (lv_at hl 1 rfl) ?_
    refine lv_lconst (v := 1) hx hb d_C_add_11 (by decide) ?_
    refine lv_lsub hx hb d_C_add_12 ?_
    refine lv_lload_n hx hb d_C_add_13 rfl (lv_at hl 1 rfl) ?_
    refine k_C_19 X ⟨Nat.le_of_ble_eq_true rfl, Nat.le_of_ble_eq_true rfl⟩ ⟨Nat.le_of_ble_eq_true rfl, Nat.le_of_ble_eq_true rfl⟩ hl.1 hP hS he he ha hn (by exact Nat.le_of_ble_eq_true rfl) d_C_add_14 (fun r_2 H locs er_2 hP hS => ?_)
    refine lv_if_le (tgt := 22) hx hb d_C_add_17 (by decide) (fun c_3 => ?_) (fun c_3 => ?_)
    · have hc : cadd f n x = true := by rw [er_2] at c_3; simp [cadd, hlt, c_3]
      refine lv_aload_n hx hb d_C_add_22 rfl (lv_at hl 0 rfl) ?_
      refine g_C_9 X hb hP he rfl d_C_add_23 ?_
      refine lv_aload_n hx hb d_C_add_26 rfl (lv_at hl 0 rfl) ?_
      refine g_C_15 X hb hP he rfl d_C_add_27 ?_
      refine lv_lload_n hx hb d_C_add_30 rfl (lv_at hl 1 rfl) ?_
      refine n_last X hb hP hS ha ⟨hlt, by decide⟩ d_C_add_31 (fun H locs hP hS => ?_)
      have he_4 := up_at (o := some (arJ t 100 (va_up f n x))) he (hw_kd he ha rfl)
      have he_5 := va_up_self g ad (some (arJ t 100 (va_up f n x) : va_E))
      have hP : hw D vwCl A (va_up g ad (some (arJ t 100 (va_up f n x)))) H := hP
      refine lv_aload_n hx hb d_C_add_32 rfl (lv_at hl 0 rfl) ?_
      refine lv_dup hx hb d_C_add_33 rfl ?_
      refine g_C_15 X hb hP he_4 rfl d_C_add_34 ?_
      refine lv_iconst (v := 1) hx hb d_C_add_37 (by decide) ?_
      refine lv_iadd hx hb d_C_add_38 ?_
      refine lv_topi (fun x_6 ex_6 => ?_)
      refine p_C_15 X hb hP hS he_4 (Nat.le_of_ble_eq_true rfl) d_C_add_39 (fun H locs hP hS => ?_)
      have he_7 := up_at (o := some (.inr (1, [.ref ad, .int x_6]))) he_5 (hw_kd he_5 he_4 rfl)
      have he_8 := va_up_self (va_up g ad (some (arJ t 100 (va_up f n x)))) a (some (.inr (1, [.ref ad, .int x_6]) : va_E))
      have hP : hw D vwCl A (va_up (va_up g ad (some (arJ t 100 (va_up f n x)))) a (some (.inr (1, [.ref ad, .int x_6])))) H := hP
      refine lv_iconst (v := 1) hx hb d_C_add_42 (by decide) ?_
      exact h_zret hx hb hr hlocks (rfl) (Nat.le_of_ble_eq_true rfl) (Nat.le_of_ble_eq_true rfl) hP hS (⟨by rw [hc]; rfl, by rw [cAdd, hc, ex_6, nI_1]; rfl⟩) d_C_add_43
    · have hc : cadd f n x = false := by rw [er_2] at c_3; simp [cadd, hlt, c_3]
      refine lv_iconst (v := 0) hx hb d_C_add_20 (by decide) ?_
      exact h_zret hx hb hr hlocks (rfl) (Nat.le_of_ble_eq_true rfl) (Nat.le_of_ble_eq_true rfl) hP hS (⟨by rw [hc]; rfl, by rw [cAdd, hc]; rfl⟩) d_C_add_21
theorem k_F_80 {p : Program} {l : Launch} {e : Env} {R : Room} {s : State} {m : MethodId} {args : Array Value} {below : List Frame} {meth : Method} {c : Code} {H : Heap} {locs : List Loc} {cells slots : Nat} {Q : State → Prop} {cc : ByteArray} {pc : Nat} {ls : Array Slot} {rest : List Value} {D : va_G} {A : Nat → Prop} {t : Nat → ClassId} {g : hG} {nL : Nat} {ret0 : Option FieldType} {nm : String} (X : Cx p s m args meth c R_F cc nL ret0 TB D vwCl (tyL t) EX A nm) (hR : 1 + 1 ≤ R.frames ∧ 8 + (3 + 11) + 26 ≤ R.locals) (hf : cells + 0 ≤ R.cells ∧ slots + 0 ≤ R.slots) (hls : ls.size = nL) (hP : hw D vwCl A g H) (hS : va_S A s.heap H locs) {a : Nat} {n : Nat} {ad : Nat} {f : Nat → Int64} {x : Int64} {fs9 : List Value} (he9 : g a = some (.inr (1, fs9))) (he : g a = some (cCl ad (nI n))) (ha : g ad = some (arJ t 100 f)) (hn : n ≤ 100) (hW : (rest.map fun v => v.category).sum ≤ 8) (hdg : decode cc pc = .ok (.invokevirtual 80, 3)) (kk : ∀ (r : Int32) (H1 : Heap) (locs1 : List Loc), r = bi (cadd f n x) → hw D vwCl A (cAdd t g a ad f n x) H1 → va_S A s.heap H1 locs1 → W p l e R s m args below meth c H1 locs1 (cells + 0) (slots + 0) Q (F0 m (pc + 3) ls (.int r :: rest))) : W p l e R s m args below meth c H locs cells slots Q (F0 m pc ls (.long x :: .ref a :: rest)) :=
  h_ci (runV (C := R_C) (T := F_C) (N := 2) X (c_C_add l D t A g a n ad f x he ha hn) (tbm 146 (by decide +kernel)) (tbm 147 (by decide +kernel)) (tbm 148 (by decide +kernel)) (tbm 22 (by decide +kernel)) (tbm 149 (by decide +kernel)) rfl (n := 1) (by decide +kernel) hR hf hP he9 hS hls rfl rfl hW hdg) hS (fun r u H1 locs1 hp hP1 hS1 => kk r H1 locs1 hp.1 (hp.2 ▸ hP1) hS1)
