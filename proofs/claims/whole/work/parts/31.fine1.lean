set_option maxRecDepth 100000 in
theorem c_F_ruleNumbered (l : Launch) (D : va_G) (t : Nat → ClassId) (A : Nat → Prop) (g : hG) (a : Nat) (ra rn la ln ia dr cd cr : Nat) (bl : Int32) (fR : Nat → Option Nat) (x : Int32) (he : g a = some (cFi ra (nI rn) la (nI ln) ia dr cd cr bl)) (hr1 : g ra = some (arQ t 3 10 fR)) (hn : rn ≤ 10) : Met l y_F_ruleNumbered (Cond.code y_F_ruleNumbered b_F_ruleNumbered 2 (some (.object "FineRows$Rule")) :: TB) ({ frames := 1, cells := 0, slots := 0, locals := 22 } : Room) (va_Pc [.ref a, .int x] (hI D vwCl (tyL t) EX A g)) (va_Qq (fun r u => r = ordQ fR rn x ∧ u = g) (fun u v => hw D vwCl A u v.heap) A) 0 0 A := by
  refine Met.ofH (cc := b_F_ruleNumbered) (maxL := 2) (ret := (some (.object "FineRows$Rule"))) (lv := [(0, .ref a), (1, .int x)]) (by decide) (Nat.le_of_ble_eq_true rfl) rfl ?_
  intro p e s m below meth c ls X hP hS hl
  obtain ⟨hx, hb, hml, hr, hts, hown, hlocks, hK, hEs, hA, hnm⟩ := id X
  refine lv_iload_n hx hb d_F_ruleNumbered_0 rfl (lv_at hl 1 rfl) ?_
  refine lv_iconst (v := 0) hx hb d_F_ruleNumbered_1 (by decide) ?_
  refine lv_aload_n hx hb d_F_ruleNumbered_2 rfl (lv_at hl 0 rfl) ?_
  refine g_F_52 X hb hP he rfl d_F_ruleNumbered_3 ?_
  refine lv_iconst (v := 1) hx hb d_F_ruleNumbered_6 (by decide) ?_
  refine lv_isub hx hb d_F_ruleNumbered_7 ?_
  refine k_F_47 X ⟨Nat.le_of_ble_eq_true rfl, Nat.le_of_ble_eq_true rfl⟩ ⟨Nat.le_of_ble_eq_true rfl, Nat.le_of_ble_eq_true rfl⟩ hl.1 hP hS (by exact Nat.le_of_ble_eq_true rfl) d_F_ruleNumbered_8 (fun r_1 H locs er_1 hP hS => ?_)
  refine lv_if_eq (tgt := 23) hx hb d_F_ruleNumbered_11 (by decide) (fun c_2 => ?_) (fun c_2 => ?_)
  · have t_1 := bi_0.mp (er_1 ▸ c_2)
    refine lv_null hx hb d_F_ruleNumbered_23 ?_
    exact h_aret (r := none) hx hb hr hlocks (Nat.le_of_ble_eq_true rfl) (Nat.le_of_ble_eq_true rfl) hP hS (⟨(ordQ_no (bi_0.mp (er_1 ▸ c_2))).symm, rfl⟩) d_F_ruleNumbered_24
  · have t_1 := bi_n0.mp (er_1 ▸ c_2)
    obtain ⟨k, hk, rfl⟩ := wi_ord (by omega) (bi_n0.mp (er_1 ▸ c_2))
    refine lv_aload_n hx hb d_F_ruleNumbered_14 rfl (lv_at hl 0 rfl) ?_
    refine g_F_11 X hb hP he rfl d_F_ruleNumbered_15 ?_
    refine lv_iload_n hx hb d_F_ruleNumbered_18 rfl (lv_at hl 1 rfl) ?_
    refine n_aald X hb hP 3 hr1 rfl ⟨by omega, by decide⟩ d_F_ruleNumbered_19 ?_
    refine lv_goto (tgt := 24) hx hb d_F_ruleNumbered_20 (by decide) ?_
    exact h_aret (r := (fR k)) hx hb hr hlocks (Nat.le_of_ble_eq_true rfl) (Nat.le_of_ble_eq_true rfl) hP hS (⟨(ordQ_at (by omega) hk).symm, rfl⟩) d_F_ruleNumbered_24
theorem k_F_58 {p : Program} {l : Launch} {e : Env} {R : Room} {s : State} {m : MethodId} {args : Array Value} {below : List Frame} {meth : Method} {c : Code} {H : Heap} {locs : List Loc} {cells slots : Nat} {Q : State → Prop} {cc : ByteArray} {pc : Nat} {ls : Array Slot} {rest : List Value} {D : va_G} {A : Nat → Prop} {t : Nat → ClassId} {g : hG} {nL : Nat} {ret0 : Option FieldType} {nm : String} (X : Cx p s m args meth c R_F cc nL ret0 TB D vwCl (tyL t) EX A nm) (hR : 1 + 1 ≤ R.frames ∧ 8 + (2 + 11) + 22 ≤ R.locals) (hf : cells + 0 ≤ R.cells ∧ slots + 0 ≤ R.slots) (hls : ls.size = nL) (hP : hw D vwCl A g H) (hS : va_S A s.heap H locs) {a : Nat} {ra rn la ln ia dr cd cr : Nat} {bl : Int32} {fR : Nat → Option Nat} {x : Int32} {fs9 : List Value} (he9 : g a = some (.inr (0, fs9))) (he : g a = some (cFi ra (nI rn) la (nI ln) ia dr cd cr bl)) (hr1 : g ra = some (arQ t 3 10 fR)) (hn : rn ≤ 10) (hW : (rest.map fun v => v.category).sum ≤ 8) (hdg : decode cc pc = .ok (.invokevirtual 58, 3)) (kk : ∀ (r : Option Nat) (H1 : Heap) (locs1 : List Loc), r = ordQ fR rn x → hw D vwCl A (g) H1 → va_S A s.heap H1 locs1 → W p l e R s m args below meth c H1 locs1 (cells + 0) (slots + 0) Q (F0 m (pc + 3) ls (va_rf r :: rest))) : W p l e R s m args below meth c H locs cells slots Q (F0 m pc ls (.int x :: .ref a :: rest)) :=
  h_cq (runV (C := R_F) (T := F_F) (N := 9) X (c_F_ruleNumbered l D t A g a ra rn la ln ia dr cd cr bl fR x he hr1 hn) (tbm 158 (by decide +kernel)) (tbm 160 (by decide +kernel)) (tbm 1 (by decide +kernel)) (tbm 20 (by decide +kernel)) (tbm 161 (by decide +kernel)) rfl (n := 1) (by decide +kernel) hR hf hP he9 hS hls rfl rfl hW hdg) hS (fun r u H1 locs1 hp hP1 hS1 => kk r H1 locs1 hp.1 (hp.2 ▸ hP1) hS1)

set_option maxRecDepth 100000 in
theorem c_F_lentLoanNumbered (l : Launch) (D : va_G) (t : Nat → ClassId) (A : Nat → Prop) (g : hG) (a : Nat) (ra rn la ln ia dr cd cr : Nat) (bl : Int32) (fL : Nat → Option Nat) (aL : Nat → Nat) (lc : Nat → LC) (x : Int32) (he : g a = some (cFi ra (nI rn) la (nI ln) ia dr cd cr bl)) (hl1 : g la = some (arQ t 4 120 fL)) (hn : ln ≤ 120) (hL : ∀ i, i < ln → fL i = some (aL i)) (hLc : ∀ i, i < ln → g (aL i) = some (cLc (lc i))) : Met l y_F_lentLoanNumbered (Cond.code y_F_lentLoanNumbered b_F_lentLoanNumbered 3 (some (.object "FineRows$Loan")) :: TB) ({ frames := 1, cells := 0, slots := 0, locals := 22 } : Room) (va_Pc [.ref a, .int x] (hI D vwCl (tyL t) EX A g)) (va_Qq (fun r u => r = lnQ aL lc ln x ∧ u = g) (fun u v => hw D vwCl A u v.heap) A) 0 0 A := by
  refine Met.ofH (cc := b_F_lentLoanNumbered) (maxL := 3) (ret := (some (.object "FineRows$Loan"))) (lv := [(0, .ref a), (1, .int x)]) (by decide) (Nat.le_of_ble_eq_true rfl) rfl ?_
  intro p e s m below meth c ls X hP hS hl
  obtain ⟨hx, hb, hml, hr, hts, hown, hlocks, hK, hEs, hA, hnm⟩ := id X
  refine lv_iload_n hx hb d_F_lentLoanNumbered_0 rfl (lv_at hl 1 rfl) ?_
  refine lv_iconst (v := 1) hx hb d_F_lentLoanNumbered_1 (by decide) ?_
  refine lv_aload_n hx hb d_F_lentLoanNumbered_2 rfl (lv_at hl 0 rfl) ?_
  refine g_F_93 X hb hP he rfl d_F_lentLoanNumbered_3 ?_
  refine k_F_47 X ⟨Nat.le_of_ble_eq_true rfl, Nat.le_of_ble_eq_true rfl⟩ ⟨Nat.le_of_ble_eq_true rfl, Nat.le_of_ble_eq_true rfl⟩ hl.1 hP hS (by exact Nat.le_of_ble_eq_true rfl) d_F_lentLoanNumbered_6 (fun r_1 H locs er_1 hP hS => ?_)
  refine lv_if_ne (tgt := 14) hx hb d_F_lentLoanNumbered_9 (by decide) (fun c_2 => ?_) (fun c_2 => ?_)
  · have t_1 := bi_n0.mp (er_1 ▸ c_2)
    obtain ⟨k, hk, rfl⟩ := wi_num (by omega) (bi_n0.mp (er_1 ▸ c_2))
    refine lv_aload_n hx hb d_F_lentLoanNumbered_14 rfl (lv_at hl 0 rfl) ?_
    refine g_F_17 X hb hP he rfl d_F_lentLoanNumbered_15 ?_
    refine lv_iload_n hx hb d_F_lentLoanNumbered_18 rfl (lv_at hl 1 rfl) ?_
    refine lv_iconst (v := 1) hx hb d_F_lentLoanNumbered_19 (by decide) ?_
    refine lv_isub hx hb d_F_lentLoanNumbered_20 ?_
    rw [nI_pred]
    refine n_aald X hb hP 4 hl1 rfl ⟨by omega, by decide⟩ d_F_lentLoanNumbered_21 ?_
    refine lv_some (y := (aL k)) (hL k hk) ?_
    refine lv_astore_n (lv' := [(2, .ref (aL k)), (0, .ref a), (1, .int (nI (k + 1)))]) hx hb d_F_lentLoanNumbered_22 rfl hl (by decide) rfl (fun ls hl => ?_)
    refine lv_aload_n hx hb d_F_lentLoanNumbered_23 rfl (lv_at hl 0 rfl) ?_
    refine lv_ifnull hx hb d_F_lentLoanNumbered_24 ?_
    refine lv_aload_n hx hb d_F_lentLoanNumbered_27 rfl (lv_at hl 0 rfl) ?_
    refine k_F_192 X ⟨Nat.le_of_ble_eq_true rfl, Nat.le_of_ble_eq_true rfl⟩ ⟨Nat.le_of_ble_eq_true rfl, Nat.le_of_ble_eq_true rfl⟩ hl.1 hP hS (hLc k hk) (hLc k hk) (by exact Nat.le_of_ble_eq_true rfl) d_F_lentLoanNumbered_28 (fun r_3 H locs er_3 hP hS => ?_)
    refine lv_if_eq (tgt := 38) hx hb d_F_lentLoanNumbered_31 (by decide) (fun c_4 => ?_) (fun c_4 => ?_)
    · have t_3 := bi_0.mp (er_3 ▸ c_4)
      refine lv_null hx hb d_F_lentLoanNumbered_38 ?_
      exact h_aret (r := none) hx hb hr hlocks (Nat.le_of_ble_eq_true rfl) (Nat.le_of_ble_eq_true rfl) hP hS (⟨(lnQ_not (by omega) hk (bi_0.mp (er_3 ▸ c_4))).symm, rfl⟩) d_F_lentLoanNumbered_39
    · have t_3 := bi_n0.mp (er_3 ▸ c_4)
      refine lv_aload_n hx hb d_F_lentLoanNumbered_34 rfl (lv_at hl 0 rfl) ?_
      refine lv_goto (tgt := 39) hx hb d_F_lentLoanNumbered_35 (by decide) ?_
      exact h_aret (r := some (aL k)) hx hb hr hlocks (Nat.le_of_ble_eq_true rfl) (Nat.le_of_ble_eq_true rfl) hP hS (⟨(lnQ_yes (by omega) hk (bi_n0.mp (er_3 ▸ c_4))).symm, rfl⟩) d_F_lentLoanNumbered_39
  · have t_1 := bi_0.mp (er_1 ▸ c_2)
    refine lv_null hx hb d_F_lentLoanNumbered_12 ?_
    exact h_aret (r := none) hx hb hr hlocks (Nat.le_of_ble_eq_true rfl) (Nat.le_of_ble_eq_true rfl) hP hS (⟨(lnQ_no (bi_0.mp (er_1 ▸ c_2))).symm, rfl⟩) d_F_lentLoanNumbered_13
theorem k_F_99 {p : Program} {l : Launch} {e : Env} {R : Room} {s : State} {m : MethodId} {args : Array Value} {below : List Frame} {meth : Method} {c : Code} {H : Heap} {locs : List Loc} {cells slots : Nat} {Q : State → Prop} {cc : ByteArray} {pc : Nat} {ls : Array Slot} {rest : List Value} {D : va_G} {A : Nat → Prop} {t : Nat → ClassId} {g : hG} {nL : Nat} {ret0 : Option FieldType} {nm : String} (X : Cx p s m args meth c R_F cc nL ret0 TB D vwCl (tyL t) EX A nm) (hR : 1 + 1 ≤ R.frames ∧ 8 + (3 + 11) + 22 ≤ R.locals) (hf : cells + 0 ≤ R.cells ∧ slots + 0 ≤ R.slots) (hls : ls.size = nL) (hP : hw D vwCl A g H) (hS : va_S A s.heap H locs) {a : Nat} {ra rn la ln ia dr cd cr : Nat} {bl : Int32} {fL : Nat → Option Nat} {aL : Nat → Nat} {lc : Nat → LC} {x : Int32} {fs9 : List Value} (he9 : g a = some (.inr (0, fs9))) (he : g a = some (cFi ra (nI rn) la (nI ln) ia dr cd cr bl)) (hl1 : g la = some (arQ t 4 120 fL)) (hn : ln ≤ 120) (hL : ∀ i, i < ln → fL i = some (aL i)) (hLc : ∀ i, i < ln → g (aL i) = some (cLc (lc i))) (hW : (rest.map fun v => v.category).sum ≤ 8) (hdg : decode cc pc = .ok (.invokevirtual 99, 3)) (kk : ∀ (r : Option Nat) (H1 : Heap) (locs1 : List Loc), r = lnQ aL lc ln x → hw D vwCl A (g) H1 → va_S A s.heap H1 locs1 → W p l e R s m args below meth c H1 locs1 (cells + 0) (slots + 0) Q (F0 m (pc + 3) ls (va_rf r :: rest))) : W p l e R s m args below meth c H locs cells slots Q (F0 m pc ls (.int x :: .ref a :: rest)) :=
  h_cq (runV (C := R_F) (T := F_F) (N := 9) X (c_F_lentLoanNumbered l D t A g a ra rn la ln ia dr cd cr bl fL aL lc x he hl1 hn hL hLc) (tbm 204 (by decide +kernel)) (tbm 206 (by decide +kernel)) (tbm 2 (by decide +kernel)) (tbm 20 (by decide +kernel)) (tbm 207 (by decide +kernel)) rfl (n := 1) (by decide +kernel) hR hf hP he9 hS hls rfl rfl hW hdg) hS (fun r u H1 locs1 hp hP1 hS1 => kk r H1 locs1 hp.1 (hp.2 ▸ hP1) hS1)

set_option maxRecDepth 100000 in
theorem c_F_overdueCents (l : Launch) (D : va_G) (t : Nat → ClassId) (A : Nat → Prop) (g : hG) (a b : Nat) (ra rn la ln ia dr cd cr : Nat) (bl : Int32) (w : LC) (v : RV) (n ad : Nat) (f : Nat → Int64) (x : Int64) (he : g a = some (cFi ra (nI rn) la (nI ln) ia dr cd cr bl)) (hb0 : g b = some (cLc w)) (hr1 : g w.2.2.1 = some (cRu v)) (hc0 : g cd = some (cCl ad (nI n))) (ha : g ad = some (arJ t 100 f)) (hn : n ≤ 100) : Met l y_F_overdueCents (Cond.code y_F_overdueCents b_F_overdueCents 4 (some .long) :: TB) ({ frames := 2, cells := 0, slots := 0, locals := 50 } : Room) (va_Pc [.ref a, .ref b, .long x] (hI D vwCl (tyL t) EX A g)) (va_Ql (fun r u => r = rvCents v (opD f n w.2.2.2.1 x) ∧ u = g) (fun u v => hw D vwCl A u v.heap) A) 0 0 A := by
  refine Met.ofH (cc := b_F_overdueCents) (maxL := 4) (ret := (some .long)) (lv := [(0, .ref a), (1, .ref b), (2, .long x)]) (by decide) (Nat.le_of_ble_eq_true rfl) rfl ?_
  intro p e s m below meth c ls X hP hS hl
  obtain ⟨hx, hb, hml, hr, hts, hown, hlocks, hK, hEs, hA, hnm⟩ := id X
  refine lv_aload_n hx hb d_F_overdueCents_0 rfl (lv_at hl 1 rfl) ?_
  refine g_F_195 X hb hP hb0 rfl d_F_overdueCents_1 ?_
  refine lv_aload_n hx hb d_F_overdueCents_4 rfl (lv_at hl 0 rfl) ?_
  refine g_F_34 X hb hP he rfl d_F_overdueCents_5 ?_
  refine lv_aload_n hx hb d_F_overdueCents_8 rfl (lv_at hl 1 rfl) ?_
  refine g_F_199 X hb hP hb0 rfl d_F_overdueCents_9 ?_
  refine lv_lload_n hx hb d_F_overdueCents_12 rfl (lv_at hl 2 rfl) ?_
  refine k_F_202 X ⟨Nat.le_of_ble_eq_true rfl, Nat.le_of_ble_eq_true rfl⟩ ⟨Nat.le_of_ble_eq_true rfl, Nat.le_of_ble_eq_true rfl⟩ hl.1 hP hS hc0 hc0 ha hn (by exact Nat.le_of_ble_eq_true rfl) d_F_overdueCents_13 (fun r_1 H locs er_1 hP hS => ?_)
  refine k_F_205 X ⟨Nat.le_of_ble_eq_true rfl, Nat.le_of_ble_eq_true rfl⟩ ⟨Nat.le_of_ble_eq_true rfl, Nat.le_of_ble_eq_true rfl⟩ hl.1 hP hS hr1 hr1 (by exact Nat.le_of_ble_eq_true rfl) d_F_overdueCents_16 (fun r_2 H locs er_2 hP hS => ?_)
  exact h_lret hx hb hr hlocks (Nat.le_of_ble_eq_true rfl) (Nat.le_of_ble_eq_true rfl) hP hS (⟨by rw [er_2, er_1], rfl⟩) d_F_overdueCents_19
theorem k_F_105 {p : Program} {l : Launch} {e : Env} {R : Room} {s : State} {m : MethodId} {args : Array Value} {below : List Frame} {meth : Method} {c : Code} {H : Heap} {locs : List Loc} {cells slots : Nat} {Q : State → Prop} {cc : ByteArray} {pc : Nat} {ls : Array Slot} {rest : List Value} {D : va_G} {A : Nat → Prop} {t : Nat → ClassId} {g : hG} {nL : Nat} {ret0 : Option FieldType} {nm : String} (X : Cx p s m args meth c R_F cc nL ret0 TB D vwCl (tyL t) EX A nm) (hR : 2 + 1 ≤ R.frames ∧ 8 + (4 + 11) + 50 ≤ R.locals) (hf : cells + 0 ≤ R.cells ∧ slots + 0 ≤ R.slots) (hls : ls.size = nL) (hP : hw D vwCl A g H) (hS : va_S A s.heap H locs) {a b : Nat} {ra rn la ln ia dr cd cr : Nat} {bl : Int32} {w : LC} {v : RV} {n ad : Nat} {f : Nat → Int64} {x : Int64} {fs9 : List Value} (he9 : g a = some (.inr (0, fs9))) (he : g a = some (cFi ra (nI rn) la (nI ln) ia dr cd cr bl)) (hb0 : g b = some (cLc w)) (hr1 : g w.2.2.1 = some (cRu v)) (hc0 : g cd = some (cCl ad (nI n))) (ha : g ad = some (arJ t 100 f)) (hn : n ≤ 100) (hW : (rest.map fun v => v.category).sum ≤ 8) (hdg : decode cc pc = .ok (.invokevirtual 105, 3)) (kk : ∀ (r : Int64) (H1 : Heap) (locs1 : List Loc), r = rvCents v (opD f n w.2.2.2.1 x) → hw D vwCl A (g) H1 → va_S A s.heap H1 locs1 → W p l e R s m args below meth c H1 locs1 (cells + 0) (slots + 0) Q (F0 m (pc + 3) ls (.long r :: rest))) : W p l e R s m args below meth c H locs cells slots Q (F0 m pc ls (.long x :: .ref b :: .ref a :: rest)) :=
  h_cl (runV (C := R_F) (T := F_F) (N := 9) X (c_F_overdueCents l D t A g a b ra rn la ln ia dr cd cr bl w v n ad f x he hb0 hr1 hc0 ha hn) (tbm 213 (by decide +kernel)) (tbm 215 (by decide +kernel)) (tbm 3 (by decide +kernel)) (tbm 20 (by decide +kernel)) (tbm 216 (by decide +kernel)) rfl (n := 2) (by decide +kernel) hR hf hP he9 hS hls rfl rfl hW hdg) hS (fun r u H1 locs1 hp hP1 hS1 => kk r H1 locs1 hp.1 (hp.2 ▸ hP1) hS1)

set_option maxRecDepth 100000 in
theorem c_F_endLoan (l : Launch) (D : va_G) (t : Nat → ClassId) (A : Nat → Prop) (g : hG) (a b : Nat) (ra rn la ln ia dr cd cr : Nat) (bl : Int32) (i : Nat) (pn : Int32) (rl : Nat) (du : Int64) (lo : Option Nat) (en : Int32) (fI : Nat → Option Nat) (he : g a = some (cFi ra (nI rn) la (nI ln) ia dr cd cr bl)) (hb0 : g b = some (cLo (nI i) pn rl du lo en)) (hi1 : g ia = some (arQ t 4 60 fI)) (hi : i < 60) : Met l y_F_endLoan (Cond.code y_F_endLoan b_F_endLoan 2 none :: TB) ({ frames := 2, cells := 0, slots := 0, locals := 42 } : Room) (va_Pc [.ref a, .ref b] (hI D vwCl (tyL t) EX A g)) (va_Qv (fun u => u = va_up (va_up g b (some (cLo (nI i) pn rl du lo 1))) ia (some (arQ t 4 60 (va_up fI i none)))) (fun u v => hw D vwCl A u v.heap) A) 0 0 A := by
  refine Met.ofH (cc := b_F_endLoan) (maxL := 2) (ret := none) (lv := [(0, .ref a), (1, .ref b)]) (by decide) (Nat.le_of_ble_eq_true rfl) rfl ?_
  intro p e s m below meth c ls X hP hS hl
  obtain ⟨hx, hb, hml, hr, hts, hown, hlocks, hK, hEs, hA, hnm⟩ := id X
  refine lv_aload_n hx hb d_F_endLoan_0 rfl (lv_at hl 1 rfl) ?_
  refine lv_iconst (v := 1) hx hb d_F_endLoan_1 (by decide) ?_
  refine p_F_208 X hb hP hS hb0 (Nat.le_of_ble_eq_true rfl) rfl rfl d_F_endLoan_2 (fun H locs hP hS => ?_)
  have he_1 := up_at (o := some (.inr (4, [.int (nI i), .int pn, .ref rl, .long du, va_rf lo, .int 1]))) he (hw_kd he hb0 rfl)
  have he_2 := up_at (o := some (.inr (4, [.int (nI i), .int pn, .ref rl, .long du, va_rf lo, .int 1]))) hi1 (hw_kd hi1 hb0 rfl)
  have he_3 := va_up_self g b (some (.inr (4, [.int (nI i), .int pn, .ref rl, .long du, va_rf lo, .int 1]) : va_E))
  have hP : hw D vwCl A (va_up g b (some (.inr (4, [.int (nI i), .int pn, .ref rl, .long du, va_rf lo, .int 1])))) H := hP
  refine lv_aload_n hx hb d_F_endLoan_5 rfl (lv_at hl 1 rfl) ?_
  refine g_F_212 X hb hP he_3 rfl d_F_endLoan_6 ?_
  refine k_F_86 X ⟨Nat.le_of_ble_eq_true rfl, Nat.le_of_ble_eq_true rfl⟩ ⟨Nat.le_of_ble_eq_true rfl, Nat.le_of_ble_eq_true rfl⟩ hl.1 hP hS (by exact Nat.le_of_ble_eq_true rfl) d_F_endLoan_9 (fun r_4 H locs er_4 hP hS => ?_)
  refine lv_if_eq (tgt := 25) hx hb d_F_endLoan_12 (by decide) (fun c_5 => ?_) (fun c_5 => ?_)
  · have t_4 := bi_0.mp (er_4 ▸ c_5)
    exact absurd (er_4.symm.trans c_5) (by rw [wi_pl_of (M := 59) (n := 59) rfl (by decide) (by omega)]; decide)
  · have t_4 := bi_n0.mp (er_4 ▸ c_5)
    refine lv_aload_n hx hb d_F_endLoan_15 rfl (lv_at hl 0 rfl) ?_
    refine g_F_21 X hb hP he_1 rfl d_F_endLoan_16 ?_
    refine lv_aload_n hx hb d_F_endLoan_19 rfl (lv_at hl 1 rfl) ?_
    refine g_F_212 X hb hP he_3 rfl d_F_endLoan_20 ?_
    refine lv_null hx hb d_F_endLoan_23 ?_
    refine n_aastN X hb hP hS 4 he_2 rfl ⟨by omega, by decide⟩ d_F_endLoan_24 (fun H locs hP hS => ?_)
    have he_6 := up_at (o := some (arQ t 4 60 (va_up fI i none))) he_1 (hw_kd he_1 he_2 rfl)
    have he_7 := up_at (o := some (arQ t 4 60 (va_up fI i none))) he_3 (hw_kd he_3 he_2 rfl)
    have he_8 := va_up_self (va_up g b (some (.inr (4, [.int (nI i), .int pn, .ref rl, .long du, va_rf lo, .int 1])))) ia (some (arQ t 4 60 (va_up fI i none) : va_E))
    have hP : hw D vwCl A (va_up (va_up g b (some (.inr (4, [.int (nI i), .int pn, .ref rl, .long du, va_rf lo, .int 1])))) ia (some (arQ t 4 60 (va_up fI i none)))) H := hP
    exact h_vret hx hb hr hlocks (Nat.le_of_ble_eq_true rfl) (Nat.le_of_ble_eq_true rfl) hP hS (rfl) d_F_endLoan_25
theorem k_F_113 {p : Program} {l : Launch} {e : Env} {R : Room} {s : State} {m : MethodId} {args : Array Value} {below : List Frame} {meth : Method} {c : Code} {H : Heap} {locs : List Loc} {cells slots : Nat} {Q : State → Prop} {cc : ByteArray} {pc : Nat} {ls : Array Slot} {rest : List Value} {D : va_G} {A : Nat → Prop} {t : Nat → ClassId} {g : hG} {nL : Nat} {ret0 : Option FieldType} {nm : String} (X : Cx p s m args meth c R_F cc nL ret0 TB D vwCl (tyL t) EX A nm) (hR : 2 + 1 ≤ R.frames ∧ 8 + (2 + 11) + 42 ≤ R.locals) (hf : cells + 0 ≤ R.cells ∧ slots + 0 ≤ R.slots) (hls : ls.size = nL) (hP : hw D vwCl A g H) (hS : va_S A s.heap H locs) {a b : Nat} {ra rn la ln ia dr cd cr : Nat} {bl : Int32} {i : Nat} {pn : Int32} {rl : Nat} {du : Int64} {lo : Option Nat} {en : Int32} {fI : Nat → Option Nat} {fs9 : List Value} (he9 : g a = some (.inr (0, fs9))) (he : g a = some (cFi ra (nI rn) la (nI ln) ia dr cd cr bl)) (hb0 : g b = some (cLo (nI i) pn rl du lo en)) (hi1 : g ia = some (arQ t 4 60 fI)) (hi : i < 60) (hW : (rest.map fun v => v.category).sum ≤ 8) (hdg : decode cc pc = .ok (.invokevirtual 113, 3)) (kk : ∀ (H1 : Heap) (locs1 : List Loc), hw D vwCl A (va_up (va_up g b (some (cLo (nI i) pn rl du lo 1))) ia (some (arQ t 4 60 (va_up fI i none)))) H1 → va_S A s.heap H1 locs1 → W p l e R s m args below meth c H1 locs1 (cells + 0) (slots + 0) Q (F0 m (pc + 3) ls rest)) : W p l e R s m args below meth c H locs cells slots Q (F0 m pc ls (.ref b :: .ref a :: rest)) :=
  h_cv (runV (C := R_F) (T := F_F) (N := 9) X (c_F_endLoan l D t A g a b ra rn la ln ia dr cd cr bl i pn rl du lo en fI he hb0 hi1 hi) (tbm 236 (by decide +kernel)) (tbm 238 (by decide +kernel)) (tbm 4 (by decide +kernel)) (tbm 20 (by decide +kernel)) (tbm 239 (by decide +kernel)) rfl (n := 1) (by decide +kernel) hR hf hP he9 hS hls rfl rfl hW hdg) hS (fun u H1 locs1 hp hP1 hS1 => kk H1 locs1 (hp ▸ hP1) hS1)

set_option maxRecDepth 100000 in
theorem c_F_chargeOverdue (l : Launch) (D : va_G) (t : Nat → ClassId) (A : Nat → Prop) (g : hG) (a b : Nat) (ra rn la ln ia dr cd cr : Nat) (bl : Int32) (bn bd n : Nat) (fN fB : Nat → Option Nat) (aB : Nat → Nat) (db : Nat → DC) (it pn : Int32) (rl : Nat) (du : Int64) (lo : Option Nat) (en : Int32) (am dy : Int64) (he : g a = some (cFi ra (nI rn) la (nI ln) ia dr cd cr bl)) (hb0 : g b = some (cLo it pn rl du lo en)) (hd0 : g dr = some (cBr bn bd (nI n))) (hN0 : g bn = some (arQ t 5 200 fN)) (hB0 : g bd = some (arQ t 5 200 fB)) (hne : bn ≠ bd) (hn : n ≤ 200) (hB : ∀ i, i < n → fB i = some (aB i)) (hD : ∀ i, i < n → g (aB i) = some (cDv (db i))) (hfull : 0 < am → n < 200) : Met l y_F_chargeOverdue (Cond.code y_F_chargeOverdue b_F_chargeOverdue 6 (some .int) :: TB) ({ frames := 3, cells := 1, slots := 7, locals := 78 } : Room) (va_Pc [.ref a, .ref b, .long am, .long dy] (hI D vwCl (tyL t) EX A g)) (va_Qi (fun r u => (am ≤ 0 ∧ r = 0 ∧ u = g) ∨ (0 < am ∧ r = nI (n + 1) ∧ ∃ o, g o = none ∧ u = bAdd t g dr bn bd n fN fB (insP db dy n) o (cDe pn rl 0 am dy am 0))) (fun u v => hw D vwCl A u v.heap) A) 1 7 A := by
  refine Met.ofH (cc := b_F_chargeOverdue) (maxL := 6) (ret := (some .int)) (lv := [(0, .ref a), (1, .ref b), (2, .long am), (4, .long dy)]) (by decide) (Nat.le_of_ble_eq_true rfl) rfl ?_
  intro p e s m below meth c ls X hP hS hl
  obtain ⟨hx, hb, hml, hr, hts, hown, hlocks, hK, hEs, hA, hnm⟩ := id X
  refine lv_lload_n hx hb d_F_chargeOverdue_0 rfl (lv_at hl 2 rfl) ?_
  refine lv_lconst (v := 0) hx hb d_F_chargeOverdue_1 (by decide) ?_
  refine W.lcmp hx hb d_F_chargeOverdue_2 ?_
  refine lv_if_le (tgt := 21) hx hb d_F_chargeOverdue_3 (by decide) (fun c_1 => ?_) (fun c_1 => ?_)
  · rw [lg_cmp_le] at c_1
    refine lv_iconst (v := 0) hx hb d_F_chargeOverdue_21 (by decide) ?_
    exact h_iret hx hb hr hlocks (Nat.le_of_ble_eq_true rfl) (Nat.le_of_ble_eq_true rfl) hP hS (Or.inl ⟨c_1, rfl, rfl⟩) d_F_chargeOverdue_22
  · rw [lg_cmp_le] at c_1
    refine lv_aload_n hx hb d_F_chargeOverdue_6 rfl (lv_at hl 0 rfl) ?_
    refine g_F_27 X hb hP he rfl d_F_chargeOverdue_7 ?_
    refine lv_aload_n hx hb d_F_chargeOverdue_10 rfl (lv_at hl 1 rfl) ?_
    refine lv_iconst (v := 0) hx hb d_F_chargeOverdue_11 (by decide) ?_
    refine lv_lload_n hx hb d_F_chargeOverdue_12 rfl (lv_at hl 2 rfl) ?_
    refine lv_lload hx hb d_F_chargeOverdue_13 (lv_at hl 3 rfl) ?_
    refine k_F_121 X ⟨Nat.le_of_ble_eq_true rfl, Nat.le_of_ble_eq_true rfl⟩ ⟨Nat.le_of_ble_eq_true rfl, Nat.le_of_ble_eq_true rfl⟩ hl.1 hP hS hd0 hd0 hN0 hB0 hb0 hne (hfull (Int64.not_le.mp c_1)) hB hD (by exact Nat.le_of_ble_eq_true rfl) d_F_chargeOverdue_15 (fun r_2 u H locs hr_2 hP hS => ?_)
    refine lv_goto (tgt := 22) hx hb d_F_chargeOverdue_18 (by decide) ?_
    exact h_iret hx hb hr hlocks (Nat.le_of_ble_eq_true rfl) (Nat.le_of_ble_eq_true rfl) hP hS (Or.inr ⟨Int64.not_le.mp c_1, hr_2.1, hr_2.2⟩) d_F_chargeOverdue_22
theorem k_F_117 {p : Program} {l : Launch} {e : Env} {R : Room} {s : State} {m : MethodId} {args : Array Value} {below : List Frame} {meth : Method} {c : Code} {H : Heap} {locs : List Loc} {cells slots : Nat} {Q : State → Prop} {cc : ByteArray} {pc : Nat} {ls : Array Slot} {rest : List Value} {D : va_G} {A : Nat → Prop} {t : Nat → ClassId} {g : hG} {nL : Nat} {ret0 : Option FieldType} {nm : String} (X : Cx p s m args meth c R_F cc nL ret0 TB D vwCl (tyL t) EX A nm) (hR : 3 + 1 ≤ R.frames ∧ 8 + (6 + 11) + 78 ≤ R.locals) (hf : cells + 1 ≤ R.cells ∧ slots + 7 ≤ R.slots) (hls : ls.size = nL) (hP : hw D vwCl A g H) (hS : va_S A s.heap H locs) {a b : Nat} {ra rn la ln ia dr cd cr : Nat} {bl : Int32} {bn bd n : Nat} {fN fB : Nat → Option Nat} {aB : Nat → Nat} {db : Nat → DC} {it pn : Int32} {rl : Nat} {du : Int64} {lo : Option Nat} {en : Int32} {am dy : Int64} {fs9 : List Value} (he9 : g a = some (.inr (0, fs9))) (he : g a = some (cFi ra (nI rn) la (nI ln) ia dr cd cr bl)) (hb0 : g b = some (cLo it pn rl du lo en)) (hd0 : g dr = some (cBr bn bd (nI n))) (hN0 : g bn = some (arQ t 5 200 fN)) (hB0 : g bd = some (arQ t 5 200 fB)) (hne : bn ≠ bd) (hn : n ≤ 200) (hB : ∀ i, i < n → fB i = some (aB i)) (hD : ∀ i, i < n → g (aB i) = some (cDv (db i))) (hfull : 0 < am → n < 200) (hW : (rest.map fun v => v.category).sum ≤ 8) (hdg : decode cc pc = .ok (.invokevirtual 117, 3)) (kk : ∀ (r : Int32) (u : hG) (H1 : Heap) (locs1 : List Loc), ((fun r u => (am ≤ 0 ∧ r = 0 ∧ u = g) ∨ (0 < am ∧ r = nI (n + 1) ∧ ∃ o, g o = none ∧ u = bAdd t g dr bn bd n fN fB (insP db dy n) o (cDe pn rl 0 am dy am 0))) r u) → hw D vwCl A u H1 → va_S A s.heap H1 locs1 → W p l e R s m args below meth c H1 locs1 (cells + 1) (slots + 7) Q (F0 m (pc + 3) ls (.int r :: rest))) : W p l e R s m args below meth c H locs cells slots Q (F0 m pc ls (.long dy :: .long am :: .ref b :: .ref a :: rest)) :=
  h_ci (runV (C := R_F) (T := F_F) (N := 9) X (c_F_chargeOverdue l D t A g a b ra rn la ln ia dr cd cr bl bn bd n fN fB aB db it pn rl du lo en am dy he hb0 hd0 hN0 hB0 hne hn hB hD hfull) (tbm 240 (by decide +kernel)) (tbm 242 (by decide +kernel)) (tbm 5 (by decide +kernel)) (tbm 20 (by decide +kernel)) (tbm 243 (by decide +kernel)) rfl (n := 3) (by decide +kernel) hR hf hP he9 hS hls rfl rfl hW hdg) hS kk

set_option maxRecDepth 100000 in
theorem c_F_addCredit (l : Launch) (D : va_G) (t : Nat → ClassId) (A : Nat → Prop) (g : hG) (a : Nat) (ra rn la ln ia dr cd cr : Nat) (bl : Int32) (k : Nat) (y : Int64) (fK : Nat → Int64) (he : g a = some (cFi ra (nI rn) la (nI ln) ia dr cd cr bl)) (hk1 : g cr = some (arJ t 30 fK)) (hk : k < 30) : Met l y_F_addCredit (Cond.code y_F_addCredit b_F_addCredit 4 none :: TB) ({ frames := 2, cells := 0, slots := 0, locals := 42 } : Room) (va_Pc [.ref a, .int (nI k), .long y] (hI D vwCl (tyL t) EX A g)) (va_Qv (fun u => u = va_up g cr (some (arJ t 30 (va_up fK k (fK k + y))))) (fun u v => hw D vwCl A u v.heap) A) 0 0 A := by
  refine Met.ofH (cc := b_F_addCredit) (maxL := 4) (ret := none) (lv := [(0, .ref a), (1, .int (nI k)), (2, .long y)]) (by decide) (Nat.le_of_ble_eq_true rfl) rfl ?_
  intro p e s m below meth c ls X hP hS hl
  obtain ⟨hx, hb, hml, hr, hts, hown, hlocks, hK, hEs, hA, hnm⟩ := id X
  refine lv_iload_n hx hb d_F_addCredit_0 rfl (lv_at hl 1 rfl) ?_
  refine k_F_90 X ⟨Nat.le_of_ble_eq_true rfl, Nat.le_of_ble_eq_true rfl⟩ ⟨Nat.le_of_ble_eq_true rfl, Nat.le_of_ble_eq_true rfl⟩ hl.1 hP hS (by exact Nat.le_of_ble_eq_true rfl) d_F_addCredit_1 (fun r_1 H locs er_1 hP hS => ?_)
  refine lv_if_eq (tgt := 17) hx hb d_F_addCredit_4 (by decide) (fun c_2 => ?_) (fun c_2 => ?_)
  · have t_1 := bi_0.mp (er_1 ▸ c_2)
    exact absurd (er_1.symm.trans c_2) (by rw [wi_pl_of (M := 29) (n := 29) rfl (by decide) (by omega)]; decide)
  · have t_1 := bi_n0.mp (er_1 ▸ c_2)
    refine lv_aload_n hx hb d_F_addCredit_7 rfl (lv_at hl 0 rfl) ?_
    refine g_F_38 X hb hP he rfl d_F_addCredit_8 ?_
    refine lv_iload_n hx hb d_F_addCredit_11 rfl (lv_at hl 1 rfl) ?_
    refine lv_dup2_11 hx hb d_F_addCredit_12 rfl rfl ?_
    refine n_lald X hb hP hk1 ⟨by omega, by decide⟩ d_F_addCredit_13 ?_
    refine lv_lload_n hx hb d_F_addCredit_14 rfl (lv_at hl 2 rfl) ?_
    refine lv_ladd hx hb d_F_addCredit_15 ?_
    refine lv_topl (fun x_3 ex_3 => ?_)
    refine n_last X hb hP hS hk1 ⟨by omega, by decide⟩ d_F_addCredit_16 (fun H locs hP hS => ?_)
    have he_4 := up_at (o := some (arJ t 30 (va_up fK k x_3))) he (hw_kd he hk1 rfl)
    have he_5 := va_up_self g cr (some (arJ t 30 (va_up fK k x_3) : va_E))
    have hP : hw D vwCl A (va_up g cr (some (arJ t 30 (va_up fK k x_3)))) H := hP
    exact h_vret hx hb hr hlocks (Nat.le_of_ble_eq_true rfl) (Nat.le_of_ble_eq_true rfl) hP hS (by rw [ex_3]) d_F_addCredit_17
theorem k_F_144 {p : Program} {l : Launch} {e : Env} {R : Room} {s : State} {m : MethodId} {args : Array Value} {below : List Frame} {meth : Method} {c : Code} {H : Heap} {locs : List Loc} {cells slots : Nat} {Q : State → Prop} {cc : ByteArray} {pc : Nat} {ls : Array Slot} {rest : List Value} {D : va_G} {A : Nat → Prop} {t : Nat → ClassId} {g : hG} {nL : Nat} {ret0 : Option FieldType} {nm : String} (X : Cx p s m args meth c R_F cc nL ret0 TB D vwCl (tyL t) EX A nm) (hR : 2 + 1 ≤ R.frames ∧ 8 + (4 + 11) + 42 ≤ R.locals) (hf : cells + 0 ≤ R.cells ∧ slots + 0 ≤ R.slots) (hls : ls.size = nL) (hP : hw D vwCl A g H) (hS : va_S A s.heap H locs) {a : Nat} {ra rn la ln ia dr cd cr : Nat} {bl : Int32} {k : Nat} {y : Int64} {fK : Nat → Int64} {fs9 : List Value} (he9 : g a = some (.inr (0, fs9))) (he : g a = some (cFi ra (nI rn) la (nI ln) ia dr cd cr bl)) (hk1 : g cr = some (arJ t 30 fK)) (hk : k < 30) (hW : (rest.map fun v => v.category).sum ≤ 8) (hdg : decode cc pc = .ok (.invokevirtual 144, 3)) (kk : ∀ (H1 : Heap) (locs1 : List Loc), hw D vwCl A (va_up g cr (some (arJ t 30 (va_up fK k (fK k + y))))) H1 → va_S A s.heap H1 locs1 → W p l e R s m args below meth c H1 locs1 (cells + 0) (slots + 0) Q (F0 m (pc + 3) ls rest)) : W p l e R s m args below meth c H locs cells slots Q (F0 m pc ls (.long y :: .int (nI k) :: .ref a :: rest)) :=
  h_cv (runV (C := R_F) (T := F_F) (N := 9) X (c_F_addCredit l D t A g a ra rn la ln ia dr cd cr bl k y fK he hk1 hk) (tbm 301 (by decide +kernel)) (tbm 303 (by decide +kernel)) (tbm 6 (by decide +kernel)) (tbm 20 (by decide +kernel)) (tbm 304 (by decide +kernel)) rfl (n := 2) (by decide +kernel) hR hf hP he9 hS hls rfl rfl hW hdg) hS (fun u H1 locs1 hp hP1 hS1 => kk H1 locs1 (hp ▸ hP1) hS1)

set_option maxRecDepth 100000 in
theorem c_F_balance (l : Launch) (D : va_G) (t : Nat → ClassId) (A : Nat → Prop) (g : hG) (a : Nat) (ra rn la ln ia dr cd cr : Nat) (bl : Int32) (bn bd n : Nat) (fN : Nat → Option Nat) (aN : Nat → Nat) (dv : Nat → DC) (fK : Nat → Int64) (x : Int32) (he : g a = some (cFi ra (nI rn) la (nI ln) ia dr cd cr bl)) (hd0 : g dr = some (cBr bn bd (nI n))) (hN0 : g bn = some (arQ t 5 200 fN)) (hn : n ≤ 200) (hN : ∀ i, i < n → fN i = some (aN i)) (hD : ∀ i, i < n → g (aN i) = some (cDv (dv i))) (hk1 : g cr = some (arJ t 30 fK)) : Met l y_F_balance (Cond.code y_F_balance b_F_balance 2 (some .long) :: TB) ({ frames := 2, cells := 0, slots := 0, locals := 42 } : Room) (va_Pc [.ref a, .int x] (hI D vwCl (tyL t) EX A g)) (va_Ql (fun r u => r = balJ dv n fK x ∧ u = g) (fun u v => hw D vwCl A u v.heap) A) 0 0 A := by
  refine Met.ofH (cc := b_F_balance) (maxL := 2) (ret := (some .long)) (lv := [(0, .ref a), (1, .int x)]) (by decide) (Nat.le_of_ble_eq_true rfl) rfl ?_
  intro p e s m below meth c ls X hP hS hl
  obtain ⟨hx, hb, hml, hr, hts, hown, hlocks, hK, hEs, hA, hnm⟩ := id X
  refine lv_iload_n hx hb d_F_balance_0 rfl (lv_at hl 1 rfl) ?_
  refine k_F_90 X ⟨Nat.le_of_ble_eq_true rfl, Nat.le_of_ble_eq_true rfl⟩ ⟨Nat.le_of_ble_eq_true rfl, Nat.le_of_ble_eq_true rfl⟩ hl.1 hP hS (by exact Nat.le_of_ble_eq_true rfl) d_F_balance_1 (fun r_1 H locs er_1 hP hS => ?_)
  refine lv_if_eq (tgt := 25) hx hb d_F_balance_4 (by decide) (fun c_2 => ?_) (fun c_2 => ?_)
  · have t_1 := bi_0.mp (er_1 ▸ c_2)
    refine lv_lconst (v := 0) hx hb d_F_balance_25 (by decide) ?_
    exact h_lret hx hb hr hlocks (Nat.le_of_ble_eq_true rfl) (Nat.le_of_ble_eq_true rfl) hP hS (⟨(balJ_no (bi_0.mp (er_1 ▸ c_2))).symm, rfl⟩) d_F_balance_26
  · have t_1 := bi_n0.mp (er_1 ▸ c_2)
    obtain ⟨k, hk, rfl⟩ := wi_pl (M := 29) (n := 29) rfl (by decide) (bi_n0.mp (er_1 ▸ c_2))
    refine lv_aload_n hx hb d_F_balance_7 rfl (lv_at hl 0 rfl) ?_
    refine g_F_27 X hb hP he rfl d_F_balance_8 ?_
    refine lv_iload_n hx hb d_F_balance_11 rfl (lv_at hl 1 rfl) ?_
    refine k_F_175 X ⟨Nat.le_of_ble_eq_true rfl, Nat.le_of_ble_eq_true rfl⟩ ⟨Nat.le_of_ble_eq_true rfl, Nat.le_of_ble_eq_true rfl⟩ hl.1 hP hS hd0 hd0 hN0 hn hN hD (by exact Nat.le_of_ble_eq_true rfl) d_F_balance_12 (fun r_3 H locs er_3 hP hS => ?_)
    refine lv_aload_n hx hb d_F_balance_15 rfl (lv_at hl 0 rfl) ?_
    refine g_F_38 X hb hP he rfl d_F_balance_16 ?_
    refine lv_iload_n hx hb d_F_balance_19 rfl (lv_at hl 1 rfl) ?_
    refine n_lald X hb hP hk1 ⟨by omega, by decide⟩ d_F_balance_20 ?_
    refine lv_lsub hx hb d_F_balance_21 ?_
    refine lv_goto (tgt := 26) hx hb d_F_balance_22 (by decide) ?_
    exact h_lret hx hb hr hlocks (Nat.le_of_ble_eq_true rfl) (Nat.le_of_ble_eq_true rfl) hP hS (⟨by rw [er_3, balJ_at (by omega)], rfl⟩) d_F_balance_26
theorem k_F_159 {p : Program} {l : Launch} {e : Env} {R : Room} {s : State} {m : MethodId} {args : Array Value} {below : List Frame} {meth : Method} {c : Code} {H : Heap} {locs : List Loc} {cells slots : Nat} {Q : State → Prop} {cc : ByteArray} {pc : Nat} {ls : Array Slot} {rest : List Value} {D : va_G} {A : Nat → Prop} {t : Nat → ClassId} {g : hG} {nL : Nat} {ret0 : Option FieldType} {nm : String} (X : Cx p s m args meth c R_F cc nL ret0 TB D vwCl (tyL t) EX A nm) (hR : 2 + 1 ≤ R.frames ∧ 8 + (2 + 11) + 42 ≤ R.locals) (hf : cells + 0 ≤ R.cells ∧ slots + 0 ≤ R.slots) (hls : ls.size = nL) (hP : hw D vwCl A g H) (hS : va_S A s.heap H locs) {a : Nat} {ra rn la ln ia dr cd cr : Nat} {bl : Int32} {bn bd n : Nat} {fN : Nat → Option Nat} {aN : Nat → Nat} {dv : Nat → DC} {fK : Nat → Int64} {x : Int32} {fs9 : List Value} (he9 : g a = some (.inr (0, fs9))) (he : g a = some (cFi ra (nI rn) la (nI ln) ia dr cd cr bl)) (hd0 : g dr = some (cBr bn bd (nI n))) (hN0 : g bn = some (arQ t 5 200 fN)) (hn : n ≤ 200) (hN : ∀ i, i < n → fN i = some (aN i)) (hD : ∀ i, i < n → g (aN i) = some (cDv (dv i))) (hk1 : g cr = some (arJ t 30 fK)) (hW : (rest.map fun v => v.category).sum ≤ 8) (hdg : decode cc pc = .ok (.invokevirtual 159, 3)) (kk : ∀ (r : Int64) (H1 : Heap) (locs1 : List Loc), r = balJ dv n fK x → hw D vwCl A (g) H1 → va_S A s.heap H1 locs1 → W p l e R s m args below meth c H1 locs1 (cells + 0) (slots + 0) Q (F0 m (pc + 3) ls (.long r :: rest))) : W p l e R s m args below meth c H locs cells slots Q (F0 m pc ls (.int x :: .ref a :: rest)) :=
  h_cl (runV (C := R_F) (T := F_F) (N := 9) X (c_F_balance l D t A g a ra rn la ln ia dr cd cr bl bn bd n fN aN dv fK x he hd0 hN0 hn hN hD hk1) (tbm 327 (by decide +kernel)) (tbm 329 (by decide +kernel)) (tbm 7 (by decide +kernel)) (tbm 20 (by decide +kernel)) (tbm 330 (by decide +kernel)) rfl (n := 1) (by decide +kernel) hR hf hP he9 hS hls rfl rfl hW hdg) hS (fun r u H1 locs1 hp hP1 hS1 => kk r H1 locs1 hp.1 (hp.2 ▸ hP1) hS1)
