def R_law : String := "FineRowsLaw"
def lw_P (b : Addr) (xs : List Int32) (args : Array Value) (s : State) : Prop := args = #[.ref b] ∧ s.IntsAt b xs ∧ xs.length ≤ 3072 ∧ (Jvm.Cond.and given_1 narrow_1).before args s = true
def lw_Q (_ : Array Value) (s : State) (o : Outcome) (t : State) : Prop := o = .returned (some (.int 1)) ∧ Framed s o t [] 601024 7293034
def lw_Z (below : List Frame) (a : Array Value) (s : State) : State → Prop := fun t => ∃ o, t.status = .running ∧ Ended t below o ∧ lw_Q a s o t
/-- the law's own end, with 1 on the stack, nothing written that was there before, its room as the claim has it -/
theorem lw_ret {p : Program} {l : Launch} {e : Env} {s : State} {m : MethodId} {below : List Frame} {meth : Method} {c : Code} {b : Nat} (hx : p.tables.exec = Jvm.exec) (hb : c.code = code) (hr : meth.sig.returnType = ret) (hlocks : meth.locks = false) {pc : Nat} {H : Heap} {ls : Array Slot} (hdg : decode code pc = .ok (.ireturn, 1)) : W p l e room_1 s m #[Value.ref b] below meth c H [] 601024 7293034 (lw_Z below #[Value.ref b] s) (F0 m pc ls [.int 1]) := by
  intro T hT X
  obtain ⟨fs, hret, hrun, hended, hW, hframe⟩ := X.leave (v := some (.int 1)) (hlocks := hlocks) (fun h => by rw [hr] at h; cases h)
  have hmeth' : T.vm.method? m = some meth := X.method'
  refine ⟨T.setFrames fs, ?_, .returned (some (.int 1)), hrun, hended, rfl, ⟨_, rfl⟩, hW, hframe⟩
  jvm_step X.here [X.here.top, hx, hb, hdg, hmeth', hr, ret, narrow_b1]
  (try refine ⟨rfl, ?_⟩); (try refine ⟨rfl, ?_⟩)
  first | (intro acts; rw [hret _ acts rfl rfl rfl]) | rw [hret _ _ rfl rfl rfl]
  exact Steps.refl _
/-- what holds at the law's entry: the machine, the code, the tables' words (any of lw_tbl by 'hts w (by decide +kernel)'), the script of L ints xs at the cell b, what the Statement gives of the start (any of its parts by flat_of_before) -/
def lw_At (p : Program) (s : State) (m : MethodId) (meth : Method) (c : Code) (b L : Nat) (xs : Nat → Int32) : Prop :=
  p.tables.exec = Jvm.exec ∧ c.code = code ∧ meth.sig.returnType = ret ∧ c.maxLocals = 7 ∧ s.vm.findClass R_law = some m.cls ∧ (∀ w ∈ lw_tbl, w.before #[Value.ref b] s = true) ∧ va_X b L xs s s.heap ∧ b < s.heap.size ∧ meth.locks = false ∧ (Jvm.Cond.and given_1 narrow_1).before #[Value.ref b] s = true
theorem RC.own {F : Nat → Prop} {t : Nat → ClassId} {g : hG} {ad aR aL aD : Nat → Nat} {fR fL fI fN fB : Nat → Option Nat} {σ : SS} (h : RC F t g ad aR aL aD fR fL fI fN fB σ) : RC (fun z => g z ≠ none) t g ad aR aL aD fR fL fI fN fB σ := by
  obtain ⟨h0, ⟨h1, h1f⟩, ⟨h2, h2f⟩, ⟨h3, h3f⟩, h4, h5, h6, ⟨h7, h7f⟩, ⟨h8, h8f⟩, h9, hR, hL, hD, h78, hi, -⟩ := h
  have K : ∀ {a : Nat} {x : va_E}, g a = some x → g a ≠ none := fun h => by rw [h]; exact fun q => by cases q
  refine ⟨h0, ⟨h1, h1f⟩, ⟨h2, h2f⟩, ⟨h3, h3f⟩, h4, h5, h6, ⟨h7, h7f⟩, ⟨h8, h8f⟩, h9, hR, hL, hD, h78, hi, fun i hi9 => ?_, fun k hk => K (hR k hk), fun k hk => K (hL k hk), fun k hk => K (hD k hk)⟩
  rcases (show i = 0 ∨ i = 1 ∨ i = 2 ∨ i = 3 ∨ i = 4 ∨ i = 5 ∨ i = 6 ∨ i = 7 ∨ i = 8 ∨ i = 9 by omega) with rfl | rfl | rfl | rfl | rfl | rfl | rfl | rfl | rfl | rfl
  · exact K h0
  · exact K h1
  · exact K h2
  · exact K h3
  · exact K h4
  · exact K h5
  · exact K h6
  · exact K h7
  · exact K h8
  · exact K h9
theorem RCx.own {F : Nat → Prop} {t : Nat → ClassId} {ad : Nat → Nat} {σ : SS} {g : hG} (h : RCx F t ad σ g) : RCx (fun z => g z ≠ none) t ad σ g := by
  obtain ⟨aR, aL, aD, fR, fL, fI, fN, fB, h⟩ := h
  exact ⟨aR, aL, aD, fR, fL, fI, fN, fB, h.own⟩
/-- the loop's start -/
theorem LI_0 {F : Nat → Prop} {t : Nat → ClassId} {ad ma : Nat → Nat} {o : Nat} {u1 u2 : hG} {x : va_E} (hRx : RCx F t ad σ0 u1) (hqm : u1 (ma 0) = none) (hM : RMx t ma 0 σ0 u2) (hn : ∀ i, 1 ≤ i → i ≤ 20 → va_up u1 (ma 0) (some x) (ma i) = none) (hk : Keep (fun z => z = ma 0) (va_up u1 (ma 0) (some x)) u2) (ho : u2 o = none) : (∀ j, j < 21 → o ≠ ma j) ∧ LI t ad ma o 0 (va_up u2 o (some (arJ t 1 (fun _ => 0)))) := by
  have hoM : ∀ j, j < 21 → o ≠ ma j := fun j hj q => hM.nn j hj (q ▸ ho)
  have hk1 : Keep (fun z => z = ma 0) u1 u2 := Keep.tr (Keep.up Keep.rf (Or.inl rfl)) hk
  have hko : Keep (fun z => z = o) u2 (va_up u2 o (some (arJ t 1 (fun _ => 0)))) := Keep.up Keep.rf (Or.inl rfl)
  have ho1 : u1 o = none := by
    cases h9 : u1 o with
    | none => rfl
    | some y =>
      have h8 := hk1 o (hoM 0 (by decide)) (by rw [h9]; exact fun q => by cases q)
      rw [ho, h9] at h8
      cases h8
  have hma : ∀ i, i < 21 → u1 (ma i) = none := fun i hi => by
    by_cases e0 : i = 0
    · subst e0; exact hqm
    · have h9 := hn i (by omega) (by omega)
      by_cases e1 : ma i = ma 0
      · rw [e1]; exact hqm
      · rw [va_up_ne u1 _ e1] at h9; exact h9
  refine ⟨hoM, fun z => u1 z ≠ none, σ0, 0, fun _ => 0, Ok_0, ?_, ?_, va_up_self _ _ _, fun q => q ho1, fun i hi q => q (hma i hi)⟩
  · exact ((hRx.own).keep hk1 (fun a ha q => ha (q ▸ hqm))).keep hko (fun a ha q => ha (q ▸ ho1))
  · exact hM.keep hko (fun i hi q => hoM i hi q.symm)
theorem lw_known {b : Nat} {s : State} (hts : ∀ w ∈ lw_tbl, w.before #[Value.ref b] s = true) : ∃ (D : va_G) (t : Nat → ClassId), va_K D vwCl (tyL t) s := by
  have h2 : ∀ w ∈ TB, w.before #[Value.ref b] s = true := fun w h => hts w (tb_in w h)
  obtain ⟨c0, i0, k0⟩ := u_known (C := R_F) (T := F_F) (N := 9) (n := 9) h2 i_F (hts (.instantiable R_F 9) (List.mem_of_getElem? (i := 33) (by decide +kernel)))
  obtain ⟨c1, i1, k1⟩ := u_known (C := R_C) (T := F_C) (N := 2) (n := 2) h2 i_C (hts (.instantiable R_C 2) (List.mem_of_getElem? (i := 64) (by decide +kernel)))
  obtain ⟨c2, i2, k2⟩ := u_known (C := R_D) (T := F_D) (N := 7) (n := 7) h2 i_D (hts (.instantiable R_D 7) (List.mem_of_getElem? (i := 249) (by decide +kernel)))
  obtain ⟨c3, i3, k3⟩ := u_known (C := R_B) (T := F_B) (N := 3) (n := 3) h2 i_B (hts (.instantiable R_B 3) (List.mem_of_getElem? (i := 45) (by decide +kernel)))
  obtain ⟨c4, i4, k4⟩ := u_known (C := R_L) (T := F_L) (N := 6) (n := 6) h2 i_L (hts (.instantiable R_L 6) (List.mem_of_getElem? (i := 168) (by decide +kernel)))
  obtain ⟨c5, i5, k5⟩ := u_known (C := R_R) (T := F_R) (N := 5) (n := 5) h2 i_R (hts (.instantiable R_R 5) (List.mem_of_getElem? (i := 115) (by decide +kernel)))
  obtain ⟨c6, i6, k6⟩ := u_known (C := R_M) (T := F_M) (N := 26) (n := 26) h2 i_M (hts (.instantiable R_M 26) (List.mem_of_getElem? (i := 447) (by decide +kernel)))
  obtain ⟨a0, q0, p0, f0, g0, m0⟩ := Cond.arrayClass_spec (hts (.arrayClass .int) (List.mem_of_getElem? (i := 531) (by decide +kernel)))
  obtain ⟨a1, q1, p1, f1, g1, m1⟩ := Cond.arrayClass_spec (hts (.arrayClass .long) (List.mem_of_getElem? (i := 77) (by decide +kernel)))
  obtain ⟨a2, q2, p2, f2, g2, m2⟩ := Cond.arrayClass_spec (hts (.arrayClass .boolean) (List.mem_of_getElem? (i := 532) (by decide +kernel)))
  obtain ⟨p3, a3, q3, e3, -, g3, m3, f3⟩ := Cond.arrayOver_spec (hts (.arrayOver (.object R_R)) (List.mem_of_getElem? (i := 41) (by decide +kernel)))
  obtain ⟨p4, a4, q4, e4, -, g4, m4, f4⟩ := Cond.arrayOver_spec (hts (.arrayOver (.object R_L)) (List.mem_of_getElem? (i := 43) (by decide +kernel)))
  obtain ⟨p5, a5, q5, e5, -, g5, m5, f5⟩ := Cond.arrayOver_spec (hts (.arrayOver (.object R_D)) (List.mem_of_getElem? (i := 51) (by decide +kernel)))
  refine ⟨(fun k => match k with | 0 => c0 | 1 => c1 | 2 => c2 | 3 => c3 | 4 => c4 | 5 => c5 | _ => c6, fun k => match k with | 0 => i0 | 1 => i1 | 2 => i2 | 3 => i3 | 4 => i4 | 5 => i5 | _ => i6), fun k => match k with | 0 => a0 | 1 => a1 | 2 => a2 | 3 => a3 | 4 => a4 | _ => a5, ?_, ?_⟩
  · intro k q hq
    match k, hq with
    | 0, hq => cases hq; exact k0
    | 1, hq => cases hq; exact k1
    | 2, hq => cases hq; exact k2
    | 3, hq => cases hq; exact k3
    | 4, hq => cases hq; exact k4
    | 5, hq => cases hq; exact k5
    | 6, hq => cases hq; exact k6
    | k + 7, hq => simp [vwCl] at hq
  · intro k q hq
    match k, hq with
    | 0, hq => cases hq; exact ⟨fun n z => ⟨fun k h => (by cases h), q0, g0, p0, m0⟩, f0⟩
    | 1, hq => cases hq; exact ⟨fun n z => ⟨fun k h => (by cases h), q1, g1, p1, m1⟩, f1⟩
    | 2, hq => cases hq; exact ⟨fun n z => ⟨fun k h => (by cases h), q2, g2, p2, m2⟩, f2⟩
    | 3, hq => cases hq; exact ⟨fun n z => ⟨fun k h => (by cases h), q3, g3, p3, m3⟩, q3, p3, g3, m3, e3, f3⟩
    | 4, hq => cases hq; exact ⟨fun n z => ⟨fun k h => (by cases h), q4, g4, p4, m4⟩, q4, p4, g4, m4, e4, f4⟩
    | 5, hq => cases hq; exact ⟨fun n z => ⟨fun k h => (by cases h), q5, g5, p5, m5⟩, q5, p5, g5, m5, e5, f5⟩
    | k + 6, hq => simp [tyL] at hq
theorem lw_ex {b : Nat} {s : State} (hts : ∀ w ∈ lw_tbl, w.before #[Value.ref b] s = true) : EX s :=
  ⟨⟨va_Nw.of rfl (hts (.methodLinkNest R_F 26 y_B_init R_F) (List.mem_of_getElem? (i := 46) (by decide +kernel))), va_Nw.of rfl (hts (.methodLinkNest R_F 33 y_C_init R_F) (List.mem_of_getElem? (i := 65) (by decide +kernel))), va_Nw.of rfl (hts (.methodLinkNest R_B 24 y_F_isWithin R_F) (List.mem_of_getElem? (i := 296) (by decide +kernel)))⟩, va_AO.of (hts (.arrayOver (.object R_R)) (List.mem_of_getElem? (i := 41) (by decide +kernel))), va_AO.of (hts (.arrayOver (.object R_L)) (List.mem_of_getElem? (i := 43) (by decide +kernel))), va_AO.of (hts (.arrayOver (.object R_D)) (List.mem_of_getElem? (i := 51) (by decide +kernel)))⟩
theorem lw_thG {b : Nat} {s : State} (hts : ∀ w ∈ lw_tbl, w.before #[Value.ref b] s = true) (hgv : (Jvm.Cond.and given_1 narrow_1).before #[Value.ref b] s = true) : thG (fun q => s.heap.size ≤ q) s := by
  have hs := flat_of_before _ hgv
  have hl1 := hts (Cond.laysStatic "java/lang/Throwable" "UNASSIGNED_STACK" "[Ljava/lang/StackTraceElement;") (List.mem_of_getElem? (i := 407) (by decide +kernel))
  have hl2 := hts (Cond.laysStatic "java/lang/Throwable" "SUPPRESSED_SENTINEL" "Ljava/util/List;") (List.mem_of_getElem? (i := 409) (by decide +kernel))
  have hini := hts (Cond.initialized "java/lang/Throwable") (List.mem_of_getElem? (i := 25) (by decide +kernel))
  have hr1 : (Cond.isRef (.static "java/lang/Throwable" "UNASSIGNED_STACK" "[Ljava/lang/StackTraceElement;")).before #[Value.ref b] s = true := hs _ (by decide +kernel)
  have hr2 : (Cond.isRef (.static "java/lang/Throwable" "SUPPRESSED_SENTINEL" "Ljava/util/List;")).before #[Value.ref b] s = true := hs _ (by decide +kernel)
  have hex : (Cond.exactly (.string "FineRows" 65) "java/lang/String").before #[Value.ref b] s = true := hs _ (by decide +kernel)
  have hsr := hts (Cond.stringRef "FineRows" 65 "interest divided by 0") (List.mem_of_getElem? (i := 419) (by decide +kernel))
  have hA : ∀ a : Nat, a < s.heap.size → ¬ (fun q => s.heap.size ≤ q) a := fun a h => Nat.not_le.mpr h
  refine ⟨s, ⟨?_, ⟨hl1, hl2⟩, ⟨va_Zqof hl1 hini hr1 hA, va_Zqof hl2 hini hr2 hA⟩, ?_⟩, State.WarmedH.refl s, fun q hq => ⟨rfl, Nat.not_le.mpr hq⟩⟩
  · intro w hw
    have hq : thL.all (fun w => decide (w ∈ lw_tbl) && w.onTables) = true := by decide +kernel
    have h1 := List.all_eq_true.mp hq w hw
    simp only [Bool.and_eq_true, decide_eq_true_eq] at h1
    exact va_tabs h1.2 rfl (hts w h1.1)
  · obtain ⟨a, c, cell, k, he, -⟩ := Cond.exactly_spec hex
    exact ⟨a, vk_R.of hsr he⟩
