def wiP (F : Nat → Prop) (t : Nat → ClassId) (ad : Nat → Nat) (σ : SS) (x y z : Int32) (o : Nat) (ou : Nat → Int64) (g : hG) (r : Int32) (u : hG) : Prop := (okInt σ x y z = true ∧ z = 0 → r = 1 ∧ u = g) ∧ (¬ (okInt σ x y z = true ∧ z = 0) → r = 0 ∧ ∃ u1 : hG, RCx (gr F g) t ad (spInt σ x y z).2 u1 ∧ Keep F g u1 ∧ u1 o = some (arJ t 1 ou) ∧ u = va_up u1 o (some (arJ t 1 (va_up ou 0 (spInt σ x y z).1.toInt64))))
abbrev rmW : Room := { frames := 7, cells := 1, slots := 6, locals := 120 }

set_option maxHeartbeats 4000000 in
set_option maxRecDepth 100000 in
theorem w_W_int {p : Program} {l : Launch} {e : Env} {s : State} {m : MethodId} {below : List Frame} {meth : Method} {c : Code} {D : va_G} {t : Nat → ClassId} {A : Nat → Prop} {g : hG} {F : Nat → Prop} {ad : Nat → Nat} {σ : SS} {x y z : Int32} {o : Nat} {ou : Nat → Int64} {ls : Array Slot} (hlt9 : l.stackTraces = false) (hRx : RCx F t ad σ g) (hV : Inv σ) (ho : g o = some (arJ t 1 ou)) (hFo : ¬ F o) (X : Cx p s m ([.ref (ad 0), .int x, .int y, .int z, .ref o] : List Value).toArray meth c R_W b_W_interest 6 (some .int) TB D vwCl (tyL t) EX A "interest") (htab : c.exceptionTable.toList = [⟨0, 12, 15, 13⟩]) (hG : thG A s) (hP : hw D vwCl A g s.heap) (hl : lv_has ls 6 [(0, .ref (ad 0)), (1, .int x), (2, .int y), (3, .int z), (4, .ref o)]) : W p l e rmW s m ([.ref (ad 0), .int x, .int y, .int z, .ref o] : List Value).toArray below meth c s.heap [] 0 0 (MQ below (va_Qi (wiP F t ad σ x y z o ou g) (fun u v => hw D vwCl A u v.heap) A) ([.ref (ad 0), .int x, .int y, .int z, .ref o] : List Value).toArray s 1 6 A) (F0 m 0 ls []) := by
  obtain ⟨hx, hb, hml, hr, hts, hown, hlocks, hK, hEs, hA, hnm⟩ := id X
  have hS : va_S A s.heap s.heap [] := va_S.rf
  obtain ⟨aR, aL, aD, fR, fL, fI, fN, fB, hRc⟩ := id hRx
  have h0 := hRc.1
  refine lv_aload hx hb d_W_interest_0 (lv_at hl 4 rfl) ?_
  refine lv_iconst (v := 0) hx hb d_W_interest_2 (by decide) ?_
  refine W.eq (g2 := F0 m 3 ls [.int (nI 0), .ref o]) rfl ?_
  refine lv_aload_n hx hb d_W_interest_3 rfl (lv_at hl 0 rfl) ?_
  refine lv_iload_n hx hb d_W_interest_4 rfl (lv_at hl 1 rfl) ?_
  refine lv_iload_n hx hb d_W_interest_5 rfl (lv_at hl 2 rfl) ?_
  refine lv_iload_n hx hb d_W_interest_6 rfl (lv_at hl 3 rfl) ?_
  by_cases hthr : okInt σ x y z = true ∧ z = 0
  · obtain ⟨hok, rfl⟩ := hthr
    refine th_call hlt9 hRx hV hok X htab hG hP hS hl.1 ⟨Nat.le_of_ble_eq_true rfl, Nat.le_of_ble_eq_true rfl⟩ ⟨Nat.le_of_ble_eq_true rfl, Nat.le_of_ble_eq_true rfl⟩ (fun a H locs hP hS => ?_)
    refine lv_astore (lv' := [(5, .ref a), (0, .ref (ad 0)), (1, .int x), (2, .int y), (3, .int 0), (4, .ref o)]) hx hb d_W_interest_15 hl (by decide) rfl (fun ls hl => ?_)
    refine lv_iconst (v := 1) hx hb d_W_interest_17 (by decide) ?_
    exact h_iret hx hb hr hlocks (Nat.le_of_ble_eq_true rfl) (Nat.le_of_ble_eq_true rfl) hP hS (⟨fun _ => ⟨rfl, rfl⟩, fun q => absurd ⟨hok, rfl⟩ q⟩) d_W_interest_18
  refine k_W_7 X ⟨Nat.le_of_ble_eq_true rfl, Nat.le_of_ble_eq_true rfl⟩ ⟨Nat.le_of_ble_eq_true rfl, Nat.le_of_ble_eq_true rfl⟩ hl.1 hP hS h0 hRx hV hthr (by exact Nat.le_of_ble_eq_true rfl) d_W_interest_7 (fun r_1 u H locs hr_1 hP hS => ?_)
  obtain ⟨er9, hR9, hK9⟩ := hr_1
  have ho9 : u o = some (arJ t 1 ou) := (hK9 o hFo (by rw [ho]; exact fun q => by cases q)).trans ho
  refine lv_i2l hx hb d_W_interest_10 rfl ?_
  refine n_last X hb hP hS ho9 ⟨Nat.lt_succ_self 0, by decide⟩ d_W_interest_11 (fun H locs hP hS => ?_)
  have he_2 := va_up_self u o (some (arJ t 1 (va_up ou 0 r_1.toInt64) : va_E))
  have hP : hw D vwCl A (va_up u o (some (arJ t 1 (va_up ou 0 r_1.toInt64)))) H := hP
  refine lv_goto (tgt := 19) hx hb d_W_interest_12 (by decide) ?_
  refine lv_iconst (v := 0) hx hb d_W_interest_19 (by decide) ?_
  exact h_iret hx hb hr hlocks (Nat.le_of_ble_eq_true rfl) (Nat.le_of_ble_eq_true rfl) hP hS (⟨fun q => absurd q hthr, fun _ => ⟨rfl, u, hR9, hK9, ho9, by rw [← er9]⟩⟩) d_W_interest_20
section LAWINT
variable {p : Program} {l : Launch} {e : Env} {R : Room} {s : State} {m : MethodId} {args : Array Value} {below : List Frame} {meth : Method} {c : Code} {H : Heap} {locs : List Loc} {cells slots : Nat} {Q : State → Prop} {ls : Array Slot} {rest : List Value} {A : Nat → Prop} {D : va_G} {t : Nat → ClassId} {g : hG} {F : Nat → Prop} {ad : Nat → Nat} {σ : SS} {x y z : Int32} {o : Nat} {ou : Nat → Int64} {cc : ByteArray} {pc nL : Nat} {ret0 : Option FieldType} {nm : String}
set_option maxHeartbeats 4000000 in
/-- the law's helper, called -/
theorem k_W_23 (hlt9 : l.stackTraces = false) (X : Cx p s m args meth c R_W cc nL ret0 TB D vwCl (tyL t) EX A nm) (hR : 8 ≤ R.frames ∧ 145 ≤ R.locals) (hf : cells + 1 ≤ R.cells ∧ slots + 6 ≤ R.slots) (hls : ls.size = nL) (hGG : thG A s) (hP : hw D vwCl A g H) (hS : va_S A s.heap H locs) (hRx : RCx F t ad σ g) (hV : Inv σ) (ho : g o = some (arJ t 1 ou)) (hFo : ¬ F o) (hW8 : (rest.map fun v => v.category).sum ≤ 8) (hdg : decode cc pc = .ok (.invokestatic 23, 3))
    (kk : ∀ (r : Int32) (u : hG) (H1 : Heap) (locs1 : List Loc), wiP F t ad σ x y z o ou g r u → hw D vwCl A u H1 → va_S A s.heap H1 locs1 → W p l e R s m args below meth c H1 locs1 (cells + 1) (slots + 6) Q (F0 m (pc + 3) ls (.int r :: rest))) : W p l e R s m args below meth c H locs cells slots Q (F0 m pc ls (.ref o :: .int z :: .int y :: .int x :: .ref (ad 0) :: rest)) := by
  intro T hT XX
  obtain ⟨hx, hb, hml, hr, hts, hown, hlocks, hK, hEs, hA, hnm⟩ := id X
  have hlink := hts (Cond.methodLink "FineRowsLaw" 23 ⟨"FineRowsLaw", "interest", "(LFineRows;III[J)I"⟩) (tbm 372 (by decide +kernel))
  have hstat := hts (Cond.static ⟨"FineRowsLaw", "interest", "(LFineRows;III[J)I"⟩) (tbm 373 (by decide +kernel))
  have hcode := hts (Cond.codeWith ⟨"FineRowsLaw", "interest", "(LFineRows;III[J)I"⟩ method_3_code 6 (Option.some FieldType.int) [(0, 12, 15, 13)]) (tbm 374 (by decide +kernel))
  have hinit := hts (Cond.initialized "FineRowsLaw") (tbm 19 (by decide +kernel))
  obtain ⟨mk, methM, cM, hnamed, hmethM, hcM, hbM, hlM, htabM, hrM, hlockM, hsigM⟩ := Cond.codeWith_spec hcode
  have hstatic : methM.isStatic = true := Cond.static_spec hnamed hmethM hstat
  obtain ⟨kP, hkP, hnkP⟩ := className_of_methodNamed hnamed
  have hinitP : kP.init = .initialized := Cond.initialized_spec (findClass_of_methodNamed hnamed) hkP hinit
  have hy : ("FineRowsLaw" : String) ≠ "java/lang/invoke/MethodHandle" ∧ ("FineRowsLaw" : String) ≠ "java/lang/invoke/VarHandle" := ⟨by decide +kernel, by decide +kernel⟩
  have hsp : methM.sig.parameters.length = 5 := by
    have h9 : (parseMethodDescriptor "(LFineRows;III[J)I").map (fun d => d.parameters.length) = some 5 := by decide +kernel
    have h8 := hsigM
    rw [show parseMethodDescriptor (⟨"FineRowsLaw", "interest", "(LFineRows;III[J)I"⟩ : MethodName).desc = parseMethodDescriptor "(LFineRows;III[J)I" from rfl] at h8
    rw [h8] at h9
    exact Option.some.inj h9
  have htab1 : cM.exceptionTable.toList = [⟨0, 12, 15, 13⟩] := by
    have h9 := htabM
    cases h8 : cM.exceptionTable.toList with
    | nil => rw [h8] at h9; cases h9
    | cons a r =>
      rw [h8] at h9
      cases r with
      | cons b r2 => simp at h9
      | nil =>
        obtain ⟨a1, a2, a3, a4⟩ := a
        simp only [List.map_cons, List.map_nil, List.cons.injEq, Prod.mk.injEq, and_true] at h9
        obtain ⟨rfl, rfl, rfl, rfl⟩ := h9
        rfl
  obtain ⟨vm₁, X₁, hstep₁⟩ := XX.invokestatic hx hown hlink hnamed hmethM hstatic hkP hinitP hy (g := F0 m pc ls (.ref o :: .int z :: .int y :: .int x :: .ref (ad 0) :: rest)) rfl (argsL := [.ref (ad 0), .int x, .int y, .int z, .ref o]) (rest := rest) hsp.symm rfl (by rw [hb]; exact hdg)
  have hmk1 : (T.setVm vm₁).vm.method? mk = some methM := by rw [X₁.warmed.alike.method?]; exact hmethM
  have hplain : (T.setVm vm₁).plainMethod mk := State.WarmedH.plainAt X₁.warmed (fun k hk => by
    cases hkP.symm.trans hk
    rw [hnkP]; decide)
  obtain ⟨Y, hdo⟩ := X₁.into (g := F0 m pc ls rest) rfl (by rw [hml]; exact hls) (by rw [hb]; exact hdg) (mk := mk) (methk := methM) (ck := cM) ([.ref (ad 0), .int x, .int y, .int z, .ref o] : List Value).toArray (R' := rmW) hmk1 hcM hlockM hplain
    (by have := hR.1; show 7 + 1 ≤ R.frames; omega) (by rw [hlM]; have := hR.2; show 0 + (rest.map fun v => v.category).sum + (6 + 11) + 120 ≤ R.locals; omega) (by show cells + 1 ≤ R.cells; exact hf.1) (by show slots + 6 ≤ R.slots; exact hf.2)
  have hW1 : s.WarmedH ((T.setVm vm₁).calling (F0 m pc ls rest) mk ([.ref (ad 0), .int x, .int y, .int z, .ref o] : List Value).toArray).vm := X₁.warmed
  have hh1 : ((T.setVm vm₁).calling (F0 m pc ls rest) mk ([.ref (ad 0), .int x, .int y, .int z, .ref o] : List Value).toArray).heap = H := hT
  generalize hs1 : (T.setVm vm₁).calling (F0 m pc ls rest) mk ([.ref (ad 0), .int x, .int y, .int z, .ref o] : List Value).toArray = s1 at Y hW1 hh1
  have Cx1 : Cx p s1 mk ([.ref (ad 0), .int x, .int y, .int z, .ref o] : List Value).toArray methM cM R_W b_W_interest 6 (some .int) TB D vwCl (tyL t) EX A "interest" :=
    ⟨hx, hbM, hlM, hrM, fun w hw => word_at hW1 (good_of_word (List.mem_filter.mp hw).2) (hts w hw), by rw [hW1.alike.findClass]; exact findClass_of_methodNamed hnamed, hlockM, va_K.moved hW1.alike hK, hEX.2 s s1 hW1 hEs, fun q hq => hA q (by rw [hh1] at hq; exact Nat.le_trans hS.1 hq), (name_of_methodNamed hnamed hmethM).1⟩
  have hG1 : thG A s1 := hGG.go hW1 (by rw [hh1]; exact hS)
  have hent := lg_entry_eq mk [.ref (ad 0), .int x, .int y, .int z, .ref o] 6
  have hlv := lv_entry [.ref (ad 0), .int x, .int y, .int z, .ref o] (n := 6) (Nat.le_of_ble_eq_true rfl)
  obtain ⟨u, hst, oc, hrun, hend, ⟨⟨r, g2, rfl, hpo, hP2⟩, hF2⟩, L9, ⟨-, hWt, hsm⟩, hL9⟩ := w_W_int (e := e) (below := .java (F0 m pc ls rest) :: below) hlt9 hRx hV ho hFo Cx1 htab1 hG1 (by rw [hh1]; exact hP) hlv _ (by rw [hh1]; exact hT) Y
  have hWt2 : ((T.setVm vm₁).calling (F0 m pc ls rest) mk ([.ref (ad 0), .int x, .int y, .int z, .ref o] : List Value).toArray).WarmedH u.vm := by rw [hs1]; exact hWt
  have hsm2 : ((T.setVm vm₁).calling (F0 m pc ls rest) mk ([.ref (ad 0), .int x, .int y, .int z, .ref o] : List Value).toArray).sameButNew ({ u with vm := ((T.setVm vm₁).calling (F0 m pc ls rest) mk ([.ref (ad 0), .int x, .int y, .int z, .ref o] : List Value).toArray).vm } : State) L9 1 6 := by rw [hs1]; exact hsm
  obtain ⟨T', X', hW', hsame', ht⟩ := X₁.outOf (g := F0 m pc ls rest) rfl (by rw [hb]; exact hdg) hend hWt2 hsm2
  have hhT' : T'.heap = u.heap := by rw [ht]; simp
  have hS1 : va_S A s.heap u.heap (locs ++ L9) := by
    refine ⟨Nat.le_trans hS.1 (by rw [← hh1]; exact hF2.1), fun q hq hn => ?_, fun z hz => ?_⟩
    · have h1 : q < s1.heap.size := by rw [hh1]; exact Nat.lt_of_lt_of_le hq hS.1
      rw [hF2.2 q h1 hn, hh1]
      exact hS.2.1 q hq hn
    · rcases List.mem_append.mp hz with h | h
      · exact hS.2.2 z h
      · exact hL9 z h
  obtain ⟨t2, a2, b2⟩ := kk r g2 u.heap (locs ++ L9) hpo hP2 hS1 T' hhT' X'
  refine ⟨t2, hstep₁ _ (fun acts => ?_), b2⟩
  rw [hdo, hlM]
  rw [hlM, ← hent] at hst
  refine (Steps.weaken (mid := [.java (F0 m pc ls rest)]) hst).trans ?_
  rw [ht]
  exact a2
end LAWINT
