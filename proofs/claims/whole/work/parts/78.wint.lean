theorem d_W_interest_0 : decode b_W_interest 0 = .ok (.aload 4, 2) := by decide +kernel
theorem d_W_interest_2 : decode b_W_interest 2 = .ok (.iconst 0, 1) := by decide +kernel
theorem d_W_interest_3 : decode b_W_interest 3 = .ok (.aload_n 0, 1) := by decide +kernel
theorem d_W_interest_4 : decode b_W_interest 4 = .ok (.iload_n 1, 1) := by decide +kernel
theorem d_W_interest_5 : decode b_W_interest 5 = .ok (.iload_n 2, 1) := by decide +kernel
theorem d_W_interest_6 : decode b_W_interest 6 = .ok (.iload_n 3, 1) := by decide +kernel
theorem d_W_interest_7 : decode b_W_interest 7 = .ok (.invokevirtual 7, 3) := by decide +kernel
theorem d_W_interest_10 : decode b_W_interest 10 = .ok (.i2l, 1) := by decide +kernel
theorem d_W_interest_11 : decode b_W_interest 11 = .ok (.lastore, 1) := by decide +kernel
theorem d_W_interest_12 : decode b_W_interest 12 = .ok (.goto 7, 3) := by decide +kernel
theorem d_W_interest_15 : decode b_W_interest 15 = .ok (.astore 5, 2) := by decide +kernel
theorem d_W_interest_17 : decode b_W_interest 17 = .ok (.iconst 1, 1) := by decide +kernel
theorem d_W_interest_18 : decode b_W_interest 18 = .ok (.ireturn, 1) := by decide +kernel
theorem d_W_interest_19 : decode b_W_interest 19 = .ok (.iconst 0, 1) := by decide +kernel
theorem d_W_interest_20 : decode b_W_interest 20 = .ok (.ireturn, 1) := by decide +kernel
section THCALL
variable {p : Program} {l : Launch} {e : Env} {R : Room} {s : State} {m : MethodId} {args : Array Value} {below : List Frame} {meth : Method} {c : Code} {H : Heap} {locs : List Loc} {cells slots : Nat} {Q : State → Prop} {ls : Array Slot} {A : Nat → Prop} {D : va_G} {t : Nat → ClassId} {g : hG} {F : Nat → Prop} {ad : Nat → Nat} {σ : SS} {x y i0 : Int32} {o : Nat}
set_option maxHeartbeats 4000000 in
/-- interest throws, the law's helper catches: the walk goes on at the handler, the world as it was -/
theorem th_call (hlt9 : l.stackTraces = false) (hRx : RCx F t ad σ g) (hV : Inv σ) (hok : okInt σ x y 0 = true) (X : Cx p s m args meth c R_W b_W_interest 6 (some .int) TB D vwCl (tyL t) EX A "interest") (htab : c.exceptionTable.toList = [⟨0, 12, 15, 13⟩]) (hG : thG A s) (hP : hw D vwCl A g H) (hS : va_S A s.heap H locs) (hls : ls.size = 6) (hR : 7 ≤ R.frames ∧ 114 ≤ R.locals) (hf : cells + 1 ≤ R.cells ∧ slots + 6 ≤ R.slots)
    (kk : ∀ (a : Nat) (H1 : Heap) (locs1 : List Loc), hw D vwCl A g H1 → va_S A s.heap H1 locs1 → W p l e R s m args below meth c H1 locs1 (cells + 1) (slots + 6) Q (F0 m 15 ls [.ref a])) : W p l e R s m args below meth c H locs cells slots Q (F0 m 7 ls (.int 0 :: .int y :: .int x :: .ref (ad 0) :: .int i0 :: .ref o :: [])) := by
  intro T hT XX
  obtain ⟨hx, hb, hml, hr, hts, hown, hlocks, hK, hEs, hA, hnm⟩ := id X
  have hlink := hts (Cond.methodLink "FineRowsLaw" 7 ⟨"FineRows", "interest", "(III)I"⟩) (tbm 376 (by decide +kernel))
  have hinst := hts (Cond.instanceMethod ⟨"FineRows", "interest", "(III)I"⟩) (tbm 377 (by decide +kernel))
  have hsel := hts (Cond.selects "FineRows" ⟨"FineRows", "interest", "(III)I"⟩ ⟨"FineRows", "interest", "(III)I"⟩) (tbm 378 (by decide +kernel))
  have hcode := hts (Cond.code ⟨"FineRows", "interest", "(III)I"⟩ prog_1_method_3_code 5 (Option.some FieldType.int)) (tbm 379 (by decide +kernel))
  obtain ⟨mk, methM, hnamed, hmethM, hstM, habM⟩ := Cond.instanceMethod_spec hinst
  obtain ⟨methM', cM, hmethM', hcM, hbM, hlM, hrM, hlockM, htabM, hsigM⟩ := Cond.code_spec hnamed hcode
  cases hmethM.symm.trans hmethM'
  obtain ⟨c2, r2, m2, q1, q2, q3, q4, kP, hkP, hkPi⟩ := Cond.selects_spec hsel
  obtain ⟨aR, aL, aD, fR, fL, fI, fN, fB, hRc⟩ := id hRx
  obtain ⟨ws, k0, hp, -, hk0, -⟩ := hP.at hRc.1
  obtain ⟨cellB, hcB, hoB, hclB⟩ := va_recv hK hp (ci := 0) (q0 := k0) (q := (R_F, F_F, 9)) rfl hk0
  have hy : ("FineRows" : String) ≠ "java/lang/invoke/MethodHandle" ∧ ("FineRows" : String) ≠ "java/lang/invoke/VarHandle" := ⟨by decide +kernel, by decide +kernel⟩
  cases hclB.symm.trans q1
  cases (State.methodFound?_of_named hnamed hy).symm.trans q2
  cases hnamed.symm.trans q3
  have hselP : selectMethod e.platform s.vm cellB.cls mk = .method mk := by rw [Launch.admits_selectMethod XX.admits]; exact q4
  have hsp : methM.sig.parameters.length = 3 := by
    have h9 : parseMethodDescriptor "(III)I" = some ⟨[.int, .int, .int], some .int⟩ := by decide +kernel
    have h8 := hsigM
    rw [h9] at h8
    rw [← Option.some.inj h8]; rfl
  obtain ⟨vm₁, X₁, hstep₁⟩ := XX.invokevirtual hx hown hlink hnamed hmethM hstM hkP hkPi hy (a := ad 0) (cell := cellB) (by rw [hT]; exact hcB)
    (fun z h => by rw [h] at hoB; cases hoB) hselP hmethM habM hkP hkPi (g := F0 m 7 ls (.int 0 :: .int y :: .int x :: .ref (ad 0) :: .int i0 :: .ref o :: [])) rfl (argsL := [.int x, .int y, .int 0]) (rest := [.int i0, .ref o]) hsp.symm rfl (by rw [hb]; exact d_W_interest_7)
  have hmk1 : (T.setVm vm₁).vm.method? mk = some methM := by rw [X₁.warmed.alike.method?]; exact hmethM
  have hplain : (T.setVm vm₁).plainMethod mk := State.WarmedH.plainAt X₁.warmed (fun k hk => by
    obtain ⟨k9, hk9, hnk⟩ := className_of_methodNamed hnamed
    cases hk9.symm.trans hk
    rw [hnk]; decide)
  obtain ⟨Y, hdo⟩ := X₁.into (g := F0 m 7 ls [.int i0, .ref o]) rfl (by rw [hml]; exact hls) (by rw [hb]; exact d_W_interest_7) (mk := mk) (methk := methM) (ck := cM) ([.ref (ad 0), .int x, .int y, .int 0] : List Value).toArray (R' := rmT) hmk1 hcM hlockM hplain
    (by have := hR.1; show 6 + 1 ≤ R.frames; omega) (by rw [hlM]; have := hR.2; show 0 + 2 + (5 + 11) + 90 ≤ R.locals; omega) (by show cells + 1 ≤ R.cells; exact hf.1) (by show slots + 6 ≤ R.slots; exact hf.2)
  have hW1 : s.WarmedH ((T.setVm vm₁).calling (F0 m 7 ls [.int i0, .ref o]) mk ([.ref (ad 0), .int x, .int y, .int 0] : List Value).toArray).vm := X₁.warmed
  have hh1 : ((T.setVm vm₁).calling (F0 m 7 ls [.int i0, .ref o]) mk ([.ref (ad 0), .int x, .int y, .int 0] : List Value).toArray).heap = H := hT
  generalize hs1 : (T.setVm vm₁).calling (F0 m 7 ls [.int i0, .ref o]) mk ([.ref (ad 0), .int x, .int y, .int 0] : List Value).toArray = s1 at Y hW1 hh1
  have Cx1 : Cx p s1 mk ([.ref (ad 0), .int x, .int y, .int 0] : List Value).toArray methM cM R_F b_F_interest 5 (some .int) TB D vwCl (tyL t) EX A "interest" :=
    ⟨hx, hbM, hlM, hrM, fun w hw => word_at hW1 (good_of_word (List.mem_filter.mp hw).2) (hts w hw), by rw [hW1.alike.findClass]; exact findClass_of_methodNamed hnamed, hlockM, va_K.moved hW1.alike hK, hEX.2 s s1 hW1 hEs, fun q hq => hA q (by rw [hh1] at hq; exact Nat.le_trans hS.1 hq), (name_of_methodNamed hnamed hmethM).1⟩
  have hG1 : thG A s1 := hG.go hW1 (by rw [hh1]; exact hS)
  have hne1 : cM.exceptionTable.toList = [] := by
    have h9 := htabM
    rw [Array.isEmpty_iff] at h9
    rw [h9]
  have hent := lg_entry_eq mk [.ref (ad 0), .int x, .int y, .int 0] 5
  have hlv := lv_entry [.ref (ad 0), .int x, .int y, .int 0] (n := 5) (Nat.le_of_ble_eq_true rfl)
  obtain ⟨u, hst, H9, locs9, hP9, hS9, hrun, a, ce, hend, hWt, hsm, hce, hcls, hvmn, hkeep⟩ := th_walk (e := e) (below := .java (F0 m 7 ls [.int i0, .ref o]) :: below) hlt9 hRx hV hok Cx1 hne1 hG1 (by rw [hh1]; exact hP) hlv _ (by rw [hh1]; exact hT) Y
  have hWt2 : ((T.setVm vm₁).calling (F0 m 7 ls [.int i0, .ref o]) mk ([.ref (ad 0), .int x, .int y, .int 0] : List Value).toArray).WarmedH u.vm := by rw [hs1]; exact hWt
  have hsm2 : ((T.setVm vm₁).calling (F0 m 7 ls [.int i0, .ref o]) mk ([.ref (ad 0), .int x, .int y, .int 0] : List Value).toArray).sameButNew ({ u with vm := ((T.setVm vm₁).calling (F0 m 7 ls [.int i0, .ref o]) mk ([.ref (ad 0), .int x, .int y, .int 0] : List Value).toArray).vm } : State) locs9 1 6 := by rw [hs1]; exact hsm
  obtain ⟨T', X', hW', hsame', ht⟩ := X₁.outOfThrown (g := F0 m 7 ls [.int i0, .ref o]) rfl hend hWt2 hsm2
  have hhT' : T'.heap = u.heap := by rw [ht]; exact (Stand.throwing_heap T' _ a).symm
  have hcast := hG.atoms (args := args) hts (Cond.castable "java/lang/ArithmeticException" "java/lang/ArithmeticException") (by simp [Bundle.ownAtoms])
  obtain ⟨c3, c4, hc3, hc4, hasg⟩ := Cond.castable_spec hcast
  have hcT : s.vm.findClass "java/lang/ArithmeticException" = some ce.cls := by rw [← hW1.alike.findClass]; exact hcls
  cases hc3.symm.trans hcT
  cases hc4.symm.trans hcT
  obtain ⟨vm', XV, stV⟩ := th_caught X' (a := a) (g := F0 m 7 ls [.int i0, .ref o]) rfl (own := "FineRowsLaw") (name := "java/lang/ArithmeticException") hown (x := ⟨0, 12, 15, 13⟩) htab rfl (by decide) (hts (Cond.classLink "FineRowsLaw" 13 "java/lang/ArithmeticException") (tbm 375 (by decide +kernel))) (by rw [hhT']; exact hce) hvmn hcT hasg
  have hSz : s.heap.size ≤ u.heap.size := Nat.le_trans hS.1 (by rw [← hh1]; exact hsm.2.1)
  have hS1 : va_S A s.heap u.heap (locs ++ locs9) := by
    refine ⟨hSz, fun q hq hn => ?_, fun z hz => ?_⟩
    · have h1 : q < s1.heap.size := by rw [hh1]; exact Nat.lt_of_lt_of_le hq hS.1
      rw [hkeep q (Nat.lt_of_lt_of_le h1 hS9.1), hS9.2.1 q h1 hn, hh1]
      exact hS.2.1 q hq hn
    · rcases List.mem_append.mp hz with h | h
      · exact hS.2.2 z h
      · exact hS9.2.2 z h
  obtain ⟨t2, a2, b2⟩ := kk a u.heap (locs ++ locs9) (hw_ext hP9 hkeep) hS1 (T'.setVm vm') hhT' XV
  refine ⟨t2, hstep₁ _ (fun acts => ?_), b2⟩
  rw [hdo, hlM]
  rw [hlM, ← hent] at hst
  refine (Steps.weaken (mid := [.java (F0 m 7 ls [.int i0, .ref o])]) hst).trans ?_
  rw [ht]
  exact stV _ a2
end THCALL
