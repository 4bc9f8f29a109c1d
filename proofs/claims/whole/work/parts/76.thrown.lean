section THROWN
variable {p : Program} {l : Launch} {e : Env} {s : State} {m : MethodId} {args : Array Value} {below : List Frame} {meth : Method} {c : Code} {H : Heap} {locs : List Loc} {ls : Array Slot} {A : Nat → Prop}
set_option maxHeartbeats 4000000 in
theorem th_new (hx : p.tables.exec = Jvm.exec) (hlt : l.stackTraces = false) (hb : c.code = b_F_interest) (hml : c.maxLocals = 5) (hlocks : meth.locks = false) (hown : s.vm.findClass "FineRows" = some m.cls) (hts : ∀ w ∈ TB, w.before args s = true) (hG : thG A s) (hS : va_S A s.heap H locs) (hne : c.exceptionTable.toList = []) (hsz : ls.size = 5) :
    W p l e rmT s m args below meth c H locs 0 0 (thQ s below H locs) (F0 m 39 ls []) := by
  intro T hT X
  have X' := st_again X (R' := rmT) (Nat.le_refl _) (Nat.le_refl _) (Nat.le_refl _) (Nat.le_refl _)
  have htr : e.platform.stackTraces = false := by
    have h9 : e.platform.stackTraces = l.stackTraces := by rw [X.admits.platform]
    rw [h9]; exact hlt
  generalize hs' : T.setFrames (.invoking m args :: below) = s' at X'
  have hvm' : s'.vm = T.vm := by rw [← hs']; rfl
  have hhp' : s'.heap = T.heap := by rw [← hs']; rfl
  have hW' : s.WarmedH s'.vm := by rw [hvm']; exact X.warmed
  have hown' : s'.vm.findClass "FineRows" = some m.cls := by rw [hW'.alike.findClass]; exact hown
  have hts' : ∀ w ∈ TB, w.before args s' = true := fun w hw => word_at hW' (good_of_word (List.mem_filter.mp hw).2) (hts w hw)
  have hG' : thG A s' := hG.go hW' (by rw [hhp', hT]; exact hS)
  have hat := hG'.atoms (args := args) hts'
  obtain ⟨q, hq⟩ := hG'.str
  obtain ⟨vm₁, cX, kX, hfX, hkX, -, -, X₁, st1⟩ := X'.newCold hx (own := "FineRows") (C := "java/lang/ArithmeticException") (index := 63) (n := 6) hown' (hts' _ (tbm 380 (by decide +kernel))) (hts' _ (tbm 381 (by decide +kernel))) (hts' _ (tbm 28 (by decide +kernel)))
    (g := F0 m 39 ls []) rfl (by rw [hb]; exact d_F_interest_39) (Nat.le_refl _) (Nat.le_refl _)
  generalize hT1 : (T.setVm vm₁).pushCell { cls := cX, slots := kX.instanceTypes.map defaultValue, vm := .none } = T1 at X₁ st1
  have hcellA : T1.heap[T.heap.size]? = some (freshCell cX kX) := by rw [← hT1]; exact State.heap_pushCell_size _ _
  have K : W p l e rmT s' m args below meth c T1.heap [] (0 + 1) (0 + 6) (thQ s below H locs) (F0 m 42 ls [.ref T.heap.size]) := by
    refine lv_dup hx hb d_F_interest_42 rfl ?_
    refine va_ldcS hx hb hown' hq d_F_interest_43 ?_
    intro T2 hT2 X2
    obtain ⟨U, hsteps, hrun, hend, hWU, hsame, ce, hce, Kc⟩ := X2.ctorThrowS hx htr (own := "FineRows") (cls := "java/lang/ArithmeticException") (names := ["java/lang/RuntimeException", "java/lang/Exception"]) (ic := 67) hown' (by decide +kernel) (by decide +kernel)
      hat (fun y hy => by cases hy) hfX hkX (by rw [hT2]; exact hcellA) (by rw [hhp']; exact Nat.le_refl _) (msg := .ref q) rfl
      (g := F0 m 45 ls [.ref q, .ref T.heap.size, .ref T.heap.size]) rfl (by rw [hml]; exact hsz) rfl rfl (rest := []) rfl
      (by rw [hb]; exact d_F_interest_45) (by rw [hb]; exact d_F_interest_48) (by rw [hne]; exact fun x hx => by cases hx) (by decide) (Nat.le_of_ble_eq_true rfl) hlocks
    refine ⟨U, hsteps, hrun, T.heap.size, ce, hend, ?_, ?_, hce, ?_, Kc.vm, fun a ha => ?_⟩
    · exact State.WarmedH.trans hW' hWU
    · have hB : T.sameButNew ({ U with vm := T.vm } : State) [] 1 6 := by
        obtain ⟨e2, q2, q3, q4, q5, q6⟩ := hsame
        rw [← hs'] at e2 q2 q3 q4 q5 q6
        refine ⟨?_, q2, q3, q4, q5, q6⟩
        rw [State.setFrames_setFrames] at e2
        exact e2
      have h9 := X.same.trans (hB.setVm s.vm)
      rw [List.append_nil] at h9
      exact h9
    · rw [← hW'.alike.findClass]; exact Kc.cls
    · have h1 : H[a]? = some H[a] := Array.getElem?_eq_getElem ha
      have h2 : s'.heap[a]? = some H[a] := by rw [hhp', hT]; exact h1
      have h3 := State.sameButNew.old_cell hsame h2
      rw [h1]; exact h3
  obtain ⟨t, a1, b1⟩ := K T1 rfl X₁
  exact ⟨t, st1 _ a1, b1⟩
end THROWN
