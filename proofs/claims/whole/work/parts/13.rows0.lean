/-! The class's own words: array classes, what the tables say of nest links and of arrays of references; calls over one list of words. -/
abbrev tyL (t : Nat → ClassId) : List (ClassId × FieldType) := [(t 0, .int), (t 1, .long), (t 2, .boolean), (t 3, .object R_R), (t 4, .object R_L), (t 5, .object R_D)]
abbrev arI (t : Nat → ClassId) (n : Nat) (f : Nat → Int32) : va_E := .inl (t 0, n, .inl f)
abbrev arJ (t : Nat → ClassId) (n : Nat) (f : Nat → Int64) : va_E := .inl (t 1, n, .inr (.inl f))
abbrev arZ (t : Nat → ClassId) (n : Nat) (f : Nat → Int32) : va_E := .inl (t 2, n, .inl f)
abbrev arQ (t : Nat → ClassId) (k n : Nat) (f : Nat → Option Nat) : va_E := .inl (t k, n, .inr (.inr (.inr (.inr f))))
def EX (U : State) : Prop := (va_Nw (.methodLinkNest R_F 26 y_B_init R_F) U ∧ va_Nw (.methodLinkNest R_F 33 y_C_init R_F) U ∧ va_Nw (.methodLinkNest R_B 24 y_F_isWithin R_F) U) ∧ va_AO R_R U ∧ va_AO R_L U ∧ va_AO R_D U
theorem hEX : hE EX := by
  refine ⟨fun U f mk a h => ?_, fun s U hW h => ?_⟩
  · obtain ⟨⟨h1, h2, h3⟩, h4, h5, h6⟩ := h
    exact ⟨⟨va_Nw.same rfl (u := U) (U := U.calling f mk a) rfl h1, va_Nw.same rfl (u := U) (U := U.calling f mk a) rfl h2, va_Nw.same rfl (u := U) (U := U.calling f mk a) rfl h3⟩, va_AO.moved (u := U) (U := U.calling f mk a) (Vm.Alike.refl U.vm) h4, va_AO.moved (u := U) (U := U.calling f mk a) (Vm.Alike.refl U.vm) h5, va_AO.moved (u := U) (U := U.calling f mk a) (Vm.Alike.refl U.vm) h6⟩
  · obtain ⟨⟨h1, h2, h3⟩, h4, h5, h6⟩ := h
    exact ⟨⟨h1.warmM hW, h2.warmM hW, h3.warmM hW⟩, h4.moved hW.alike, h5.moved hW.alike, h6.moved hW.alike⟩
theorem tb_cons {y : MethodName} {bytes : ByteArray} {maxL : Nat} {ret : Option FieldType} (h : Cond.code y bytes maxL ret ∈ TB) : GoodIn TB (Cond.code y bytes maxL ret :: TB) := fun w hw => by
  rcases List.mem_cons.mp hw with rfl | h1
  · exact ⟨h, Or.inl rfl⟩
  · exact ⟨h1, tb_good w h1⟩
section HRUN
variable {p : Program} {l : Launch} {e : Env} {R : Room} {s : State} {m : MethodId} {args : Array Value} {below : List Frame} {meth : Method} {c : Code} {H : Heap} {locs : List Loc} {cells slots : Nat} {Q : State → Prop}
variable {cc : ByteArray} {pc : Nat} {ls : Array Slot} {rest st0 : List Value} {D : va_G} {A : Nat → Prop} {a : Nat} {t : Nat → ClassId} {g : hG} {nL : Nat} {ret0 : Option FieldType} {nm own : String}
variable {y : MethodName} {bytes : ByteArray} {maxL n index : Nat} {ret : Option FieldType} {rm : Room} {Qc : Array Value → State → Outcome → State → Prop} {As : List Value} {b ci N : Nat} {fs : List Value} {T : u_T} {C : String}
theorem lv_topq {o : Option Nat} (k0 : o = none → W p l e R s m args below meth c H locs cells slots Q (F0 m pc ls (.null :: rest))) (k1 : ∀ y : Nat, o = some y → W p l e R s m args below meth c H locs cells slots Q (F0 m pc ls (.ref y :: rest))) : W p l e R s m args below meth c H locs cells slots Q (F0 m pc ls (va_rf o :: rest)) := by
  cases o with
  | none => exact k0 rfl
  | some y => exact k1 y rfl
theorem lv_some {o : Option Nat} {y : Nat} (ho : o = some y) (k : W p l e R s m args below meth c H locs cells slots Q (F0 m pc ls (.ref y :: rest))) : W p l e R s m args below meth c H locs cells slots Q (F0 m pc ls (va_rf o :: rest)) := by
  subst ho; exact k
theorem runS (X : Cx p s m args meth c own cc nL ret0 TB D vwCl (tyL t) EX A nm) (hM : Met l y (Cond.code y bytes maxL ret :: TB) rm (va_Pc As (hI D vwCl (tyL t) EX A g)) Qc rm.cells rm.slots A)
    (hlink : Cond.methodLink own index y ∈ TB) (hst : Cond.static y ∈ TB) (hini : Cond.initialized y.cls ∈ TB) (hcode : Cond.code y bytes maxL ret ∈ TB)
    (hd : y.cls ≠ "java/lang/invoke/MethodHandle" ∧ y.cls ≠ "java/lang/invoke/VarHandle" ∧ (parseMethodDescriptor y.desc).map (fun d => d.parameters.length) = some n) (hR : rm.frames + 1 ≤ R.frames ∧ 8 + (maxL + 11) + rm.locals ≤ R.locals) (hf : cells + rm.cells ≤ R.cells ∧ slots + rm.slots ≤ R.slots)
    (hP : hw D vwCl A g H) (hS : va_S A s.heap H locs) (hls : ls.size = nL) (hn : As.length = n) (hst0 : st0 = As.reverse ++ rest) (hW : (rest.map fun v => v.category).sum ≤ 8) (hdg : decode cc pc = .ok (.invokestatic index, 3)) :
    va_Run p l e R s m args below meth c H locs cells slots rm.cells rm.slots (F0 m pc ls st0) rest (Qc As.toArray) A := by
  obtain ⟨hx, hb, hml, hr, hts, hown, hlocks, hK, hEs, hA, hnm⟩ := X
  exact va_runS ⟨hx, hb, hml, hown, hts⟩ hM ⟨callB_of n hts (tb_cons hcode) rfl rfl rfl (hts _ hini) (hts _ hlink) hd hR, hts _ hst⟩ (h_preS hEX hK hEs hP hS hA) rfl hn hls hst0 (lv_room hW) hdg hf
theorem runV (X : Cx p s m args meth c own cc nL ret0 TB D vwCl (tyL t) EX A nm) (hM : Met l y (Cond.code y bytes maxL ret :: TB) rm (va_Pc (.ref b :: As) (hI D vwCl (tyL t) EX A g)) Qc rm.cells rm.slots A)
    (hlink : Cond.methodLink own index y ∈ TB) (hin : Cond.instanceMethod y ∈ TB) (hsel : Cond.selects C y y ∈ TB) (hini : Cond.initialized y.cls ∈ TB) (hcode : Cond.code y bytes maxL ret ∈ TB) (hc : vwCl[ci]? = some (C, T, N))
    (hd : y.cls ≠ "java/lang/invoke/MethodHandle" ∧ y.cls ≠ "java/lang/invoke/VarHandle" ∧ (parseMethodDescriptor y.desc).map (fun d => d.parameters.length) = some n) (hR : rm.frames + 1 ≤ R.frames ∧ 8 + (maxL + 11) + rm.locals ≤ R.locals) (hf : cells + rm.cells ≤ R.cells ∧ slots + rm.slots ≤ R.slots)
    (hP : hw D vwCl A g H) (he : g b = some (.inr (ci, fs))) (hS : va_S A s.heap H locs) (hls : ls.size = nL) (hn : As.length = n) (hst0 : st0 = As.reverse ++ .ref b :: rest) (hW : (rest.map fun v => v.category).sum ≤ 8) (hdg : decode cc pc = .ok (.invokevirtual index, 3)) :
    va_Run p l e R s m args below meth c H locs cells slots rm.cells rm.slots (F0 m pc ls st0) rest (Qc (Value.ref b :: As).toArray) A := by
  obtain ⟨hx, hb, hml, hr, hts, hown, hlocks, hK, hEs, hA, hnm⟩ := X
  exact va_runV ⟨hx, hb, hml, hown, hts⟩ hM ⟨callB_of n hts (tb_cons hcode) rfl rfl rfl (hts _ hini) (hts _ hlink) hd hR, hts _ hin, hts _ hsel⟩ (h_preV hEX hK hEs hP hS hA he hc) rfl hn hls hst0 (lv_room hW) hdg hf
theorem runI (X : Cx p s m args meth c own cc nL ret0 TB D vwCl (tyL t) EX A nm) (hM : Met l y (Cond.code y bytes maxL none :: TB) rm (va_Pc (.ref b :: As) (hI D vwCl (tyL t) EX A g)) Qc rm.cells rm.slots A)
    (hlink : Cond.methodLink own index y ∈ TB) (hin : Cond.instanceMethod y ∈ TB) (hini : Cond.initialized y.cls ∈ TB) (hcode : Cond.code y bytes maxL none ∈ TB) (hy1 : y.name = "<init>")
    (hd : y.cls ≠ "java/lang/invoke/MethodHandle" ∧ y.cls ≠ "java/lang/invoke/VarHandle" ∧ (parseMethodDescriptor y.desc).map (fun d => d.parameters.length) = some n) (hR : rm.frames + 1 ≤ R.frames ∧ 8 + (maxL + 11) + rm.locals ≤ R.locals) (hf : cells + rm.cells ≤ R.cells ∧ slots + rm.slots ≤ R.slots)
    (hP : hw D vwCl A g H) (hS : va_S A s.heap H locs) (hls : ls.size = nL) (hn : As.length = n) (hst0 : st0 = As.reverse ++ .ref b :: rest) (hW : (rest.map fun v => v.category).sum ≤ 8) (hdg : decode cc pc = .ok (.invokespecial index, 3)) :
    va_Run p l e R s m args below meth c H locs cells slots rm.cells rm.slots (F0 m pc ls st0) rest (Qc (Value.ref b :: As).toArray) A := by
  obtain ⟨hx, hb, hml, hr, hts, hown, hlocks, hK, hEs, hA, hnm⟩ := X
  exact va_runI ⟨hx, hb, hml, hown, hts⟩ hM ⟨callB_of n hts (tb_cons hcode) rfl rfl rfl (hts _ hini) (hts _ hlink) hd hR, hy1, hts _ hin⟩ (h_preS (As := .ref b :: As) hEX hK hEs hP hS hA) rfl hn hls hst0 (lv_room hW) hdg hf
theorem runSN (host : String) (X : Cx p s m args meth c own cc nL ret0 TB D vwCl (tyL t) EX A nm) (hM : Met l y (Cond.code y bytes maxL ret :: TB) rm (va_Pc As (hI D vwCl (tyL t) EX A g)) Qc rm.cells rm.slots A)
    (hlink : va_Nw (.methodLinkNest own index y host) s) (hst : Cond.static y ∈ TB) (hini : Cond.initialized y.cls ∈ TB) (hcode : Cond.code y bytes maxL ret ∈ TB)
    (hd : y.cls ≠ "java/lang/invoke/MethodHandle" ∧ y.cls ≠ "java/lang/invoke/VarHandle" ∧ (parseMethodDescriptor y.desc).map (fun d => d.parameters.length) = some n) (hR : rm.frames + 1 ≤ R.frames ∧ 8 + (maxL + 11) + rm.locals ≤ R.locals) (hf : cells + rm.cells ≤ R.cells ∧ slots + rm.slots ≤ R.slots)
    (hP : hw D vwCl A g H) (hS : va_S A s.heap H locs) (hls : ls.size = nL) (hn : As.length = n) (hst0 : st0 = As.reverse ++ rest) (hW : (rest.map fun v => v.category).sum ≤ 8) (hdg : decode cc pc = .ok (.invokestatic index, 3)) :
    va_Run p l e R s m args below meth c H locs cells slots rm.cells rm.slots (F0 m pc ls st0) rest (Qc As.toArray) A := by
  obtain ⟨hx, hb, hml, hr, hts, hown, hlocks, hK, hEs, hA, hnm⟩ := X
  exact va_runSN ⟨hx, hb, hml, hown, hts⟩ hM ⟨va_cnB n hts (tb_cons hcode) rfl rfl rfl hlink (hts _ hini) hd hR, hts _ hst, trivial⟩ (h_preS hEX hK hEs hP hS hA) rfl hn hls hst0 (lv_room hW) hdg hf
theorem runIN (host : String) (X : Cx p s m args meth c own cc nL ret0 TB D vwCl (tyL t) EX A nm) (hM : Met l y (Cond.code y bytes maxL none :: TB) rm (va_Pc (.ref b :: As) (hI D vwCl (tyL t) EX A g)) Qc rm.cells rm.slots A)
    (hlink : va_Nw (.methodLinkNest own index y host) s) (hin : Cond.instanceMethod y ∈ TB) (hini : Cond.initialized y.cls ∈ TB) (hcode : Cond.code y bytes maxL none ∈ TB) (hy1 : y.name = "<init>")
    (hd : y.cls ≠ "java/lang/invoke/MethodHandle" ∧ y.cls ≠ "java/lang/invoke/VarHandle" ∧ (parseMethodDescriptor y.desc).map (fun d => d.parameters.length) = some n) (hR : rm.frames + 1 ≤ R.frames ∧ 8 + (maxL + 11) + rm.locals ≤ R.locals) (hf : cells + rm.cells ≤ R.cells ∧ slots + rm.slots ≤ R.slots)
    (hP : hw D vwCl A g H) (hS : va_S A s.heap H locs) (hls : ls.size = nL) (hn : As.length = n) (hst0 : st0 = As.reverse ++ .ref b :: rest) (hW : (rest.map fun v => v.category).sum ≤ 8) (hdg : decode cc pc = .ok (.invokespecial index, 3)) :
    va_Run p l e R s m args below meth c H locs cells slots rm.cells rm.slots (F0 m pc ls st0) rest (Qc (Value.ref b :: As).toArray) A := by
  obtain ⟨hx, hb, hml, hr, hts, hown, hlocks, hK, hEs, hA, hnm⟩ := X
  exact va_runIN ⟨hx, hb, hml, hown, hts⟩ hM ⟨va_cnB n hts (tb_cons hcode) rfl rfl rfl hlink (hts _ hini) hd hR, hy1, hts _ hin⟩ (h_preS (As := .ref b :: As) hEX hK hEs hP hS hA) rfl hn hls hst0 (lv_room hW) hdg hf
end HRUN
