/-! Contracts over worlds that are functions; E: what the tables say besides (nest links, arrays of references ..). -/
def hI (D : va_G) (cl : List vw_C) (tys : List (ClassId × FieldType)) (E : State → Prop) (A : Nat → Prop) (g : hG) : State → Prop := fun U => hw D cl A g U.heap ∧ va_K D cl tys U ∧ E U ∧ ∀ q, U.heap.size ≤ q → A q
/-- E is blind to frames, and stays while classes are warmed -/
def hE (E : State → Prop) : Prop := (∀ (U : State) (f : JFrame) (mk : MethodId) (a : Array Value), E U → E (U.calling f mk a)) ∧ ∀ s U : State, s.WarmedH U.vm → E s → E U
/-- what a method's body knows from its entry on -/
def Cx (p : Program) (s : State) (m : MethodId) (args : Array Value) (meth : Method) (c : Code) (own : String) (cc : ByteArray) (maxL : Nat) (ret : Option FieldType) (Ts : List Cond) (D : va_G) (cl : List vw_C) (tys : List (ClassId × FieldType)) (E : State → Prop) (A : Nat → Prop) (nm : String) : Prop :=
  p.tables.exec = Jvm.exec ∧ c.code = cc ∧ c.maxLocals = maxL ∧ meth.sig.returnType = ret ∧ (∀ w ∈ Ts, w.before args s = true) ∧ s.vm.findClass own = some m.cls ∧ meth.locks = false ∧ va_K D cl tys s ∧ E s ∧ (∀ q, s.heap.size ≤ q → A q) ∧ meth.name = nm
theorem hI.blind {D : va_G} {cl : List vw_C} {tys : List (ClassId × FieldType)} {E : State → Prop} {A : Nat → Prop} {g : hG} {av : List Value} (hEE : hE E) : FrameBlind (va_Pc av (hI D cl tys E A g)) := fun a U f mk q => by
  obtain ⟨q0, qP, qK, qE, qA⟩ := q
  exact ⟨q0, qP, va_K.moved (u := U) (U := U.calling f mk a) (Vm.Alike.refl U.vm) qK, hEE.1 U f mk a qE, qA⟩
theorem Met.ofH {l : Launch} {y : MethodName} {Ts : List Cond} {rm : Room} {av : List Value} {D : va_G} {cl : List vw_C} {tys : List (ClassId × FieldType)} {E : State → Prop} {A : Nat → Prop} {g : hG} {Qc : Array Value → State → Outcome → State → Prop} {mc ms : Nat} {free : Addr → Prop} {cc : ByteArray} {maxL : Nat} {ret : Option FieldType} {lv : List (Nat × Value)}
    (hy : plainName y.cls = true) (hn : (lg_sl av).length ≤ maxL) (hlv : lv_args 0 av = lv)
    (body : ∀ (p : Program) (e : Env) (s : State) (m : MethodId) (below : List Frame) (meth : Method) (c : Code) (ls : Array Slot), Cx p s m av.toArray meth c y.cls cc maxL ret Ts D cl tys E A y.name → hw D cl A g s.heap → va_S A s.heap s.heap [] → lv_has ls maxL lv →
      W p l e rm s m av.toArray below meth c s.heap [] 0 0 (MQ below Qc av.toArray s mc ms free) (F0 m 0 ls [])) : Met l y (Cond.code y cc maxL ret :: Ts) rm (va_Pc av (hI D cl tys E A g)) Qc mc ms free := by
  refine Met.ofW (cc := cc) (maxL := maxL) (ret := ret) hy rfl ?_
  intro p e s m args below meth c s₁ B hml hv
  obtain ⟨rfl, hP, hK, hEs, hA⟩ := hv
  have hts := atoms_spec (ws := Cond.code y cc maxL ret :: Ts) B.pre
  have hl := lv_entry av (n := maxL) hn
  rw [lg_entry_eq]
  rw [hlv] at hl
  exact body p e s m below meth c _ ⟨B.exec, B.bytes, hml, B.returns, fun w h => hts w (List.mem_cons_of_mem _ h), findClass_of_methodNamed B.named, B.notSynchronized, hK, hEs, hA, (name_of_methodNamed B.named B.method).1⟩ hP va_S.rf hl
section HCALLS
variable {p : Program} {l : Launch} {e : Env} {R : Room} {s : State} {m : MethodId} {args : Array Value} {below : List Frame} {meth : Method} {c : Code} {H : Heap} {locs : List Loc} {cells slots : Nat} {Q : State → Prop}
variable {cc : ByteArray} {pc : Nat} {ls : Array Slot} {rest st0 : List Value} {D : va_G} {cl : List vw_C} {A : Nat → Prop} {a : Array Value} {tys : List (ClassId × FieldType)} {g : hG} {H0 : Heap} {mc ms : Nat} {E : State → Prop}
theorem h_ci {post : Int32 → hG → Prop} (hr : va_Run p l e R s m args below meth c H locs cells slots mc ms (F0 m pc ls st0) rest (va_Qi post (fun u t => hw D cl A u t.heap) A a) A) (hS : va_S A H0 H locs)
    (kk : ∀ (r : Int32) (u : hG) (H1 : Heap) (locs1 : List Loc), post r u → hw D cl A u H1 → va_S A H0 H1 locs1 → W p l e R s m args below meth c H1 locs1 (cells + mc) (slots + ms) Q (F0 m (pc + 3) ls (.int r :: rest))) : W p l e R s m args below meth c H locs cells slots Q (F0 m pc ls st0) :=
  va_calli hr hS (fun q _ h => h) (fun q h => h) (fun r u t H1 locs1 ht _ hp hB _ _ hS1 => kk r u H1 locs1 hp (by rw [← ht]; exact hB) hS1)
theorem h_cl {post : Int64 → hG → Prop} (hr : va_Run p l e R s m args below meth c H locs cells slots mc ms (F0 m pc ls st0) rest (va_Ql post (fun u t => hw D cl A u t.heap) A a) A) (hS : va_S A H0 H locs)
    (kk : ∀ (r : Int64) (u : hG) (H1 : Heap) (locs1 : List Loc), post r u → hw D cl A u H1 → va_S A H0 H1 locs1 → W p l e R s m args below meth c H1 locs1 (cells + mc) (slots + ms) Q (F0 m (pc + 3) ls (.long r :: rest))) : W p l e R s m args below meth c H locs cells slots Q (F0 m pc ls st0) :=
  va_calll hr hS (fun q _ h => h) (fun q h => h) (fun r u t H1 locs1 ht _ hp hB _ _ hS1 => kk r u H1 locs1 hp (by rw [← ht]; exact hB) hS1)
theorem h_cv {post : hG → Prop} (hr : va_Run p l e R s m args below meth c H locs cells slots mc ms (F0 m pc ls st0) rest (va_Qv post (fun u t => hw D cl A u t.heap) A a) A) (hS : va_S A H0 H locs)
    (kk : ∀ (u : hG) (H1 : Heap) (locs1 : List Loc), post u → hw D cl A u H1 → va_S A H0 H1 locs1 → W p l e R s m args below meth c H1 locs1 (cells + mc) (slots + ms) Q (F0 m (pc + 3) ls rest)) : W p l e R s m args below meth c H locs cells slots Q (F0 m pc ls st0) :=
  va_callv hr hS (fun q _ h => h) (fun q h => h) (fun u t H1 locs1 ht _ hp hB _ _ hS1 => kk u H1 locs1 hp (by rw [← ht]; exact hB) hS1)
theorem h_cq {post : Option Nat → hG → Prop} (hr : va_Run p l e R s m args below meth c H locs cells slots mc ms (F0 m pc ls st0) rest (va_Qq post (fun u t => hw D cl A u t.heap) A a) A) (hS : va_S A H0 H locs)
    (kk : ∀ (r : Option Nat) (u : hG) (H1 : Heap) (locs1 : List Loc), post r u → hw D cl A u H1 → va_S A H0 H1 locs1 → W p l e R s m args below meth c H1 locs1 (cells + mc) (slots + ms) Q (F0 m (pc + 3) ls (va_rf r :: rest))) : W p l e R s m args below meth c H locs cells slots Q (F0 m pc ls st0) :=
  va_callq hr hS (fun q _ h => h) (fun q h => h) (fun r u t H1 locs1 ht _ hp hB _ _ hS1 => kk r u H1 locs1 hp (by rw [← ht]; exact hB) hS1)
theorem h_preS {As : List Value} (hEE : hE E) (hK : va_K D cl tys s) (hEs : E s) (hP : hw D cl A g H) (hS : va_S A H0 H locs) (hA : ∀ q, H0.size ≤ q → A q) : PreS s H (va_Pc As (hI D cl tys E A g)) As :=
  ⟨hI.blind hEE, fun U hU hW => ⟨rfl, by rw [hU]; exact hP, va_K.moved hW.alike hK, hEE.2 s U hW hEs, fun q h => hA q (by rw [hU] at h; exact Nat.le_trans hS.1 h)⟩⟩
theorem h_preV {As : List Value} {b ci : Nat} {fs : List Value} {C : String} {T : u_T} {N : Nat} (hEE : hE E) (hK : va_K D cl tys s) (hEs : E s) (hP : hw D cl A g H) (hS : va_S A H0 H locs) (hA : ∀ q, H0.size ≤ q → A q) (he : g b = some (.inr (ci, fs))) (hc : cl[ci]? = some (C, T, N)) : PreV s H C b (va_Pc (.ref b :: As) (hI D cl tys E A g)) As := by
  obtain ⟨ws, k, hp, -, hk, -⟩ := hP.at he
  exact ⟨hI.blind hEE, va_recv hK hp (ci := ci) (q0 := k) hc hk, (h_preS (As := .ref b :: As) hEE hK hEs hP hS hA).2⟩
theorem h_iret {post : Int32 → hG → Prop} {v : Int32} (hx : p.tables.exec = Jvm.exec) (hb : c.code = cc) (hr : meth.sig.returnType = some .int) (hlocks : meth.locks = false) (hc : cells ≤ mc) (hs : slots ≤ ms) (hP : hw D cl A g H) (hS : va_S A s.heap H locs) (hp : post v g) (hdg : decode cc pc = .ok (.ireturn, 1)) : W p l e R s m args below meth c H locs cells slots (MQ below (va_Qi post (fun u t => hw D cl A u t.heap) A) args s mc ms A) (F0 m pc ls [.int v]) :=
  W.widen (k := mc) (n := ms) hc hs (W.iret (v := v) hx hb hr (fun t ht _ => ⟨⟨v, g, rfl, hp, by show hw D cl A g t.heap; rw [ht]; exact hP⟩, hS.F ht⟩) hS.2.2 hdg hlocks)
theorem h_zret {post : Int32 → hG → Prop} {v : Int32} (hx : p.tables.exec = Jvm.exec) (hb : c.code = cc) (hr : meth.sig.returnType = some .boolean) (hlocks : meth.locks = false) (hn : narrow .boolean (.int v) = .int v) (hc : cells ≤ mc) (hs : slots ≤ ms) (hP : hw D cl A g H) (hS : va_S A s.heap H locs) (hp : post v g) (hdg : decode cc pc = .ok (.ireturn, 1)) : W p l e R s m args below meth c H locs cells slots (MQ below (va_Qi post (fun u t => hw D cl A u t.heap) A) args s mc ms A) (F0 m pc ls [.int v]) :=
  W.widen (k := mc) (n := ms) hc hs (W.zret (v := v) hx hb hr hn (fun t ht _ => ⟨⟨v, g, rfl, hp, by show hw D cl A g t.heap; rw [ht]; exact hP⟩, hS.F ht⟩) hS.2.2 hdg hlocks)
theorem h_lret {post : Int64 → hG → Prop} {v : Int64} (hx : p.tables.exec = Jvm.exec) (hb : c.code = cc) (hr : meth.sig.returnType = some .long) (hlocks : meth.locks = false) (hc : cells ≤ mc) (hs : slots ≤ ms) (hP : hw D cl A g H) (hS : va_S A s.heap H locs) (hp : post v g) (hdg : decode cc pc = .ok (.lreturn, 1)) : W p l e R s m args below meth c H locs cells slots (MQ below (va_Ql post (fun u t => hw D cl A u t.heap) A) args s mc ms A) (F0 m pc ls [.long v]) :=
  W.widen (k := mc) (n := ms) hc hs (W.lret (v := v) hx hb hr (fun t ht _ => ⟨⟨v, g, rfl, hp, by show hw D cl A g t.heap; rw [ht]; exact hP⟩, hS.F ht⟩) hS.2.2 hdg hlocks)
theorem h_vret {post : hG → Prop} (hx : p.tables.exec = Jvm.exec) (hb : c.code = cc) (hr : meth.sig.returnType = none) (hlocks : meth.locks = false) (hc : cells ≤ mc) (hs : slots ≤ ms) (hP : hw D cl A g H) (hS : va_S A s.heap H locs) (hp : post g) (hdg : decode cc pc = .ok (.return_, 1)) : W p l e R s m args below meth c H locs cells slots (MQ below (va_Qv post (fun u t => hw D cl A u t.heap) A) args s mc ms A) (F0 m pc ls []) :=
  W.widen (k := mc) (n := ms) hc hs (W.vret hx hb hr (fun t ht _ => ⟨⟨g, rfl, hp, by show hw D cl A g t.heap; rw [ht]; exact hP⟩, hS.F ht⟩) hS.2.2 hdg hlocks)
theorem h_aret {post : Option Nat → hG → Prop} {r : Option Nat} {rt : String} (hx : p.tables.exec = Jvm.exec) (hb : c.code = cc) (hr : meth.sig.returnType = some (.object rt)) (hlocks : meth.locks = false) (hc : cells ≤ mc) (hs : slots ≤ ms) (hP : hw D cl A g H) (hS : va_S A s.heap H locs) (hp : post r g) (hdg : decode cc pc = .ok (.areturn, 1)) : W p l e R s m args below meth c H locs cells slots (MQ below (va_Qq post (fun u t => hw D cl A u t.heap) A) args s mc ms A) (F0 m pc ls [va_rf r]) :=
  W.widen (k := mc) (n := ms) hc hs (W.aret (v := va_rf r) hx hb hr (Or.inl ⟨rt, rfl⟩) (va_rf_or r) (fun t ht _ => ⟨⟨r, g, rfl, hp, by show hw D cl A g t.heap; rw [ht]; exact hP⟩, hS.F ht⟩) hS.2.2 hdg hlocks)
end HCALLS
