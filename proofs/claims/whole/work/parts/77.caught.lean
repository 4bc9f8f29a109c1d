set_option maxHeartbeats 4000000 in
set_option maxRecDepth 100000 in
theorem th_walk {p : Program} {l : Launch} {e : Env} {s : State} {m : MethodId} {below : List Frame} {meth : Method} {c : Code} {D : va_G} {t : Nat → ClassId} {A : Nat → Prop} {g : hG} {F : Nat → Prop} {ad : Nat → Nat} {σ : SS} {x y : Int32} {ls : Array Slot} (hlt9 : l.stackTraces = false) (hRx : RCx F t ad σ g) (hV : Inv σ) (hok : okInt σ x y 0 = true) (X : Cx p s m ([.ref (ad 0), .int x, .int y, .int 0] : List Value).toArray meth c R_F b_F_interest 5 (some .int) TB D vwCl (tyL t) EX A "interest") (hne : c.exceptionTable.toList = []) (hG : thG A s) (hP : hw D vwCl A g s.heap) (hl : lv_has ls 5 [(0, .ref (ad 0)), (1, .int x), (2, .int y), (3, .int 0)]) : W p l e rmT s m ([.ref (ad 0), .int x, .int y, .int 0] : List Value).toArray below meth c s.heap [] 0 0 (fun u => ∃ H locs, hw D vwCl A g H ∧ va_S A s.heap H locs ∧ thQ s below H locs u) (F0 m 0 ls []) := by
  obtain ⟨hx, hb, hml, hr, hts, hown, hlocks, hK, hEs, hA, hnm⟩ := id X
  have hS : va_S A s.heap s.heap [] := va_S.rf
  obtain ⟨aR, aL, aD, fR, fL, fI, fN, fB, hRc⟩ := id hRx
  obtain ⟨h0, ⟨h1, h1f⟩, ⟨h2, h2f⟩, ⟨h3, h3f⟩, h4, h5, h6, ⟨h7, h7f⟩, ⟨h8, h8f⟩, h9, hRr, hLl, hDd, h78, ⟨iR, iL, iD⟩, f0, f1, f2, f3⟩ := id hRc
  have hn1 := hV.1.1
  have hn2 := hV.1.2.1
  have hn3 := hV.1.2.2.1
  have hn4 := hV.1.2.2.2
  have hok2 : wi x 0 (nI (sNR σ) - 1) = true ∧ wi y 0 1000 = true := by simp only [okInt, Bool.and_eq_true] at hok; exact hok.1
  refine lv_aload_n hx hb d_F_interest_0 rfl (lv_at hl 0 rfl) ?_
  refine lv_iload_n hx hb d_F_interest_1 rfl (lv_at hl 1 rfl) ?_
  refine k_F_58 X ⟨Nat.le_of_ble_eq_true rfl, Nat.le_of_ble_eq_true rfl⟩ ⟨Nat.le_of_ble_eq_true rfl, Nat.le_of_ble_eq_true rfl⟩ hl.1 hP hS h0 h0 h1 hn1 (by exact Nat.le_of_ble_eq_true rfl) d_F_interest_2 (fun r_1 H locs er_1 hP hS => ?_)
  refine lv_topq (fun ey_2 => ?_) (fun y_2 ey_2 => ?_)
  · have hN := ordQ_none (by omega) h1f (er_1 ▸ ey_2)
    rw [hok2.1] at hN; cases hN
  · obtain ⟨k, hk, rfl, rfl, hwk⟩ := ordQ_some (by omega) h1f (er_1 ▸ ey_2)
    refine lv_astore (lv' := [(4, .ref (aR k)), (0, .ref (ad 0)), (1, .int (nI k)), (2, .int y), (3, .int 0)]) hx hb d_F_interest_5 hl (by decide) rfl (fun ls hl => ?_)
    refine lv_aload hx hb d_F_interest_7 (lv_at hl 0 rfl) ?_
    refine lv_ifnull hx hb d_F_interest_9 ?_
    refine lv_iload_n hx hb d_F_interest_12 rfl (lv_at hl 3 rfl) ?_
    refine lv_iconst (v := 0) hx hb d_F_interest_13 (by decide) ?_
    refine lv_sipush (v := 1000) hx hb d_F_interest_14 (by decide) ?_
    refine k_F_47 X ⟨Nat.le_of_ble_eq_true rfl, Nat.le_of_ble_eq_true rfl⟩ ⟨Nat.le_of_ble_eq_true rfl, Nat.le_of_ble_eq_true rfl⟩ hl.1 hP hS (by exact Nat.le_of_ble_eq_true rfl) d_F_interest_17 (fun r_3 H locs er_3 hP hS => ?_)
    refine lv_if_eq (tgt := 33) hx hb d_F_interest_20 (by decide) (fun c_4 => ?_) (fun c_4 => ?_)
    · have t_3 := bi_0.mp (er_3 ▸ c_4)
      exact absurd (hok2.2.symm.trans t_3) (by decide)
    · have t_3 := bi_n0.mp (er_3 ▸ c_4)
      refine lv_iload_n hx hb d_F_interest_23 rfl (lv_at hl 4 rfl) ?_
      refine lv_iconst (v := 0) hx hb d_F_interest_24 (by decide) ?_
      refine lv_ldc (v := 1000000) hx hb hown (hts _ (tbm 357 (by decide +kernel))) d_F_interest_25 ?_
      refine k_F_47 X ⟨Nat.le_of_ble_eq_true rfl, Nat.le_of_ble_eq_true rfl⟩ ⟨Nat.le_of_ble_eq_true rfl, Nat.le_of_ble_eq_true rfl⟩ hl.1 hP hS (by exact Nat.le_of_ble_eq_true rfl) d_F_interest_27 (fun r_5 H locs er_5 hP hS => ?_)
      refine lv_if_ne (tgt := 35) hx hb d_F_interest_30 (by decide) (fun c_6 => ?_) (fun c_6 => ?_)
      · have t_5 := bi_n0.mp (er_5 ▸ c_6)
        refine lv_iload_n hx hb d_F_interest_35 rfl (lv_at hl 4 rfl) ?_
        refine lv_if_ne (tgt := 49) hx hb d_F_interest_36 (by decide) (fun c_7 => ?_) (fun c_7 => ?_)
        · exact absurd c_7 (by decide)
        · intro T hT Y
          obtain ⟨u9, a1, b1⟩ := th_new (p := p) (l := l) (e := e) (below := below) (ls := ls) hx hlt9 hb hml hlocks hown hts hG hS hne hl.1 T hT Y
          exact ⟨u9, a1, _, _, hP, hS, b1⟩
      · have t_5 := bi_0.mp (er_5 ▸ c_6)
        exact absurd (show wi 0 0 1000000 = false from t_5) (by decide)
/-! The search for a handler, its class linked cold or warm: one row in the table. -/
section CAUGHT
variable {p : Program} {l : Launch} {e : Env} {R : Room} {s : State} {m : MethodId} {args : Array Value} {below : List Frame} {meth : Method} {c : Code} {T : State} {locs : List Loc} {cells slots : Nat}
theorem th_find {x : ExceptionTableEntry} {f : JFrame} {a : Addr} {S : State} {cT : ClassId} {cell : Cell} {me : Method} {co : Code} (hm : S.vm.method? f.method = some me) (hc : me.code = some co) (htab : co.exceptionTable.toList = [x]) (hcov : covers x f.pc = true) (h0 : x.catchType ≠ 0)
    (hl : S.vm.ClassLinks e.platform f.method.cls x.catchType cT) (hcell : S.heap[a]? = some cell) (hobj : ∀ k, cell.vm ≠ .statics k) (hk : ∃ k, S.vm.classes[cell.cls]? = some k) (hkT : ∃ k, S.vm.classes[cT]? = some k) (hfit : S.vm.assignable cell.cls cT = true) :
    ∀ (Q : Handler → Pre) (E : CtlPost) (d : Bool) (acts : List Action), wp (findHandler f a) Q E e d acts S ↔ Q (.found x.handlerPc) d acts (S.setVm (S.vm.noted f.method.cls x.catchType (.cls cT))) := by
  intro Q E d acts
  rw [W.findHandler_eq hm hc, htab]
  simp only [covers] at hcov
  obtain ⟨ha, ht⟩ := (resolveClass_links e.toSetting hl).op (op := VmOp.resolveClass f.method.cls x.catchType) rfl
  have hal : S.vm.Alike (S.vm.noted f.method.cls x.catchType (.cls cT)) := (Vm.Alike.refl S.vm).noted _ _ _
  obtain ⟨k1, hk1⟩ := hk
  obtain ⟨k2, hk2⟩ := hkT
  obtain ⟨k1', hk1', -⟩ := hal.2.2 _ _ hk1
  obtain ⟨k2', hk2', -⟩ := hal.2.2 _ _ hk2
  have hfit' : (S.vm.noted f.method.cls x.catchType (.cls cT)).assignable cell.cls cT = true := by rw [hal.assignable]; exact hfit
  simp [findHandler.go, hcov, h0, ha, ht, hcell, hobj, hk1', hk2', hfit', VmOp.dirties, VmOp.acts]
theorem th_caught (X : Stand p l e R s m args below meth c T locs cells slots) {a : Addr} {g : JFrame} (hg : g.method = m) {own name : String} (hown : s.vm.findClass own = some m.cls) {x : ExceptionTableEntry} (htab : c.exceptionTable.toList = [x]) (hcov : covers x g.pc = true) (h0 : x.catchType ≠ 0)
    (hlink : (Cond.classLink own x.catchType name).before args s = true) {cell : Cell} (hcell : T.heap[a]? = some cell) (hobj : cell.vm = .none) {cT : ClassId} (hcT : s.vm.findClass name = some cT) (hfit : s.vm.assignable cell.cls cT = true) :
    ∃ vm', Stand p l e R s m args below meth c (T.setVm vm') locs cells slots ∧ ∀ target, Steps p.tables e below ((T.setVm vm').setTop { g with pc := x.handlerPc, stack := [.ref a] }) target → Steps p.tables e below ((T.setTop g).pushFrame (.throwing a)) target := by
  subst hg
  have hpl : e.platform.magicAccessors = ({} : Platform).magicAccessors := by rw [X.admits.platform]
  obtain ⟨c', hc', hcl⟩ := Cond.classLink_spec hown hlink e.platform hpl
  cases hcT.symm.trans hc'
  obtain ⟨dk, _, _, kt, hd, _, _, _, _, hkt, _, hopen⟩ := hcl.here
  obtain ⟨k0, hk0⟩ := Vm.classAt_of_assignable hfit ⟨kt, hkt⟩
  have hal := X.warmed.alike
  obtain ⟨kt', hkt', -⟩ := hal.2.2 _ _ hkt
  obtain ⟨k0', hk0', -⟩ := hal.2.2 _ _ hk0
  have hfit' : T.vm.assignable cell.cls cT = true := by rw [hal.assignable]; exact hfit
  have hl' : T.vm.ClassLinks e.platform g.method.cls x.catchType cT := X.warmed.classLinks hcl
  have hW' : s.WarmedH (T.vm.noted g.method.cls x.catchType (.cls cT)) := X.warmed.noted hd hopen (State.rightAt_cls hcl)
  have hfind := th_find (e := e) (S := (T.setTop g).pushFrame (.throwing a)) (f := g) (a := a) (cell := cell) X.method' X.code htab hcov h0 hl' hcell (fun k q => by rw [hobj] at q; cases q) ⟨k0', hk0'⟩ ⟨kt', hkt'⟩ hfit'
  refine ⟨_, X.noted hW', fun target hrest => ?_⟩
  have h := X.here
  obtain ⟨hgo, hw9⟩ := h.throwing a
  refine Steps.head hgo hw9 ?_
  have hstep : (stepThrowing e ((T.setTop g).pushFrame (.throwing a)) a (.java g :: T.frames.tail)).Is ((((T.setTop g).pushFrame (.throwing a)).setVm (T.vm.noted g.method.cls x.catchType (.cls cT))).setFrames (.java { g with pc := x.handlerPc, stack := [.ref a] } :: T.frames.tail)) [] := by
    simp only [stepThrowing, searchFrame, vmDo]
    generalize hr : Sem.go _ e false [] ((T.setTop g).pushFrame (.throwing a)) = res
    obtain ⟨as, rfl, ha⟩ := Sem.eq_ok_of hr (a := Handler.found x.handlerPc) (s' := ((T.setTop g).pushFrame (.throwing a)).setVm (T.vm.noted g.method.cls x.catchType (.cls cT))) (acts' := []) (by simp [hfind _ _ _ _]; rfl)
    exact ⟨rfl, ha⟩
  rw [stepThread_throwing (frames_entered h.top _), hstep.1]
  obtain ⟨g₀, hg⟩ := Option.isSome_iff_exists.mp h.top
  obtain ⟨r, hr⟩ := State.topJava?_eq_some.mp hg
  have hr' : (T.setVm (T.vm.noted g.method.cls x.catchType (.cls cT))).frames = .java g₀ :: r := hr
  rw [State.setTop_of_frames _ hr'] at hrest
  have e1 : ∀ (u : State) (v : Vm) (F G : List Frame), ((u.setFrames F).setVm v).setFrames G = (u.setVm v).setFrames G := fun u v F G => by
    rw [show (u.setFrames F).setVm v = (u.setVm v).setFrames F from rfl, State.setFrames_setFrames]
  rw [hr, List.tail_cons, State.pushFrame, e1, State.setTop_of_frames _ hr, e1]
  exact hrest
end CAUGHT
