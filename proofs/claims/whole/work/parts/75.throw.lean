/-! A throw of the class's own, out of the invocation. -/
theorem va_at_kept {D : va_G} {cl : List vw_C} {q : Nat × va_E} {H H1 : Heap} (h : va_at D cl q H) (hk : ∀ a, a < H.size → H1[a]? = H[a]?) : va_at D cl q H1 := by
  obtain ⟨a, e⟩ := q
  cases e with
  | inl x =>
    have h1 : H[a]? = some (vp_cell x.1 x.2) := h
    show H1[a]? = some (vp_cell x.1 x.2)
    rw [hk a (Array.getElem?_eq_some_iff.mp h1).1]; exact h1
  | inr o =>
    obtain ⟨r, h1, h2⟩ := h
    refine ⟨r, h1, ?_⟩
    unfold t_OB at h2 ⊢
    first
      | (obtain ⟨cell, h3, h4⟩ := h2; exact ⟨cell, by rw [hk _ (Array.getElem?_eq_some_iff.mp h3).1]; exact h3, h4⟩)
      | skip
theorem hw_ext {D : va_G} {cl : List vw_C} {A : Nat → Prop} {g : hG} {H H1 : Heap} (h : hw D cl A g H) (hk : ∀ a, a < H.size → H1[a]? = H[a]?) : hw D cl A g H1 := by
  obtain ⟨L, h1, h2, h3⟩ := h
  exact ⟨L, h1, fun k q hq => va_at_kept (h2 k q hq) hk, h3⟩
def zq (A : Nat → Prop) (U : State) (H : Heap) : Prop := va_Zq "java/lang/Throwable" "UNASSIGNED_STACK" "[Ljava/lang/StackTraceElement;" A U H ∧ va_Zq "java/lang/Throwable" "SUPPRESSED_SENTINEL" "Ljava/util/List;" A U H
theorem zq_ref {C n d : String} {A : Nat → Prop} {U : State} (h : va_Zq C n d A U U.heap) (args : Array Value) : (Cond.isRef (.static C n d)).before args U = true := by
  rcases h with ⟨cf, kf, fi, f, a, cell, h1, h2, -, h4, h5, h6, h7, -⟩ | ⟨t, cf, kf, fi, f, a, cell, h1, h2, -, h4, h5, h6, h7, -⟩
  · have he : (Term.static C n d).eval args U none [] U = some .null := by simp [Term.eval, State.fieldNamed?, h1, h2, h4, h5, h6, h7]
    simp [Cond.before, Cond.holds, Cond.value, he]
  · have he : (Term.static C n d).eval args U none [] U = some (.ref t) := by simp [Term.eval, State.fieldNamed?, h1, h2, h4, h5, h6, h7]
    simp [Cond.before, Cond.holds, Cond.value, he]
section THROWS
variable {p : Program} {l : Launch} {e : Env} {R : Room} {s : State} {m : MethodId} {args : Array Value} {below : List Frame} {meth : Method} {c : Code} {T : State} {locs : List Loc} {cells slots : Nat}
/-- the walk begins anew where it stands: its invocation is taken as one of this state -/
theorem st_again (X : Stand p l e R s m args below meth c T locs cells slots) {R' : Room} (h1 : R'.frames ≤ R.frames) (h2 : R'.locals ≤ R.locals) (h3 : cells + R'.cells ≤ R.cells) (h4 : slots + R'.slots ≤ R.slots) : Stand p l e R' (T.setFrames (.invoking m args :: below)) m args below meth c T [] 0 0 := by
  obtain ⟨g₀, hr⟩ := X.frames_eq
  have hcur : T.cur < T.threads.size := State.cur_lt_of_frames hr
  have hfr : (T.setFrames (.invoking m args :: below)).frames = .invoking m args :: below := State.frames_setFrames _ hcur
  have hmeth : (T.setFrames (.invoking m args :: below)).vm.method? m = some meth := X.method'
  obtain ⟨t, ht, -⟩ := State.frames_cons hfr
  have hcur' : (T.setFrames (.invoking m args :: below)).cur < (T.setFrames (.invoking m args :: below)).threads.size := State.cur_lt_of_frames hfr
  have hlim := State.stackLimits_setFrames e.platform T (.invoking m args :: below)
  have hbyt := State.stackBytes_setFrames T (.invoking m args :: below)
  have hback : (T.setFrames (.invoking m args :: below)).setFrames T.frames = T := by
    rw [State.setFrames_setFrames]
    obtain ⟨t2, ht2, -⟩ := State.frames_cons hr
    exact State.setFrames_self ht2
  refine ⟨X.admits, X.cas, X.clock, hfr, ?_, ?_, hmeth, X.code, X.here, X.tail, State.WarmedH.refl (T.setFrames (.invoking m args :: below)), hlim.symm, hbyt.symm, ?_⟩
  · have hroom := X.room
    have hl1 := State.localsInUse_invoking X.frames X.method X.code
    have hl2 := State.localsInUse_invoking hfr hmeth X.code
    have hz1 := X.heapSize
    have hz2 := X.used
    have hbook : (T.setFrames (.invoking m args :: below)).slotsTrue = true := X.book
    have hzz : (T.setFrames (.invoking m args :: below)).heap.size = T.heap.size := rfl
    have huu : (T.setFrames (.invoking m args :: below)).slotsUsed = T.slotsUsed := rfl
    simp only [State.hasRoom, Bool.and_eq_true, decide_eq_true_eq] at hroom ⊢
    obtain ⟨⟨⟨⟨r1, r2, r3, r4, r5, r6⟩, r7⟩, r8⟩, r9⟩ := hroom
    rw [hl1] at r1 r4 r5
    rw [X.frames, List.length_cons] at r2 r3
    rw [hl2, hfr, List.length_cons, hlim, hbyt, X.limits, X.bytes, hzz, huu]
    refine ⟨⟨⟨⟨by omega, by omega, by omega, by omega, by omega, r6⟩, by omega⟩, by omega⟩, hbook⟩
  · have e1 : ∀ x, (T.setFrames (.invoking m args :: below)).code? x = s.code? x := fun x => by
      rw [State.code?_eq, State.code?_eq, ← X.warmed.alike.method?]; rfl
    have e2 : (T.setFrames (.invoking m args :: below)).vm.method? m = s.vm.method? m := hmeth.trans X.method.symm
    have e3 : (T.setFrames (.invoking m args :: below)).hears m below = s.hears m below := by
      unfold State.hears
      simp only [e1, e2]
    rw [e3]; exact X.hears
  · have h := (State.sameButNew.refl (T.setFrames (.invoking m args :: below)) ht).setFrames T.frames hcur'
    rw [hback] at h
    exact h
/-- what lies where the class's throw leaves the invocation -/
def thQ (s : State) (below : List Frame) (H : Heap) (locs : List Loc) : State → Prop := fun t => t.status = .running ∧ ∃ (a : Addr) (ce : Cell), Ended t below (.threw a) ∧ s.WarmedH t.vm ∧ s.sameButNew ({ t with vm := s.vm } : State) locs 1 6 ∧ t.heap[a]? = some ce ∧ s.vm.findClass "java/lang/ArithmeticException" = some ce.cls ∧ ce.vm = .none ∧ (∀ q, q < H.size → t.heap[q]? = H[q]?)
abbrev rmT : Room := { frames := 6, cells := 1, slots := 6, locals := 90 }
end THROWS
/-! what the law's start gives for the throw, and that it stays -/
def thL : List Cond := [Cond.declares ⟨"java/lang/RuntimeException", "<init>", "(Ljava/lang/String;)V"⟩, Cond.declares ⟨"java/lang/Exception", "<init>", "(Ljava/lang/String;)V"⟩, Cond.declares ⟨"java/lang/Throwable", "<init>", "(Ljava/lang/String;)V"⟩, Cond.castable "java/lang/ArithmeticException" "java/lang/ArithmeticException"]
def thN (s : State) : Prop := (∀ w ∈ thL, w.before #[] s = true) ∧ ((Cond.laysStatic "java/lang/Throwable" "UNASSIGNED_STACK" "[Ljava/lang/StackTraceElement;").before #[] s = true ∧ (Cond.laysStatic "java/lang/Throwable" "SUPPRESSED_SENTINEL" "Ljava/util/List;").before #[] s = true) ∧ zq (fun q => s.heap.size ≤ q) s s.heap ∧ ∃ q, vk_R "FineRows" 65 "interest divided by 0" q s
def thG (A : Nat → Prop) (U : State) : Prop := ∃ s0 : State, thN s0 ∧ s0.WarmedH U.vm ∧ ∀ q, q < s0.heap.size → U.heap[q]? = s0.heap[q]? ∧ ¬ A q
theorem thG.go {A : Nat → Prop} {U V : State} {locs : List Loc} (h : thG A U) (hW : U.WarmedH V.vm) (hS : va_S A U.heap V.heap locs) : thG A V := by
  obtain ⟨s0, h1, h2, h3⟩ := h
  refine ⟨s0, h1, State.WarmedH.trans h2 hW, fun q hq => ?_⟩
  obtain ⟨h4, h5⟩ := h3 q hq
  have hlt : q < U.heap.size := by
    have h6 : s0.heap[q]? = some s0.heap[q] := Array.getElem?_eq_getElem hq
    rw [h6] at h4
    exact (Array.getElem?_eq_some_iff.mp h4).1
  exact ⟨(hS.2.1 q hlt h5).trans h4, h5⟩
theorem laysStatic_kept {args : Array Value} {s U : State} {o n d : String} (hvm : s.vm.Alike U.vm) (hh : ∀ q, q < s.heap.size → U.heap[q]? = s.heap[q]?) (h : (Cond.laysStatic o n d).before #[] s = true) : (Cond.laysStatic o n d).before args U = true := by
  have h1 := Cond.laysStatic_setVm hvm h
  simp only [Cond.before, Cond.holds, Cond.value] at h1 ⊢
  have e1 : (s.setVm U.vm).fieldFound? o n d = U.fieldFound? o n d := rfl
  have e2 : (s.setVm U.vm).vm.findClass o = U.vm.findClass o := rfl
  rw [e1, e2] at h1
  cases hc : U.vm.findClass o with
  | none => rw [hc] at h1; simp at h1
  | some c =>
    cases hf : U.fieldFound? o n d with
    | none => rw [hc, hf] at h1; simp at h1
    | some x =>
      obtain ⟨c', k, i, f⟩ := x
      rw [hc, hf] at h1
      cases hs : k.statics with
      | none => simp [hs] at h1
      | some a =>
        have e3 : (s.setVm U.vm).heap = s.heap := rfl
        cases hq : s.heap[a]? with
        | none => simp [hs, e3, hq] at h1
        | some cell =>
          have e4 := hh a (Array.getElem?_eq_some_iff.mp hq).1
          simp only [hs, e3, hq, e4, Option.bind_some] at h1 ⊢
          exact h1
theorem thG.atoms {A : Nat → Prop} {U : State} {args : Array Value} (h : thG A U) (hts : ∀ w ∈ TB, w.before args U = true) : ∀ a ∈ Bundle.ownAtoms "FineRows" 67 "java/lang/ArithmeticException" ["java/lang/RuntimeException", "java/lang/Exception"], a.before args U = true := by
  obtain ⟨s0, ⟨g1, g2, g3, -⟩, h2, h3⟩ := h
  have hh : ∀ q, q < s0.heap.size → U.heap[q]? = s0.heap[q]? := fun q hq => (h3 q hq).1
  intro a ha
  have hd : (Bundle.ownAtoms "FineRows" 67 "java/lang/ArithmeticException" ["java/lang/RuntimeException", "java/lang/Exception"]).all (fun w => decide (w ∈ TB) || decide (w ∈ thL) || decide (w ∈ [Cond.laysStatic "java/lang/Throwable" "UNASSIGNED_STACK" "[Ljava/lang/StackTraceElement;", Cond.laysStatic "java/lang/Throwable" "SUPPRESSED_SENTINEL" "Ljava/util/List;", Cond.isRef (.static "java/lang/Throwable" "UNASSIGNED_STACK" "[Ljava/lang/StackTraceElement;"), Cond.isRef (.static "java/lang/Throwable" "SUPPRESSED_SENTINEL" "Ljava/util/List;")])) = true := by decide +kernel
  have h1 := List.all_eq_true.mp hd a ha
  simp only [Bool.or_eq_true, decide_eq_true_eq] at h1
  rcases h1 with (h1 | h1) | h1
  · exact hts a h1
  · have hb := g1 a h1
    have hal := h2.alike
    have h5 : a.before #[] (s0.setVm U.vm) = true := by
      simp only [thL, List.mem_cons, List.not_mem_nil, or_false] at h1
      rcases h1 with rfl | rfl | rfl | rfl
      · rw [Cond.declares_setVm hal]; exact hb
      · rw [Cond.declares_setVm hal]; exact hb
      · rw [Cond.declares_setVm hal]; exact hb
      · rw [Cond.castable_setVm hal]; exact hb
    have h6 : a.onTables = true := by
      have hq : thL.all (fun w => w.onTables) = true := by decide +kernel
      exact List.all_eq_true.mp hq a h1
    exact va_tabs h6 (u := s0.setVm U.vm) rfl h5
  · simp only [List.mem_cons, List.not_mem_nil, or_false] at h1
    have hz1 := (va_Zq.moved h2.alike g3.1).kept (H1 := U.heap) (fun q hq _ => hh q hq)
    have hz2 := (va_Zq.moved h2.alike g3.2).kept (H1 := U.heap) (fun q hq _ => hh q hq)
    rcases h1 with rfl | rfl | rfl | rfl
    · exact laysStatic_kept h2.alike hh g2.1
    · exact laysStatic_kept h2.alike hh g2.2
    · exact zq_ref hz1 args
    · exact zq_ref hz2 args
theorem thG.str {A : Nat → Prop} {U : State} (h : thG A U) : ∃ q, vk_R "FineRows" 65 "interest divided by 0" q U := by
  obtain ⟨s0, ⟨-, -, -, q, hq⟩, h2, -⟩ := h
  exact ⟨q, vk_R.warm h2 hq⟩
