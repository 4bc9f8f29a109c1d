/-! Array rows at a place that is a number. -/
section HRN
variable {p : Program} {l : Launch} {e : Env} {R : Room} {s : State} {m : MethodId} {args : Array Value} {below : List Frame} {meth : Method} {c : Code} {H : Heap} {locs : List Loc} {cells slots : Nat} {Q : State → Prop}
variable {cc : ByteArray} {pc : Nat} {ls : Array Slot} {rest : List Value} {D : va_G} {A : Nat → Prop} {a : Nat} {t : Nat → ClassId} {g : hG} {nL : Nat} {ret0 : Option FieldType} {nm own : String} {n k : Nat}
theorem n_lald (X : Cx p s m args meth c own cc nL ret0 TB D vwCl (tyL t) EX A nm) (hb : c.code = cc) (hP : hw D vwCl A g H) {f : Nat → Int64} (ha : g a = some (arJ t n f)) (hk : k < n ∧ n < 2147483648) (hdg : decode cc pc = .ok (.laload, 1))
    (kk : W p l e R s m args below meth c H locs cells slots Q (F0 m (pc + 1) ls (.long (f k) :: rest))) : W p l e R s m args below meth c H locs cells slots Q (F0 m pc ls (.int (nI k) :: .ref a :: rest)) := by
  refine h_lald X.1 hb X.2.2.2.2.2.2.2.1 hP 1 ha rfl (vp_in_nI hk.1 hk.2) hdg ?_
  rw [nI_clamp (Nat.lt_trans hk.1 hk.2)]; exact kk
theorem n_iald (X : Cx p s m args meth c own cc nL ret0 TB D vwCl (tyL t) EX A nm) (hb : c.code = cc) (hP : hw D vwCl A g H) {f : Nat → Int32} (ha : g a = some (arI t n f)) (hk : k < n ∧ n < 2147483648) (hdg : decode cc pc = .ok (.iaload, 1))
    (kk : W p l e R s m args below meth c H locs cells slots Q (F0 m (pc + 1) ls (.int (f k) :: rest))) : W p l e R s m args below meth c H locs cells slots Q (F0 m pc ls (.int (nI k) :: .ref a :: rest)) := by
  refine h_iald X.1 hb X.2.2.2.2.2.2.2.1 hP 0 ha rfl (vp_in_nI hk.1 hk.2) hdg ?_
  rw [nI_clamp (Nat.lt_trans hk.1 hk.2)]; exact kk
theorem n_zald (X : Cx p s m args meth c own cc nL ret0 TB D vwCl (tyL t) EX A nm) (hb : c.code = cc) (hP : hw D vwCl A g H) {f : Nat → Int32} (ha : g a = some (arZ t n f)) (hk : k < n ∧ n < 2147483648) (hdg : decode cc pc = .ok (.baload, 1))
    (kk : W p l e R s m args below meth c H locs cells slots Q (F0 m (pc + 1) ls (.int (f k) :: rest))) : W p l e R s m args below meth c H locs cells slots Q (F0 m pc ls (.int (nI k) :: .ref a :: rest)) := by
  refine h_zald X.1 hb X.2.2.2.2.2.2.2.1 hP 2 ha rfl (vp_in_nI hk.1 hk.2) hdg ?_
  rw [nI_clamp (Nat.lt_trans hk.1 hk.2)]; exact kk
theorem n_aald (X : Cx p s m args meth c own cc nL ret0 TB D vwCl (tyL t) EX A nm) (hb : c.code = cc) (hP : hw D vwCl A g H) (t0 : Nat) {C : String} {f : Nat → Option Nat} (ha : g a = some (arQ t t0 n f)) (ht : (tyL t)[t0]? = some (t t0, .object C)) (hk : k < n ∧ n < 2147483648) (hdg : decode cc pc = .ok (.aaload, 1))
    (kk : W p l e R s m args below meth c H locs cells slots Q (F0 m (pc + 1) ls (va_rf (f k) :: rest))) : W p l e R s m args below meth c H locs cells slots Q (F0 m pc ls (.int (nI k) :: .ref a :: rest)) := by
  refine h_aald X.1 hb X.2.2.2.2.2.2.2.1 hP t0 ha ht (vp_in_nI hk.1 hk.2) hdg ?_
  rw [nI_clamp (Nat.lt_trans hk.1 hk.2)]; exact kk
theorem n_last (X : Cx p s m args meth c own cc nL ret0 TB D vwCl (tyL t) EX A nm) (hb : c.code = cc) (hP : hw D vwCl A g H) (hS : va_S A s.heap H locs) {f : Nat → Int64} (ha : g a = some (arJ t n f)) (hk : k < n ∧ n < 2147483648) {x : Int64} (hdg : decode cc pc = .ok (.lastore, 1))
    (kk : ∀ (H1 : Heap) (locs1 : List Loc), hw D vwCl A (va_up g a (some (arJ t n (va_up f k x)))) H1 → va_S A s.heap H1 locs1 → W p l e R s m args below meth c H1 locs1 cells slots Q (F0 m (pc + 1) ls rest)) : W p l e R s m args below meth c H locs cells slots Q (F0 m pc ls (.long x :: .int (nI k) :: .ref a :: rest)) := by
  refine h_last X.1 hb X.2.2.2.2.2.2.2.1 hP hS 1 ha rfl (vp_in_nI hk.1 hk.2) hdg ?_
  rw [nI_clamp (Nat.lt_trans hk.1 hk.2)]; exact kk
theorem n_iast (X : Cx p s m args meth c own cc nL ret0 TB D vwCl (tyL t) EX A nm) (hb : c.code = cc) (hP : hw D vwCl A g H) (hS : va_S A s.heap H locs) {f : Nat → Int32} (ha : g a = some (arI t n f)) (hk : k < n ∧ n < 2147483648) {x : Int32} (hdg : decode cc pc = .ok (.iastore, 1))
    (kk : ∀ (H1 : Heap) (locs1 : List Loc), hw D vwCl A (va_up g a (some (arI t n (va_up f k x)))) H1 → va_S A s.heap H1 locs1 → W p l e R s m args below meth c H1 locs1 cells slots Q (F0 m (pc + 1) ls rest)) : W p l e R s m args below meth c H locs cells slots Q (F0 m pc ls (.int x :: .int (nI k) :: .ref a :: rest)) := by
  refine h_iast X.1 hb X.2.2.2.2.2.2.2.1 hP hS 0 ha rfl (vp_in_nI hk.1 hk.2) hdg ?_
  rw [nI_clamp (Nat.lt_trans hk.1 hk.2)]; exact kk
theorem n_zast (X : Cx p s m args meth c own cc nL ret0 TB D vwCl (tyL t) EX A nm) (hb : c.code = cc) (hP : hw D vwCl A g H) (hS : va_S A s.heap H locs) {f : Nat → Int32} (ha : g a = some (arZ t n f)) (hk : k < n ∧ n < 2147483648) {x : Int32} (hx : vp_nar .boolean x = x) (hdg : decode cc pc = .ok (.bastore, 1))
    (kk : ∀ (H1 : Heap) (locs1 : List Loc), hw D vwCl A (va_up g a (some (arZ t n (va_up f k x)))) H1 → va_S A s.heap H1 locs1 → W p l e R s m args below meth c H1 locs1 cells slots Q (F0 m (pc + 1) ls rest)) : W p l e R s m args below meth c H locs cells slots Q (F0 m pc ls (.int x :: .int (nI k) :: .ref a :: rest)) := by
  refine h_zast X.1 hb X.2.2.2.2.2.2.2.1 hP hS 2 ha rfl (vp_in_nI hk.1 hk.2) hdg ?_
  rw [nI_clamp (Nat.lt_trans hk.1 hk.2), hx]; exact kk
theorem n_aast (X : Cx p s m args meth c own cc nL ret0 TB D vwCl (tyL t) EX A nm) (hb : c.code = cc) (hP : hw D vwCl A g H) (hS : va_S A s.heap H locs) (t0 ci : Nat) {r : vw_C} {f : Nat → Option Nat} {v : Nat} {vs : List Value} (ha : g a = some (arQ t t0 n f)) (ht : (tyL t)[t0]? = some (t t0, .object r.1)) (hv : g v = some (.inr (ci, vs))) (hc : vwCl[ci]? = some r) (hk : k < n ∧ n < 2147483648) (hdg : decode cc pc = .ok (.aastore, 1))
    (kk : ∀ (H1 : Heap) (locs1 : List Loc), hw D vwCl A (va_up g a (some (arQ t t0 n (va_up f k (some v))))) H1 → va_S A s.heap H1 locs1 → W p l e R s m args below meth c H1 locs1 cells slots Q (F0 m (pc + 1) ls rest)) : W p l e R s m args below meth c H locs cells slots Q (F0 m pc ls (.ref v :: .int (nI k) :: .ref a :: rest)) := by
  refine h_aast X.1 hb X.2.2.2.2.2.2.2.1 hP hS t0 ci ha ht hv hc (vp_in_nI hk.1 hk.2) hdg ?_
  rw [nI_clamp (Nat.lt_trans hk.1 hk.2)]; exact kk
theorem n_aastN (X : Cx p s m args meth c own cc nL ret0 TB D vwCl (tyL t) EX A nm) (hb : c.code = cc) (hP : hw D vwCl A g H) (hS : va_S A s.heap H locs) (t0 : Nat) {C : String} {f : Nat → Option Nat} (ha : g a = some (arQ t t0 n f)) (ht : (tyL t)[t0]? = some (t t0, .object C)) (hk : k < n ∧ n < 2147483648) (hdg : decode cc pc = .ok (.aastore, 1))
    (kk : ∀ (H1 : Heap) (locs1 : List Loc), hw D vwCl A (va_up g a (some (arQ t t0 n (va_up f k none)))) H1 → va_S A s.heap H1 locs1 → W p l e R s m args below meth c H1 locs1 cells slots Q (F0 m (pc + 1) ls rest)) : W p l e R s m args below meth c H locs cells slots Q (F0 m pc ls (.null :: .int (nI k) :: .ref a :: rest)) := by
  refine h_aastN X.1 hb X.2.2.2.2.2.2.2.1 hP hS t0 ha ht (vp_in_nI hk.1 hk.2) hdg ?_
  rw [nI_clamp (Nat.lt_trans hk.1 hk.2)]; exact kk
end HRN
