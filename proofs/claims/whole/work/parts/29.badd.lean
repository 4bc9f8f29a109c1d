set_option maxHeartbeats 4000000 in
set_option maxRecDepth 100000 in
theorem lp_B_add_x {p : Program} {l : Launch} {e : Env} {s : State} {m : MethodId} {below : List Frame} {meth : Method} {c : Code} {D : va_G} {t : Nat → ClassId} {A : Nat → Prop} (G : hG) (a b bn bd n o : Nat) (fN fB : Nat → Option Nat) (aB : Nat → Nat) (db : Nat → DC) (so : Int32) (am dy : Int64) (vc : DC) (PO : Int32 → hG → Prop) (he : G a = some (cBr bn bd (nI n))) (hN0 : G bn = some (arQ t 5 200 fN)) (hB0 : G bd = some (arQ t 5 200 fB)) (hQ : G o = some (cDv vc)) (hne : bn ≠ bd) (hn : n < 200) (hB : ∀ i, i < n → fB i = some (aB i)) (hD : ∀ i, i < n → G (aB i) = some (cDv (db i))) (X : Cx p s m ([.ref a, .ref b, .int so, .long am, .long dy] : List Value).toArray meth c R_B b_B_add 9 (some .int) TB D vwCl (tyL t) EX A "add") (q : Nat) (H : Heap) (locs : List Loc) (ls : Array Slot) (hq : q ≤ n) (hPO : PO (nI (n + 1)) (va_up (va_up (va_up G bd (some (arQ t 5 200 (insF fB n q o)))) bn (some (arQ t 5 200 (va_up fN n (some o))))) a (some (cBr bn bd (nI (n + 1)))))) (hP : hw D vwCl A (va_up G bd (some (arQ t 5 200 (shf fB n q)))) H) (hS : va_S A s.heap H locs) (hl : lv_has ls 9 [(8, .int (nI q)), (7, .ref o), (0, .ref a), (1, .ref b), (2, .int so), (3, .long am), (5, .long dy)]) : W p l e ({ frames := 2, cells := 1, slots := 7, locals := 50 } : Room) s m ([.ref a, .ref b, .int so, .long am, .long dy] : List Value).toArray below meth c H locs 1 7 (MQ below (va_Qi (PO) (fun u v => hw D vwCl A u v.heap) A) ([.ref a, .ref b, .int so, .long am, .long dy] : List Value).toArray s 1 7 A) (F0 m 73 ls []) := by
  obtain ⟨hx, hb, hml, hr, hts, hown, hlocks, hK, hEs, hA, hnm⟩ := id X
  have heq := up_at (o := some (arQ t 5 200 (shf fB n q))) he (hw_kd he hB0 rfl)
  have hnq := up_at (o := some (arQ t 5 200 (shf fB n q))) hN0 hne
  have hoq := up_at (o := some (arQ t 5 200 (shf fB n q))) hQ (hw_kd hQ hB0 rfl)
  have hbq := va_up_self G bd (some (arQ t 5 200 (shf fB n q)))
  have hDq : ∀ i, i < n → va_up G bd (some (arQ t 5 200 (shf fB n q))) (aB i) = some (cDv (db i)) := fun i h => up_at (hD i h) (hw_kd (hD i h) hB0 rfl)
  refine lv_aload_n hx hb d_B_add_73 rfl (lv_at hl 2 rfl) ?_
  refine g_B_17 X hb hP heq rfl d_B_add_74 ?_
  refine lv_iload hx hb d_B_add_77 (lv_at hl 0 rfl) ?_
  refine lv_aload hx hb d_B_add_79 (lv_at hl 1 rfl) ?_
  refine n_aast X hb hP hS 5 2 hbq rfl hoq rfl ⟨by omega, by decide⟩ d_B_add_81 (fun H locs hP hS => ?_)
  have he_1 := up_at (o := some (arQ t 5 200 (va_up (shf fB n q) q (some o)))) heq (hw_kd heq hbq rfl)
  have he_2 := up_at (o := some (arQ t 5 200 (va_up (shf fB n q) q (some o)))) hnq (hne)
  have he_3 := up_at (o := some (arQ t 5 200 (va_up (shf fB n q) q (some o)))) hoq (hw_kd hoq hbq rfl)
  have he_4 := va_up_self (va_up G bd (some (arQ t 5 200 (shf fB n q)))) bd (some (arQ t 5 200 (va_up (shf fB n q) q (some o)) : va_E))
  have hP : hw D vwCl A (va_up (va_up G bd (some (arQ t 5 200 (shf fB n q)))) bd (some (arQ t 5 200 (va_up (shf fB n q) q (some o))))) H := hP
  refine lv_aload_n hx hb d_B_add_82 rfl (lv_at hl 2 rfl) ?_
  refine g_B_11 X hb hP he_1 rfl d_B_add_83 ?_
  refine lv_aload_n hx hb d_B_add_86 rfl (lv_at hl 2 rfl) ?_
  refine g_B_20 X hb hP he_1 rfl d_B_add_87 ?_
  refine lv_aload hx hb d_B_add_90 (lv_at hl 1 rfl) ?_
  refine n_aast X hb hP hS 5 2 he_2 rfl he_3 rfl ⟨by omega, by decide⟩ d_B_add_92 (fun H locs hP hS => ?_)
  have he_5 := up_at (o := some (arQ t 5 200 (va_up fN n (some o)))) he_1 (hw_kd he_1 he_2 rfl)
  have he_6 := up_at (o := some (arQ t 5 200 (va_up fN n (some o)))) he_3 (hw_kd he_3 he_2 rfl)
  have he_7 := up_at (o := some (arQ t 5 200 (va_up fN n (some o)))) he_4 (hne.symm)
  have he_8 := va_up_self (va_up (va_up G bd (some (arQ t 5 200 (shf fB n q)))) bd (some (arQ t 5 200 (va_up (shf fB n q) q (some o))))) bn (some (arQ t 5 200 (va_up fN n (some o)) : va_E))
  have hP : hw D vwCl A (va_up (va_up (va_up G bd (some (arQ t 5 200 (shf fB n q)))) bd (some (arQ t 5 200 (va_up (shf fB n q) q (some o))))) bn (some (arQ t 5 200 (va_up fN n (some o))))) H := hP
  refine lv_aload_n hx hb d_B_add_93 rfl (lv_at hl 2 rfl) ?_
  refine lv_dup hx hb d_B_add_94 rfl ?_
  refine g_B_20 X hb hP he_5 rfl d_B_add_95 ?_
  refine lv_iconst (v := 1) hx hb d_B_add_98 (by decide) ?_
  refine lv_iadd hx hb d_B_add_99 ?_
  refine lv_topi (fun x_9 ex_9 => ?_)
  refine p_B_20 X hb hP hS he_5 (Nat.le_of_ble_eq_true rfl) d_B_add_100 (fun H locs hP hS => ?_)
  have he_10 := up_at (o := some (.inr (3, [.ref bn, .ref bd, .int x_9]))) he_6 (hw_kd he_6 he_5 rfl)
  have he_11 := up_at (o := some (.inr (3, [.ref bn, .ref bd, .int x_9]))) he_7 (hw_kd he_7 he_5 rfl)
  have he_12 := up_at (o := some (.inr (3, [.ref bn, .ref bd, .int x_9]))) he_8 (hw_kd he_8 he_5 rfl)
  have he_13 := va_up_self (va_up (va_up (va_up G bd (some (arQ t 5 200 (shf fB n q)))) bd (some (arQ t 5 200 (va_up (shf fB n q) q (some o))))) bn (some (arQ t 5 200 (va_up fN n (some o))))) a (some (.inr (3, [.ref bn, .ref bd, .int x_9]) : va_E))
  have hP : hw D vwCl A (va_up (va_up (va_up (va_up G bd (some (arQ t 5 200 (shf fB n q)))) bd (some (arQ t 5 200 (va_up (shf fB n q) q (some o))))) bn (some (arQ t 5 200 (va_up fN n (some o))))) a (some (.inr (3, [.ref bn, .ref bd, .int x_9])))) H := hP
  refine lv_aload_n hx hb d_B_add_103 rfl (lv_at hl 2 rfl) ?_
  refine g_B_20 X hb hP he_13 rfl d_B_add_104 ?_
  exact h_iret hx hb hr hlocks (Nat.le_of_ble_eq_true rfl) (Nat.le_of_ble_eq_true rfl) hP hS (by rw [bx_uu, ex_9, nI_1]; exact hPO) d_B_add_107
set_option maxHeartbeats 4000000 in
set_option maxRecDepth 100000 in
theorem lp_B_add {p : Program} {l : Launch} {e : Env} {s : State} {m : MethodId} {below : List Frame} {meth : Method} {c : Code} {D : va_G} {t : Nat → ClassId} {A : Nat → Prop} (G : hG) (a b bn bd n o : Nat) (fN fB : Nat → Option Nat) (aB : Nat → Nat) (db : Nat → DC) (so : Int32) (am dy : Int64) (vc : DC) (PO : Int32 → hG → Prop) (he : G a = some (cBr bn bd (nI n))) (hN0 : G bn = some (arQ t 5 200 fN)) (hB0 : G bd = some (arQ t 5 200 fB)) (hQ : G o = some (cDv vc)) (hne : bn ≠ bd) (hn : n < 200) (hB : ∀ i, i < n → fB i = some (aB i)) (hD : ∀ i, i < n → G (aB i) = some (cDv (db i))) (X : Cx p s m ([.ref a, .ref b, .int so, .long am, .long dy] : List Value).toArray meth c R_B b_B_add 9 (some .int) TB D vwCl (tyL t) EX A "add") : ∀ (q : Nat) (H : Heap) (locs : List Loc) (ls : Array Slot) (hq : q ≤ n) (hPO : PO (nI (n + 1)) (va_up (va_up (va_up G bd (some (arQ t 5 200 (insF fB n (insP db dy q) o)))) bn (some (arQ t 5 200 (va_up fN n (some o))))) a (some (cBr bn bd (nI (n + 1)))))) (hP : hw D vwCl A (va_up G bd (some (arQ t 5 200 (shf fB n q)))) H) (hS : va_S A s.heap H locs) (hl : lv_has ls 9 [(8, .int (nI q)), (7, .ref o), (0, .ref a), (1, .ref b), (2, .int so), (3, .long am), (5, .long dy)]), W p l e ({ frames := 2, cells := 1, slots := 7, locals := 50 } : Room) s m ([.ref a, .ref b, .int so, .long am, .long dy] : List Value).toArray below meth c H locs 1 7 (MQ below (va_Qi (PO) (fun u v => hw D vwCl A u v.heap) A) ([.ref a, .ref b, .int so, .long am, .long dy] : List Value).toArray s 1 7 A) (F0 m 29 ls []) := by
  obtain ⟨hx, hb, hml, hr, hts, hown, hlocks, hK, hEs, hA, hnm⟩ := id X
  intro q
  induction q with
  | zero =>
    intro H locs ls hq hPO hP hS hl
    have heq := up_at (o := some (arQ t 5 200 (shf fB n 0))) he (hw_kd he hB0 rfl)
    have hnq := up_at (o := some (arQ t 5 200 (shf fB n 0))) hN0 hne
    have hoq := up_at (o := some (arQ t 5 200 (shf fB n 0))) hQ (hw_kd hQ hB0 rfl)
    have hbq := va_up_self G bd (some (arQ t 5 200 (shf fB n 0)))
    have hDq : ∀ i, i < n → va_up G bd (some (arQ t 5 200 (shf fB n 0))) (aB i) = some (cDv (db i)) := fun i h => up_at (hD i h) (hw_kd (hD i h) hB0 rfl)
    refine lv_iload hx hb d_B_add_29 (lv_at hl 0 rfl) ?_
    refine lv_if_le (tgt := 73) hx hb d_B_add_31 (by decide) (fun c_1 => ?_) (fun c_1 => ?_)
    · exact lp_B_add_x G a b bn bd n o fN fB aB db so am dy vc PO he hN0 hB0 hQ hne hn hB hD X 0 H locs ls hq hPO hP hS (lv_sub hl [0, 1, 2, 3, 4, 5, 6] rfl)
    · exact absurd (by decide) c_1
  | succ q ih =>
    intro H locs ls hq hPO hP hS hl
    have heq := up_at (o := some (arQ t 5 200 (shf fB n (q + 1)))) he (hw_kd he hB0 rfl)
    have hnq := up_at (o := some (arQ t 5 200 (shf fB n (q + 1)))) hN0 hne
    have hoq := up_at (o := some (arQ t 5 200 (shf fB n (q + 1)))) hQ (hw_kd hQ hB0 rfl)
    have hbq := va_up_self G bd (some (arQ t 5 200 (shf fB n (q + 1))))
    have hDq : ∀ i, i < n → va_up G bd (some (arQ t 5 200 (shf fB n (q + 1)))) (aB i) = some (cDv (db i)) := fun i h => up_at (hD i h) (hw_kd (hD i h) hB0 rfl)
    refine lv_iload hx hb d_B_add_29 (lv_at hl 0 rfl) ?_
    refine lv_if_le (tgt := 73) hx hb d_B_add_31 (by decide) (fun c_1 => ?_) (fun c_1 => ?_)
    · exact absurd c_1 (nI_nle (by omega) (by omega))
    · refine lv_aload_n hx hb d_B_add_34 rfl (lv_at hl 2 rfl) ?_
      refine g_B_17 X hb hP heq rfl d_B_add_35 ?_
      refine lv_iload hx hb d_B_add_38 (lv_at hl 0 rfl) ?_
      refine lv_iconst (v := 1) hx hb d_B_add_40 (by decide) ?_
      refine lv_isub hx hb d_B_add_41 ?_
      rw [nI_pred]
      refine n_aald X hb hP 5 hbq rfl ⟨by omega, by decide⟩ d_B_add_42 ?_
      refine lv_some (y := (aB q)) (by rw [shf_at (by omega)]; exact hB q (by omega)) ?_
      refine lv_lload hx hb d_B_add_43 (lv_at hl 6 rfl) ?_
      refine k_B_35 X ⟨Nat.le_of_ble_eq_true rfl, Nat.le_of_ble_eq_true rfl⟩ ⟨Nat.le_of_ble_eq_true rfl, Nat.le_of_ble_eq_true rfl⟩ hl.1 hP hS (hDq q (by omega)) (by exact Nat.le_of_ble_eq_true rfl) d_B_add_45 (fun r_2 H locs er_2 hP hS => ?_)
      refine lv_if_eq (tgt := 73) hx hb d_B_add_48 (by decide) (fun c_3 => ?_) (fun c_3 => ?_)
      · have t_2 := bi_0.mp (er_2 ▸ c_3)
        have hday : ¬ dy < (db q).2.2.2.2.1 := of_decide_eq_false (bi_0.mp (er_2 ▸ c_3))
        exact lp_B_add_x G a b bn bd n o fN fB aB db so am dy vc PO he hN0 hB0 hQ hne hn hB hD X (q + 1) H locs ls hq (by rw [insP, if_neg hday] at hPO; exact hPO) hP hS (lv_sub hl [0, 1, 2, 3, 4, 5, 6] rfl)
      · have t_2 := bi_n0.mp (er_2 ▸ c_3)
        have hday : dy < (db q).2.2.2.2.1 := of_decide_eq_true (bi_n0.mp (er_2 ▸ c_3))
        have hB9 : shf fB n (q + 1) q = some (aB q) := by rw [shf_at (by omega)]; exact hB q (by omega)
        refine lv_aload_n hx hb d_B_add_51 rfl (lv_at hl 2 rfl) ?_
        refine g_B_17 X hb hP heq rfl d_B_add_52 ?_
        refine lv_iload hx hb d_B_add_55 (lv_at hl 0 rfl) ?_
        refine lv_aload_n hx hb d_B_add_57 rfl (lv_at hl 2 rfl) ?_
        refine g_B_17 X hb hP heq rfl d_B_add_58 ?_
        refine lv_iload hx hb d_B_add_61 (lv_at hl 0 rfl) ?_
        refine lv_iconst (v := 1) hx hb d_B_add_63 (by decide) ?_
        refine lv_isub hx hb d_B_add_64 ?_
        rw [nI_pred]
        refine n_aald X hb hP 5 hbq rfl ⟨by omega, by decide⟩ d_B_add_65 ?_
        refine lv_some (y := (aB q)) hB9 ?_
        refine n_aast X hb hP hS 5 2 hbq rfl (hDq q (by omega)) rfl ⟨by omega, by decide⟩ d_B_add_66 (fun H locs hP hS => ?_)
        have he_4 := up_at (o := some (arQ t 5 200 (va_up (shf fB n (q + 1)) (q + 1) (some (aB q))))) heq (hw_kd heq hbq rfl)
        have he_5 := up_at (o := some (arQ t 5 200 (va_up (shf fB n (q + 1)) (q + 1) (some (aB q))))) hnq (hne)
        have he_6 := up_at (o := some (arQ t 5 200 (va_up (shf fB n (q + 1)) (q + 1) (some (aB q))))) hoq (hw_kd hoq hbq rfl)
        have he_7 := up_at (o := some (arQ t 5 200 (va_up (shf fB n (q + 1)) (q + 1) (some (aB q))))) (hDq q (by omega)) (hw_kd (hDq q (by omega)) hbq rfl)
        have he_8 := va_up_self (va_up G bd (some (arQ t 5 200 (shf fB n (q + 1))))) bd (some (arQ t 5 200 (va_up (shf fB n (q + 1)) (q + 1) (some (aB q))) : va_E))
        have hP : hw D vwCl A (va_up (va_up G bd (some (arQ t 5 200 (shf fB n (q + 1))))) bd (some (arQ t 5 200 (va_up (shf fB n (q + 1)) (q + 1) (some (aB q)))))) H := hP
        obtain ⟨x_9, ex_9⟩ : ∃ z : Int32, z = (nI (q + 1)) + (-1) := ⟨_, rfl⟩
        refine lv_iinc (v := x_9) (lv' := [(8, .int x_9), (7, .ref o), (0, .ref a), (1, .ref b), (2, .int so), (3, .long am), (5, .long dy)]) hx hb d_B_add_67 hl (k := 0) rfl (by rw [ex_9]; rfl) (by decide) rfl (fun ls hl => ?_)
        refine lv_goto (tgt := 29) hx hb d_B_add_70 (by decide) ?_
        obtain rfl : x_9 = nI q := by rw [ex_9]; exact pk_m1 q
        rw [bx_uu, ← hB9, shf_up fB n q hq] at hP
        exact ih H locs ls (by omega) (by rw [insP, if_pos hday] at hPO; exact hPO) hP hS (lv_sub hl [0, 1, 2, 3, 4, 5, 6] rfl)
theorem up_same {g : hG} {a : Nat} {x : va_E} (h : g a = some x) : va_up g a (some x) = g := by
  funext b
  by_cases e : b = a
  · subst e; rw [va_up_self, h]
  · rw [va_up_ne g _ e]
set_option maxRecDepth 100000 in
theorem c_B_add (l : Launch) (D : va_G) (t : Nat → ClassId) (A : Nat → Prop) (g : hG) (a b bn bd n : Nat) (fN fB : Nat → Option Nat) (aB : Nat → Nat) (db : Nat → DC) (it pn : Int32) (ra : Nat) (du : Int64) (lo : Option Nat) (en so : Int32) (am dy : Int64) (he : g a = some (cBr bn bd (nI n))) (hN0 : g bn = some (arQ t 5 200 fN)) (hB0 : g bd = some (arQ t 5 200 fB)) (hb0 : g b = some (cLo it pn ra du lo en)) (hne : bn ≠ bd) (hn : n < 200) (hB : ∀ i, i < n → fB i = some (aB i)) (hD : ∀ i, i < n → g (aB i) = some (cDv (db i))) : Met l y_B_add (Cond.code y_B_add b_B_add 9 (some .int) :: TB) ({ frames := 2, cells := 1, slots := 7, locals := 50 } : Room) (va_Pc [.ref a, .ref b, .int so, .long am, .long dy] (hI D vwCl (tyL t) EX A g)) (va_Qi (fun r u => r = nI (n + 1) ∧ ∃ o, g o = none ∧ u = bAdd t g a bn bd n fN fB (insP db dy n) o (cDe pn ra so am dy am 0)) (fun u v => hw D vwCl A u v.heap) A) 1 7 A := by
  refine Met.ofH (cc := b_B_add) (maxL := 9) (ret := (some .int)) (lv := [(0, .ref a), (1, .ref b), (2, .int so), (3, .long am), (5, .long dy)]) (by decide) (Nat.le_of_ble_eq_true rfl) rfl ?_
  intro p e s m below meth c ls X hP hS hl
  obtain ⟨hx, hb, hml, hr, hts, hown, hlocks, hK, hEs, hA, hnm⟩ := id X
  refine lv_aload_n hx hb d_B_add_0 rfl (lv_at hl 0 rfl) ?_
  refine k_B_28 X ⟨Nat.le_of_ble_eq_true rfl, Nat.le_of_ble_eq_true rfl⟩ ⟨Nat.le_of_ble_eq_true rfl, Nat.le_of_ble_eq_true rfl⟩ hl.1 hP hS he he (by omega) (by exact Nat.le_of_ble_eq_true rfl) d_B_add_1 (fun r_1 H locs er_1 hP hS => ?_)
  refine lv_if_eq (tgt := 9) hx hb d_B_add_4 (by decide) (fun c_2 => ?_) (fun c_2 => ?_)
  · have t_1 := bi_0.mp (er_1 ▸ c_2)
    refine nw_B_9 X hb hP hS ⟨Nat.le_of_ble_eq_true rfl, Nat.le_of_ble_eq_true rfl⟩ d_B_add_9 (fun q_3 H hq_3 hP hS => ?_)
    have he_4 := up_at (o := some (.inr (2, [.int 0, .null, .int 0, .long 0, .long 0, .long 0, .long 0]))) he (hw_new he hq_3)
    have he_5 := up_at (o := some (.inr (2, [.int 0, .null, .int 0, .long 0, .long 0, .long 0, .long 0]))) hB0 (hw_new hB0 hq_3)
    have he_6 := up_at (o := some (.inr (2, [.int 0, .null, .int 0, .long 0, .long 0, .long 0, .long 0]))) hN0 (hw_new hN0 hq_3)
    have he_7 := up_at (o := some (.inr (2, [.int 0, .null, .int 0, .long 0, .long 0, .long 0, .long 0]))) hb0 (hw_new hb0 hq_3)
    have he_8 := va_up_self g q_3 (some (.inr (2, [.int 0, .null, .int 0, .long 0, .long 0, .long 0, .long 0]) : va_E))
    have hP : hw D vwCl A (va_up g q_3 (some (.inr (2, [.int 0, .null, .int 0, .long 0, .long 0, .long 0, .long 0])))) H := hP
    refine lv_dup hx hb d_B_add_12 rfl ?_
    refine lv_aload_n hx hb d_B_add_13 rfl (lv_at hl 1 rfl) ?_
    refine lv_iload_n hx hb d_B_add_14 rfl (lv_at hl 2 rfl) ?_
    refine lv_lload_n hx hb d_B_add_15 rfl (lv_at hl 3 rfl) ?_
    refine lv_lload hx hb d_B_add_16 (lv_at hl 4 rfl) ?_
    refine k_B_32 X ⟨Nat.le_of_ble_eq_true rfl, Nat.le_of_ble_eq_true rfl⟩ ⟨Nat.le_of_ble_eq_true rfl, Nat.le_of_ble_eq_true rfl⟩ hl.1 hP hS he_8 he_7 (by exact Nat.le_of_ble_eq_true rfl) d_B_add_18 (fun H locs hP hS => ?_)
    rw [bx_uu] at hP
    refine lv_astore (lv' := [(7, .ref q_3), (0, .ref a), (1, .ref b), (2, .int so), (3, .long am), (5, .long dy)]) hx hb d_B_add_21 hl (by decide) rfl (fun ls hl => ?_)
    refine lv_aload_n hx hb d_B_add_23 rfl (lv_at hl 1 rfl) ?_
    refine g_B_20 X hb hP (up_at he (hw_new he hq_3)) rfl d_B_add_24 ?_
    refine lv_istore (lv' := [(8, .int (nI n)), (7, .ref q_3), (0, .ref a), (1, .ref b), (2, .int so), (3, .long am), (5, .long dy)]) hx hb d_B_add_27 hl (by decide) rfl (fun ls hl => ?_)
    have hP : hw D vwCl A (va_up (va_up g q_3 (some (cDe pn ra so am dy am 0))) bd (some (arQ t 5 200 (shf fB n n)))) H := by rw [shf_n, up_same (up_at hB0 (hw_new hB0 hq_3))]; exact hP
    exact lp_B_add (va_up g q_3 (some (cDe pn ra so am dy am 0))) a b bn bd n q_3 fN fB aB db so am dy (pn, ra, so, am, dy, am, 0) _ (up_at he (hw_new he hq_3)) (up_at hN0 (hw_new hN0 hq_3)) (up_at hB0 (hw_new hB0 hq_3)) (va_up_self g q_3 (some (cDe pn ra so am dy am 0))) hne hn hB (fun i h => up_at (hD i h) (hw_new (hD i h) hq_3)) X n H locs ls (Nat.le_refl n) ⟨rfl, q_3, hq_3, rfl⟩ hP hS (lv_sub hl [0, 1, 2, 3, 4, 5, 6] rfl)
  · have t_1 := bi_n0.mp (er_1 ▸ c_2)
    exact absurd (er_1.trans (by rw [show fullB n = false from decide_eq_false (by omega)]; rfl)) c_2
theorem k_F_121 {p : Program} {l : Launch} {e : Env} {R : Room} {s : State} {m : MethodId} {args : Array Value} {below : List Frame} {meth : Method} {c : Code} {H : Heap} {locs : List Loc} {cells slots : Nat} {Q : State → Prop} {cc : ByteArray} {pc : Nat} {ls : Array Slot} {rest : List Value} {D : va_G} {A : Nat → Prop} {t : Nat → ClassId} {g : hG} {nL : Nat} {ret0 : Option FieldType} {nm : String} (X : Cx p s m args meth c R_F cc nL ret0 TB D vwCl (tyL t) EX A nm) (hR : 2 + 1 ≤ R.frames ∧ 8 + (9 + 11) + 50 ≤ R.locals) (hf : cells + 1 ≤ R.cells ∧ slots + 7 ≤ R.slots) (hls : ls.size = nL) (hP : hw D vwCl A g H) (hS : va_S A s.heap H locs) {a b bn bd n : Nat} {fN fB : Nat → Option Nat} {aB : Nat → Nat} {db : Nat → DC} {it pn : Int32} {ra : Nat} {du : Int64} {lo : Option Nat} {en so : Int32} {am dy : Int64} {fs9 : List Value} (he9 : g a = some (.inr (3, fs9))) (he : g a = some (cBr bn bd (nI n))) (hN0 : g bn = some (arQ t 5 200 fN)) (hB0 : g bd = some (arQ t 5 200 fB)) (hb0 : g b = some (cLo it pn ra du lo en)) (hne : bn ≠ bd) (hn : n < 200) (hB : ∀ i, i < n → fB i = some (aB i)) (hD : ∀ i, i < n → g (aB i) = some (cDv (db i))) (hW : (rest.map fun v => v.category).sum ≤ 8) (hdg : decode cc pc = .ok (.invokevirtual 121, 3)) (kk : ∀ (r : Int32) (u : hG) (H1 : Heap) (locs1 : List Loc), ((fun r u => r = nI (n + 1) ∧ ∃ o, g o = none ∧ u = bAdd t g a bn bd n fN fB (insP db dy n) o (cDe pn ra so am dy am 0)) r u) → hw D vwCl A u H1 → va_S A s.heap H1 locs1 → W p l e R s m args below meth c H1 locs1 (cells + 1) (slots + 7) Q (F0 m (pc + 3) ls (.int r :: rest))) : W p l e R s m args below meth c H locs cells slots Q (F0 m pc ls (.long dy :: .long am :: .int so :: .ref b :: .ref a :: rest)) :=
  h_ci (runV (C := R_B) (T := F_B) (N := 3) X (c_B_add l D t A g a b bn bd n fN fB aB db it pn ra du lo en so am dy he hN0 hB0 hb0 hne hn hB hD) (tbm 244 (by decide +kernel)) (tbm 245 (by decide +kernel)) (tbm 246 (by decide +kernel)) (tbm 21 (by decide +kernel)) (tbm 247 (by decide +kernel)) rfl (n := 4) (by decide +kernel) hR hf hP he9 hS hls rfl rfl hW hdg) hS kk

