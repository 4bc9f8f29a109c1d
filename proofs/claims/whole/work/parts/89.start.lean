/-- the law's loop, from its head to its end -/
theorem lw_loop {p : Program} {l : Launch} {e : Env} {s : State} {m : MethodId} {below : List Frame} {meth : Method} {c : Code} {D : va_G} {t : Nat → ClassId} {b L : Nat} {xs : Nat → Int32} {ad ma : Nat → Nat} {o : Nat} (hLK : LK p l s m #[Value.ref b] meth c D t (fun q => s.heap.size ≤ q) b L xs ma o) (hL : L ≤ 3072) : ∀ (k n : Nat) (g : hG) (H : Heap) (locs : List Loc) (ls : Array Slot), L ≤ 6 * n + 6 * k + 5 → n ≤ 512 → hw D vwCl (fun q => s.heap.size ≤ q) g H → va_S (fun q => s.heap.size ≤ q) s.heap H locs → LI t ad ma o n g → lv_has ls 7 [(0, .ref b), (1, .ref (ad 0)), (2, .ref (ma 0)), (3, .ref o), (4, .int (nI (6 * n)))] → W p l e room_1 s m #[Value.ref b] below meth c H locs (32 + n) (3074 + 8 * n) (lw_Z below #[Value.ref b] s) (F0 m 23 ls []) := by
  have hE : ∀ (n : Nat) (H : Heap) (locs : List Loc) (ls : Array Slot), n ≤ 512 → va_S (fun q => s.heap.size ≤ q) s.heap H locs → W p l e room_1 s m #[Value.ref b] below meth c H locs (32 + n) (3074 + 8 * n) (lw_Z below #[Value.ref b] s) (F0 m 1028 ls []) := by
    intro n H locs ls hn hS
    obtain ⟨hx, hb, hml, hr, hts, hown, hlocks, -⟩ := hLK.1
    refine va_forget (fun q hq => hS.2.2 q hq) ?_
    refine W.widen (k := 601024) (n := 7293034) (by omega) (by omega) ?_
    refine lv_iconst (v := 1) hx hb d_W_law_1028 (by decide) ?_
    exact lw_ret hx hb hr hlocks d_W_law_1029
  intro k
  induction k with
  | zero =>
    intro n g H locs ls hk hn hP hS hLI hl
    exact lw_turn hLK hL (by omega) (show 32 + n + 1 ≤ 601024 by omega) (show 3074 + 8 * n + 8 ≤ 7293034 by omega) hP hS hLI hl (fun _ => hE n H locs ls hn hS) (fun h => absurd h (by omega))
  | succ k ih =>
    intro n g H locs ls hk hn hP hS hLI hl
    refine lw_turn hLK hL (by omega) (show 32 + n + 1 ≤ 601024 by omega) (show 3074 + 8 * n + 8 ≤ 7293034 by omega) hP hS hLI hl (fun _ => hE n H locs ls hn hS) (fun h u H1 locs1 ls1 hP1 hS1 hLI1 hl1 => ?_)
    have h9 := ih (n + 1) u H1 locs1 ls1 (by omega) (by omega) hP1 hS1 hLI1 hl1
    rw [show 32 + (n + 1) = 32 + n + 1 by omega, show 3074 + 8 * (n + 1) = 3074 + 8 * n + 8 by omega] at h9
    exact h9
set_option maxHeartbeats 4000000 in
set_option maxRecDepth 100000 in
/-- from the entry, for every script of at most 3072 ints, the law comes to its end with true -/
theorem whole_start {p : Program} {e : Env} {s : State} {m : MethodId} {below : List Frame} {meth : Method} {c : Code} (l : Launch) (hlt9 : l.stackTraces = false) {b L : Nat} {xs : Nat → Int32} (hL : L ≤ 3072) (C0 : lw_At p s m meth c b L xs) : W p l e room_1 s m #[Value.ref b] below meth c s.heap [] 0 0 (lw_Z below #[Value.ref b] s) (entryFrame m ([Value.ref b] : List Value).toArray 7) := by
  obtain ⟨hx, hb, hr, hml, hown, hts0, hXs, hbl, hlocks, hgv⟩ := id C0
  obtain ⟨D, t, hK⟩ := lw_known hts0
  have hEs : EX s := lw_ex hts0
  have hGG := lw_thG hts0 hgv
  have hts : ∀ w ∈ TB, w.before #[Value.ref b] s = true := fun w h => hts0 w (tb_in w h)
  have hA : ∀ q : Nat, s.heap.size ≤ q → (fun q : Nat => s.heap.size ≤ q) q := fun _ h => h
  have hbA : ¬ (fun q : Nat => s.heap.size ≤ q) b := Nat.not_le.mpr hbl
  have X : Cx p s m #[Value.ref b] meth c R_W b_W_law 7 ret TB D vwCl (tyL t) EX (fun q : Nat => s.heap.size ≤ q) meth.name := ⟨hx, hb, hml, hr, hts, hown, hlocks, hK, hEs, hA, rfl⟩
  have hS : va_S (fun q : Nat => s.heap.size ≤ q) s.heap s.heap [] := va_S.rf
  have hP : hw D vwCl (fun q : Nat => s.heap.size ≤ q) (fun _ => none) s.heap := hw.nil
  have hl := lv_entry ([.ref b]) (n := 7) (Nat.le_of_ble_eq_true rfl)
  rw [lg_entry_eq]
  generalize (lg_sl ([.ref b]) ++ List.replicate (7 - (lg_sl ([.ref b])).length) Slot.unset).toArray = ls at hl ⊢
  have hl : lv_has ls 7 [(0, .ref b)] := hl
  refine nw_W_8 X hb hP hS ⟨Nat.le_of_ble_eq_true rfl, Nat.le_of_ble_eq_true rfl⟩ d_W_law_0 (fun qa Ha hqa hPa hSa => ?_)
  refine lv_dup hx hb d_W_law_3 rfl ?_
  refine k_W_15 X ⟨Nat.le_of_ble_eq_true rfl, Nat.le_of_ble_eq_true rfl⟩ ⟨Nat.le_of_ble_eq_true rfl, Nat.le_of_ble_eq_true rfl⟩ hl.1 hPa hSa (va_up_self _ _ _) (by exact Nat.le_of_ble_eq_true rfl) d_W_law_4 (fun u1 H1 locs1 h1 hP1 hS1 => ?_)
  obtain ⟨ad, ea, hRx, hK1⟩ := h1
  subst ea
  refine lv_astore_n (lv' := [(1, .ref (ad 0)), (0, .ref b)]) hx hb d_W_law_7 rfl hl (by decide) rfl (fun ls hl => ?_)
  refine nw_W_16 X hb hP1 hS1 ⟨Nat.le_of_ble_eq_true rfl, Nat.le_of_ble_eq_true rfl⟩ d_W_law_8 (fun qm Hm hqm hPm hSm => ?_)
  refine lv_dup hx hb d_W_law_11 rfl ?_
  refine k_W_18 X ⟨Nat.le_of_ble_eq_true rfl, Nat.le_of_ble_eq_true rfl⟩ ⟨Nat.le_of_ble_eq_true rfl, Nat.le_of_ble_eq_true rfl⟩ hl.1 hPm hSm (va_up_self _ _ _) (by exact Nat.le_of_ble_eq_true rfl) d_W_law_12 (fun u2 H locs h2 hP hS => ?_)
  obtain ⟨ma, em, hM, hnone, hK2⟩ := h2
  subst em
  refine lv_astore_n (lv' := [(2, .ref (ma 0)), (1, .ref (ad 0)), (0, .ref b)]) hx hb d_W_law_15 rfl hl (by decide) rfl (fun ls hl => ?_)
  refine lv_iconst (v := 1) hx hb d_W_law_16 (by decide) ?_
  refine h_newa (a0 := (1, .inr (.inl (fun _ => 0)))) (N' := 1) hx hb (hts _ (tbm 77 (by decide +kernel))) rfl hK hP hS hA 1 rfl (fun _ => by rw [vp_cell_l]; rfl) (by decide) (by decide) (by decide) (Nat.le_of_ble_eq_true rfl) (Nat.le_of_ble_eq_true rfl) d_W_law_17 (fun o H ho hP hS => ?_)
  refine lv_astore_n (lv' := [(3, .ref o), (2, .ref (ma 0)), (1, .ref (ad 0)), (0, .ref b)]) hx hb d_W_law_19 rfl hl (by decide) rfl (fun ls hl => ?_)
  refine lv_iconst (v := 0) hx hb d_W_law_20 (by decide) ?_
  refine lv_istore (lv' := [(4, .int 0), (3, .ref o), (2, .ref (ma 0)), (1, .ref (ad 0)), (0, .ref b)]) hx hb d_W_law_21 hl (by decide) rfl (fun ls hl => ?_)
  obtain ⟨hoM, hLI⟩ := LI_0 hRx hqm hM hnone hK2 ho
  have hLK : LK p l s m #[Value.ref b] meth c D t (fun q => s.heap.size ≤ q) b L xs ma o := ⟨X, hlt9, hGG, hXs, hbl, hbA, hoM⟩
  exact lw_loop hLK hL 512 0 _ H locs ls (by omega) (by omega) hP hS hLI (lv_sub hl [4, 3, 2, 1, 0] rfl)
