section
-- ===== PART A: goes FIRST, ahead of the names: the tables' words, and 'selects' of the private methods out of them =====
/-- a private method of a class that the tables say can be made, by its rows of tables_1 -/
def lw_okq (q : MethodName × Nat) : Prop := (q.1.cls ≠ "java/lang/invoke/MethodHandle" ∧ q.1.cls ≠ "java/lang/invoke/VarHandle") ∧ Cond.instantiable q.1.cls q.2 ∈ tables_1 ∧ Cond.privateMethod q.1 ∈ tables_1 ∧ Cond.instanceMethod q.1 ∈ tables_1
theorem lw_p0 : lw_okq (⟨"FineRows$ClosedDays", "countBetween", "(JJ)I"⟩, 2) := ⟨⟨by decide +kernel, by decide +kernel⟩, List.mem_of_getElem? (i := 45) (by decide +kernel), List.mem_of_getElem? (i := 132) (by decide +kernel), List.mem_of_getElem? (i := 133) (by decide +kernel)⟩
theorem lw_p1 : lw_okq (⟨"FineRows", "ruleNumbered", "(I)LFineRows$Rule;"⟩, 9) := ⟨⟨by decide +kernel, by decide +kernel⟩, List.mem_of_getElem? (i := 14) (by decide +kernel), List.mem_of_getElem? (i := 140) (by decide +kernel), List.mem_of_getElem? (i := 141) (by decide +kernel)⟩
theorem lw_p2 : lw_okq (⟨"FineRows", "lentLoanNumbered", "(I)LFineRows$Loan;"⟩, 9) := ⟨⟨by decide +kernel, by decide +kernel⟩, List.mem_of_getElem? (i := 14) (by decide +kernel), List.mem_of_getElem? (i := 186) (by decide +kernel), List.mem_of_getElem? (i := 187) (by decide +kernel)⟩
theorem lw_p3 : lw_okq (⟨"FineRows", "overdueCents", "(LFineRows$Loan;J)J"⟩, 9) := ⟨⟨by decide +kernel, by decide +kernel⟩, List.mem_of_getElem? (i := 14) (by decide +kernel), List.mem_of_getElem? (i := 195) (by decide +kernel), List.mem_of_getElem? (i := 196) (by decide +kernel)⟩
theorem lw_p4 : lw_okq (⟨"FineRows", "endLoan", "(LFineRows$Loan;)V"⟩, 9) := ⟨⟨by decide +kernel, by decide +kernel⟩, List.mem_of_getElem? (i := 14) (by decide +kernel), List.mem_of_getElem? (i := 218) (by decide +kernel), List.mem_of_getElem? (i := 219) (by decide +kernel)⟩
theorem lw_p5 : lw_okq (⟨"FineRows", "chargeOverdue", "(LFineRows$Loan;JJ)I"⟩, 9) := ⟨⟨by decide +kernel, by decide +kernel⟩, List.mem_of_getElem? (i := 14) (by decide +kernel), List.mem_of_getElem? (i := 222) (by decide +kernel), List.mem_of_getElem? (i := 223) (by decide +kernel)⟩
theorem lw_p6 : lw_okq (⟨"FineRows", "addCredit", "(IJ)V"⟩, 9) := ⟨⟨by decide +kernel, by decide +kernel⟩, List.mem_of_getElem? (i := 14) (by decide +kernel), List.mem_of_getElem? (i := 283) (by decide +kernel), List.mem_of_getElem? (i := 284) (by decide +kernel)⟩
theorem lw_p7 : lw_okq (⟨"FineRows", "balance", "(I)J"⟩, 9) := ⟨⟨by decide +kernel, by decide +kernel⟩, List.mem_of_getElem? (i := 14) (by decide +kernel), List.mem_of_getElem? (i := 309) (by decide +kernel), List.mem_of_getElem? (i := 310) (by decide +kernel)⟩
theorem lw_p8 : lw_okq (⟨"java/lang/Throwable", "fillInStackTrace", "(I)Ljava/lang/Throwable;"⟩, 6) := ⟨⟨by decide +kernel, by decide +kernel⟩, List.mem_of_getElem? (i := 398) (by decide +kernel), List.mem_of_getElem? (i := 396) (by decide +kernel), List.mem_of_getElem? (i := 397) (by decide +kernel)⟩
theorem lw_p9 : lw_okq (⟨"FineRowsModel", "isClosed", "(J)Z"⟩, 26) := ⟨⟨by decide +kernel, by decide +kernel⟩, List.mem_of_getElem? (i := 428) (by decide +kernel), List.mem_of_getElem? (i := 543) (by decide +kernel), List.mem_of_getElem? (i := 544) (by decide +kernel)⟩
theorem lw_p10 : lw_okq (⟨"FineRowsModel", "loanOfItem", "(I)I"⟩, 26) := ⟨⟨by decide +kernel, by decide +kernel⟩, List.mem_of_getElem? (i := 428) (by decide +kernel), List.mem_of_getElem? (i := 553) (by decide +kernel), List.mem_of_getElem? (i := 554) (by decide +kernel)⟩
theorem lw_p11 : lw_okq (⟨"FineRowsModel", "isLent", "(I)Z"⟩, 26) := ⟨⟨by decide +kernel, by decide +kernel⟩, List.mem_of_getElem? (i := 428) (by decide +kernel), List.mem_of_getElem? (i := 561) (by decide +kernel), List.mem_of_getElem? (i := 562) (by decide +kernel)⟩
theorem lw_p12 : lw_okq (⟨"FineRowsModel", "late", "(IJ)J"⟩, 26) := ⟨⟨by decide +kernel, by decide +kernel⟩, List.mem_of_getElem? (i := 428) (by decide +kernel), List.mem_of_getElem? (i := 565) (by decide +kernel), List.mem_of_getElem? (i := 566) (by decide +kernel)⟩
theorem lw_p13 : lw_okq (⟨"FineRowsModel", "comes", "(IIJI)I"⟩, 26) := ⟨⟨by decide +kernel, by decide +kernel⟩, List.mem_of_getElem? (i := 428) (by decide +kernel), List.mem_of_getElem? (i := 574) (by decide +kernel), List.mem_of_getElem? (i := 575) (by decide +kernel)⟩
theorem lw_p14 : lw_okq (⟨"FineRowsModel", "next", "(I)I"⟩, 26) := ⟨⟨by decide +kernel, by decide +kernel⟩, List.mem_of_getElem? (i := 428) (by decide +kernel), List.mem_of_getElem? (i := 590) (by decide +kernel), List.mem_of_getElem? (i := 591) (by decide +kernel)⟩
theorem lw_p15 : lw_okq (⟨"FineRowsModel", "personOf", "(I)I"⟩, 26) := ⟨⟨by decide +kernel, by decide +kernel⟩, List.mem_of_getElem? (i := 428) (by decide +kernel), List.mem_of_getElem? (i := 594) (by decide +kernel), List.mem_of_getElem? (i := 595) (by decide +kernel)⟩
def lw_privs_1 : List (MethodName × Nat) := [(⟨"FineRows$ClosedDays", "countBetween", "(JJ)I"⟩, 2), (⟨"FineRows", "ruleNumbered", "(I)LFineRows$Rule;"⟩, 9), (⟨"FineRows", "lentLoanNumbered", "(I)LFineRows$Loan;"⟩, 9), (⟨"FineRows", "overdueCents", "(LFineRows$Loan;J)J"⟩, 9), (⟨"FineRows", "endLoan", "(LFineRows$Loan;)V"⟩, 9), (⟨"FineRows", "chargeOverdue", "(LFineRows$Loan;JJ)I"⟩, 9), (⟨"FineRows", "addCredit", "(IJ)V"⟩, 9), (⟨"FineRows", "balance", "(I)J"⟩, 9), (⟨"java/lang/Throwable", "fillInStackTrace", "(I)Ljava/lang/Throwable;"⟩, 6), (⟨"FineRowsModel", "isClosed", "(J)Z"⟩, 26), (⟨"FineRowsModel", "loanOfItem", "(I)I"⟩, 26), (⟨"FineRowsModel", "isLent", "(I)Z"⟩, 26), (⟨"FineRowsModel", "late", "(IJ)J"⟩, 26), (⟨"FineRowsModel", "comes", "(IIJI)I"⟩, 26), (⟨"FineRowsModel", "next", "(I)I"⟩, 26), (⟨"FineRowsModel", "personOf", "(I)I"⟩, 26)]
theorem lw_r1 : ∀ q ∈ lw_privs_1, lw_okq q := List.forall_mem_cons.mpr ⟨lw_p0, List.forall_mem_cons.mpr ⟨lw_p1, List.forall_mem_cons.mpr ⟨lw_p2, List.forall_mem_cons.mpr ⟨lw_p3, List.forall_mem_cons.mpr ⟨lw_p4, List.forall_mem_cons.mpr ⟨lw_p5, List.forall_mem_cons.mpr ⟨lw_p6, List.forall_mem_cons.mpr ⟨lw_p7, List.forall_mem_cons.mpr ⟨lw_p8, List.forall_mem_cons.mpr ⟨lw_p9, List.forall_mem_cons.mpr ⟨lw_p10, List.forall_mem_cons.mpr ⟨lw_p11, List.forall_mem_cons.mpr ⟨lw_p12, List.forall_mem_cons.mpr ⟨lw_p13, List.forall_mem_cons.mpr ⟨lw_p14, List.forall_mem_cons.mpr ⟨lw_p15, fun _ h => absurd h List.not_mem_nil⟩⟩⟩⟩⟩⟩⟩⟩⟩⟩⟩⟩⟩⟩⟩⟩
theorem lw_p16 : lw_okq (⟨"FineRowsModel", "isDebt", "(I)Z"⟩, 26) := ⟨⟨by decide +kernel, by decide +kernel⟩, List.mem_of_getElem? (i := 428) (by decide +kernel), List.mem_of_getElem? (i := 602) (by decide +kernel), List.mem_of_getElem? (i := 603) (by decide +kernel)⟩
theorem lw_p17 : lw_okq (⟨"FineRowsModel", "leftOf", "(I)J"⟩, 26) := ⟨⟨by decide +kernel, by decide +kernel⟩, List.mem_of_getElem? (i := 428) (by decide +kernel), List.mem_of_getElem? (i := 611) (by decide +kernel), List.mem_of_getElem? (i := 612) (by decide +kernel)⟩
theorem lw_p18 : lw_okq (⟨"FineRowsModel", "interestOf", "(IJ)J"⟩, 26) := ⟨⟨by decide +kernel, by decide +kernel⟩, List.mem_of_getElem? (i := 428) (by decide +kernel), List.mem_of_getElem? (i := 615) (by decide +kernel), List.mem_of_getElem? (i := 616) (by decide +kernel)⟩
def lw_privs_2 : List (MethodName × Nat) := [(⟨"FineRowsModel", "isDebt", "(I)Z"⟩, 26), (⟨"FineRowsModel", "leftOf", "(I)J"⟩, 26), (⟨"FineRowsModel", "interestOf", "(IJ)J"⟩, 26)]
theorem lw_r2 : ∀ q ∈ lw_privs_2, lw_okq q := List.forall_mem_cons.mpr ⟨lw_p16, List.forall_mem_cons.mpr ⟨lw_p17, List.forall_mem_cons.mpr ⟨lw_p18, fun _ h => absurd h List.not_mem_nil⟩⟩⟩
def lw_privs : List (MethodName × Nat) := lw_privs_1 ++ (lw_privs_2)
def lw_tbl : List Cond := k2_sels lw_privs ++ tables_1
theorem lw_privs_ok : ∀ q ∈ lw_privs, lw_okq q := by
  show ∀ q ∈ lw_privs_1 ++ (lw_privs_2), lw_okq q
  exact List.forall_mem_append.mpr ⟨lw_r1, lw_r2⟩
/-- the words that stay while classes are warmed -/
def TB : List Cond := lw_tbl.filter goodWord
theorem tbm {w : Cond} (k : Nat) (h : lw_tbl[k]? = some w ∧ goodWord w = true) : w ∈ TB := List.mem_filter.mpr ⟨List.mem_of_getElem? h.1, h.2⟩
theorem tb_good : ∀ w ∈ TB, ((w.onTables && w.keeps) = true ∨ ∃ ty, w = .arrayClass ty) := fun w h => good_of_word (List.mem_filter.mp h).2
theorem tb_in : ∀ w ∈ TB, w ∈ lw_tbl := fun w h => (List.mem_filter.mp h).1
def R_F : String := "FineRows"
def F_F : u_T := fun k => match k with
  | 0 => ("FineRows", "rules", "[LFineRows$Rule;", true)
  | 1 => ("FineRows", "ruleCount", "I", false)
  | 2 => ("FineRows", "loans", "[LFineRows$Loan;", true)
  | 3 => ("FineRows", "loanCount", "I", false)
  | 4 => ("FineRows", "loanOfItem", "[LFineRows$Loan;", true)
  | 5 => ("FineRows", "debts", "LFineRows$DebtRows;", true)
  | 6 => ("FineRows", "closedDays", "LFineRows$ClosedDays;", true)
  | 7 => ("FineRows", "credits", "[J", true)
  | _ => ("FineRows", "blockCents", "I", false)
def t_F : Nat → FieldType := fun k => match k with
  | 0 => .array (.object "FineRows$Rule")
  | 1 => .int
  | 2 => .array (.object "FineRows$Loan")
  | 3 => .int
  | 4 => .array (.object "FineRows$Loan")
  | 5 => .object "FineRows$DebtRows"
  | 6 => .object "FineRows$ClosedDays"
  | 7 => .array .long
  | _ => .int
theorem n_F : ∀ a, a < 9 → ∀ b, b < 9 → a ≠ b → (F_F a).2.1 ≠ (F_F b).2.1 := by decide +kernel
theorem t_F_ok : ∀ k, k < 9 → parseFieldDescriptor (F_F k).2.2.1 = some (t_F k) := by decide +kernel
theorem i_F : ∀ w ∈ u_ws R_F F_F 9, w ∈ TB := fun w h => List.mem_filter.mpr (by
  have h1 : u_ws R_F F_F 9 = ([87, 89, 91, 93, 95, 97, 99, 101, 103] : List Nat).filterMap (fun i => lw_tbl[i]?) := by decide +kernel
  have h2 : (u_ws R_F F_F 9).all goodWord = true := by decide +kernel
  refine ⟨?_, List.all_eq_true.mp h2 w h⟩
  rw [h1] at h
  obtain ⟨i, -, hi⟩ := List.mem_filterMap.mp h
  exact List.mem_of_getElem? hi)
def R_C : String := "FineRows$ClosedDays"
def F_C : u_T := fun k => match k with
  | 0 => ("FineRows$ClosedDays", "days", "[J", true)
  | _ => ("FineRows$ClosedDays", "count", "I", false)
def t_C : Nat → FieldType := fun k => match k with
  | 0 => .array .long
  | _ => .int
theorem n_C : ∀ a, a < 2 → ∀ b, b < 2 → a ≠ b → (F_C a).2.1 ≠ (F_C b).2.1 := by decide +kernel
theorem t_C_ok : ∀ k, k < 2 → parseFieldDescriptor (F_C k).2.2.1 = some (t_C k) := by decide +kernel
theorem i_C : ∀ w ∈ u_ws R_C F_C 2, w ∈ TB := fun w h => List.mem_filter.mpr (by
  have h1 : u_ws R_C F_C 2 = ([72, 74] : List Nat).filterMap (fun i => lw_tbl[i]?) := by decide +kernel
  have h2 : (u_ws R_C F_C 2).all goodWord = true := by decide +kernel
  refine ⟨?_, List.all_eq_true.mp h2 w h⟩
  rw [h1] at h
  obtain ⟨i, -, hi⟩ := List.mem_filterMap.mp h
  exact List.mem_of_getElem? hi)
def R_D : String := "FineRows$Debt"
def F_D : u_T := fun k => match k with
  | 0 => ("FineRows$Debt", "person", "I", true)
  | 1 => ("FineRows$Debt", "rule", "LFineRows$Rule;", true)
  | 2 => ("FineRows$Debt", "sort", "I", true)
  | 3 => ("FineRows$Debt", "amount", "J", true)
  | 4 => ("FineRows$Debt", "day", "J", true)
  | 5 => ("FineRows$Debt", "left", "J", false)
  | _ => ("FineRows$Debt", "paid", "J", false)
def t_D : Nat → FieldType := fun k => match k with
  | 0 => .int
  | 1 => .object "FineRows$Rule"
  | 2 => .int
  | 3 => .long
  | 4 => .long
  | 5 => .long
  | _ => .long
theorem n_D : ∀ a, a < 7 → ∀ b, b < 7 → a ≠ b → (F_D a).2.1 ≠ (F_D b).2.1 := by decide +kernel
theorem t_D_ok : ∀ k, k < 7 → parseFieldDescriptor (F_D k).2.2.1 = some (t_D k) := by decide +kernel
theorem i_D : ∀ w ∈ u_ws R_D F_D 7, w ∈ TB := fun w h => List.mem_filter.mpr (by
  have h1 : u_ws R_D F_D 7 = ([270, 272, 274, 276, 278, 280, 282] : List Nat).filterMap (fun i => lw_tbl[i]?) := by decide +kernel
  have h2 : (u_ws R_D F_D 7).all goodWord = true := by decide +kernel
  refine ⟨?_, List.all_eq_true.mp h2 w h⟩
  rw [h1] at h
  obtain ⟨i, -, hi⟩ := List.mem_filterMap.mp h
  exact List.mem_of_getElem? hi)
def R_B : String := "FineRows$DebtRows"
def F_B : u_T := fun k => match k with
  | 0 => ("FineRows$DebtRows", "byNumber", "[LFineRows$Debt;", true)
  | 1 => ("FineRows$DebtRows", "byDay", "[LFineRows$Debt;", true)
  | _ => ("FineRows$DebtRows", "count", "I", false)
def t_B : Nat → FieldType := fun k => match k with
  | 0 => .array (.object "FineRows$Debt")
  | 1 => .array (.object "FineRows$Debt")
  | _ => .int
theorem n_B : ∀ a, a < 3 → ∀ b, b < 3 → a ≠ b → (F_B a).2.1 ≠ (F_B b).2.1 := by decide +kernel
theorem t_B_ok : ∀ k, k < 3 → parseFieldDescriptor (F_B k).2.2.1 = some (t_B k) := by decide +kernel
theorem i_B : ∀ w ∈ u_ws R_B F_B 3, w ∈ TB := fun w h => List.mem_filter.mpr (by
  have h1 : u_ws R_B F_B 3 = ([56, 58, 60] : List Nat).filterMap (fun i => lw_tbl[i]?) := by decide +kernel
  have h2 : (u_ws R_B F_B 3).all goodWord = true := by decide +kernel
  refine ⟨?_, List.all_eq_true.mp h2 w h⟩
  rw [h1] at h
  obtain ⟨i, -, hi⟩ := List.mem_filterMap.mp h
  exact List.mem_of_getElem? hi)
def R_L : String := "FineRows$Loan"
def F_L : u_T := fun k => match k with
  | 0 => ("FineRows$Loan", "item", "I", true)
  | 1 => ("FineRows$Loan", "person", "I", true)
  | 2 => ("FineRows$Loan", "rule", "LFineRows$Rule;", true)
  | 3 => ("FineRows$Loan", "due", "J", true)
  | 4 => ("FineRows$Loan", "loss", "LFineRows$Debt;", false)
  | _ => ("FineRows$Loan", "ended", "Z", false)
def t_L : Nat → FieldType := fun k => match k with
  | 0 => .int
  | 1 => .int
  | 2 => .object "FineRows$Rule"
  | 3 => .long
  | 4 => .object "FineRows$Debt"
  | _ => .boolean
theorem n_L : ∀ a, a < 6 → ∀ b, b < 6 → a ≠ b → (F_L a).2.1 ≠ (F_L b).2.1 := by decide +kernel
theorem t_L_ok : ∀ k, k < 6 → parseFieldDescriptor (F_L k).2.2.1 = some (t_L k) := by decide +kernel
theorem i_L : ∀ w ∈ u_ws R_L F_L 6, w ∈ TB := fun w h => List.mem_filter.mpr (by
  have h1 : u_ws R_L F_L 6 = ([187, 189, 191, 193, 195, 197] : List Nat).filterMap (fun i => lw_tbl[i]?) := by decide +kernel
  have h2 : (u_ws R_L F_L 6).all goodWord = true := by decide +kernel
  refine ⟨?_, List.all_eq_true.mp h2 w h⟩
  rw [h1] at h
  obtain ⟨i, -, hi⟩ := List.mem_filterMap.mp h
  exact List.mem_of_getElem? hi)
def R_R : String := "FineRows$Rule"
def F_R : u_T := fun k => match k with
  | 0 => ("FineRows$Rule", "cents", "I", true)
  | 1 => ("FineRows$Rule", "cap", "I", true)
  | 2 => ("FineRows$Rule", "grace", "I", true)
  | 3 => ("FineRows$Rule", "up", "I", false)
  | _ => ("FineRows$Rule", "down", "I", false)
def t_R : Nat → FieldType := fun k => match k with
  | 0 => .int
  | 1 => .int
  | 2 => .int
  | 3 => .int
  | _ => .int
theorem n_R : ∀ a, a < 5 → ∀ b, b < 5 → a ≠ b → (F_R a).2.1 ≠ (F_R b).2.1 := by decide +kernel
theorem t_R_ok : ∀ k, k < 5 → parseFieldDescriptor (F_R k).2.2.1 = some (t_R k) := by decide +kernel
theorem i_R : ∀ w ∈ u_ws R_R F_R 5, w ∈ TB := fun w h => List.mem_filter.mpr (by
  have h1 : u_ws R_R F_R 5 = ([127, 129, 131, 133, 135] : List Nat).filterMap (fun i => lw_tbl[i]?) := by decide +kernel
  have h2 : (u_ws R_R F_R 5).all goodWord = true := by decide +kernel
  refine ⟨?_, List.all_eq_true.mp h2 w h⟩
  rw [h1] at h
  obtain ⟨i, -, hi⟩ := List.mem_filterMap.mp h
  exact List.mem_of_getElem? hi)
def R_M : String := "FineRowsModel"
def F_M : u_T := fun k => match k with
  | 0 => ("FineRowsModel", "thrown", "I", false)
  | 1 => ("FineRowsModel", "rules", "I", false)
  | 2 => ("FineRowsModel", "loans", "I", false)
  | 3 => ("FineRowsModel", "debts", "I", false)
  | 4 => ("FineRowsModel", "closed", "I", false)
  | 5 => ("FineRowsModel", "cents", "[I", true)
  | 6 => ("FineRowsModel", "cap", "[I", true)
  | 7 => ("FineRowsModel", "grace", "[I", true)
  | 8 => ("FineRowsModel", "up", "[I", true)
  | 9 => ("FineRowsModel", "down", "[I", true)
  | 10 => ("FineRowsModel", "closedDays", "[J", true)
  | 11 => ("FineRowsModel", "item", "[I", true)
  | 12 => ("FineRowsModel", "person", "[I", true)
  | 13 => ("FineRowsModel", "ruleOf", "[I", true)
  | 14 => ("FineRowsModel", "state", "[I", true)
  | 15 => ("FineRowsModel", "loss", "[I", true)
  | 16 => ("FineRowsModel", "due", "[J", true)
  | 17 => ("FineRowsModel", "loanOf", "[I", true)
  | 18 => ("FineRowsModel", "amount", "[I", true)
  | 19 => ("FineRowsModel", "left", "[I", true)
  | 20 => ("FineRowsModel", "paid", "[I", true)
  | 21 => ("FineRowsModel", "sort", "[I", true)
  | 22 => ("FineRowsModel", "came", "[J", true)
  | 23 => ("FineRowsModel", "served", "[Z", true)
  | 24 => ("FineRowsModel", "credit", "[J", true)
  | _ => ("FineRowsModel", "threshold", "I", false)
def t_M : Nat → FieldType := fun k => match k with
  | 0 => .int
  | 1 => .int
  | 2 => .int
  | 3 => .int
  | 4 => .int
  | 5 => .array .int
  | 6 => .array .int
  | 7 => .array .int
  | 8 => .array .int
  | 9 => .array .int
  | 10 => .array .long
  | 11 => .array .int
  | 12 => .array .int
  | 13 => .array .int
  | 14 => .array .int
  | 15 => .array .int
  | 16 => .array .long
  | 17 => .array .int
  | 18 => .array .int
  | 19 => .array .int
  | 20 => .array .int
  | 21 => .array .int
  | 22 => .array .long
  | 23 => .array .boolean
  | 24 => .array .long
  | _ => .int
theorem n_M : ∀ a, a < 26 → ∀ b, b < 26 → a ≠ b → (F_M a).2.1 ≠ (F_M b).2.1 := by decide +kernel
theorem t_M_ok : ∀ k, k < 26 → parseFieldDescriptor (F_M k).2.2.1 = some (t_M k) := by decide +kernel
theorem i_M : ∀ w ∈ u_ws R_M F_M 26, w ∈ TB := fun w h => List.mem_filter.mpr (by
  have h1 : u_ws R_M F_M 26 = ([478, 480, 482, 484, 486, 488, 490, 492, 494, 496, 498, 500, 502, 504, 506, 508, 510, 512, 514, 516, 518, 520, 522, 524, 526, 528] : List Nat).filterMap (fun i => lw_tbl[i]?) := by decide +kernel
  have h2 : (u_ws R_M F_M 26).all goodWord = true := by decide +kernel
  refine ⟨?_, List.all_eq_true.mp h2 w h⟩
  rw [h1] at h
  obtain ⟨i, -, hi⟩ := List.mem_filterMap.mp h
  exact List.mem_of_getElem? hi)
def R_W : String := "FineRowsLaw"
abbrev vwCl : List vw_C := [(R_F, F_F, 9), (R_C, F_C, 2), (R_D, F_D, 7), (R_B, F_B, 3), (R_L, F_L, 6), (R_R, F_R, 5), (R_M, F_M, 26)]
abbrev b_F_init : ByteArray := prog_1_method_1_code
def y_F_init : MethodName := ⟨R_F, "<init>", "()V"⟩
abbrev b_F_rule : ByteArray := prog_1_method_2_code
def y_F_rule : MethodName := ⟨R_F, "rule", "(III)I"⟩
abbrev b_F_interest : ByteArray := prog_1_method_3_code
def y_F_interest : MethodName := ⟨R_F, "interest", "(III)I"⟩
abbrev b_F_closed : ByteArray := prog_1_method_4_code
def y_F_closed : MethodName := ⟨R_F, "closed", "(J)I"⟩
abbrev b_F_loan : ByteArray := prog_1_method_5_code
def y_F_loan : MethodName := ⟨R_F, "loan", "(IIIJ)I"⟩
abbrev b_F_overdue : ByteArray := prog_1_method_6_code
def y_F_overdue : MethodName := ⟨R_F, "overdue", "(IJ)J"⟩
abbrev b_F_back : ByteArray := prog_1_method_7_code
def y_F_back : MethodName := ⟨R_F, "back", "(IJ)I"⟩
abbrev b_F_lost : ByteArray := prog_1_method_8_code
def y_F_lost : MethodName := ⟨R_F, "lost", "(IIJ)I"⟩
abbrev b_F_found : ByteArray := prog_1_method_9_code
def y_F_found : MethodName := ⟨R_F, "found", "(IJ)J"⟩
abbrev b_F_pay : ByteArray := prog_1_method_10_code
def y_F_pay : MethodName := ⟨R_F, "pay", "(II)I"⟩
abbrev b_F_waive : ByteArray := prog_1_method_11_code
def y_F_waive : MethodName := ⟨R_F, "waive", "(II)J"⟩
abbrev b_F_owes : ByteArray := prog_1_method_12_code
def y_F_owes : MethodName := ⟨R_F, "owes", "(IJ)J"⟩
abbrev b_F_plan : ByteArray := prog_1_method_13_code
def y_F_plan : MethodName := ⟨R_F, "plan", "(III)J"⟩
abbrev b_F_threshold : ByteArray := prog_1_method_14_code
def y_F_threshold : MethodName := ⟨R_F, "threshold", "(I)I"⟩
abbrev b_F_blocked : ByteArray := prog_1_method_15_code
def y_F_blocked : MethodName := ⟨R_F, "blocked", "(I)Z"⟩
abbrev b_F_debt : ByteArray := prog_1_method_16_code
def y_F_debt : MethodName := ⟨R_F, "debt", "(II)J"⟩
abbrev b_F_share : ByteArray := prog_1_method_17_code
def y_F_share : MethodName := ⟨R_F, "share", "(III)J"⟩
abbrev b_F_isWithin : ByteArray := prog_1_method_18_code
def y_F_isWithin : MethodName := ⟨R_F, "isWithin", "(III)Z"⟩
abbrev b_F_isDay : ByteArray := prog_1_method_19_code
def y_F_isDay : MethodName := ⟨R_F, "isDay", "(J)Z"⟩
abbrev b_F_isPerson : ByteArray := prog_1_method_20_code
def y_F_isPerson : MethodName := ⟨R_F, "isPerson", "(I)Z"⟩
abbrev b_F_isItem : ByteArray := prog_1_method_21_code
def y_F_isItem : MethodName := ⟨R_F, "isItem", "(I)Z"⟩
abbrev b_F_ruleNumbered : ByteArray := prog_1_method_22_code
def y_F_ruleNumbered : MethodName := ⟨R_F, "ruleNumbered", "(I)LFineRows$Rule;"⟩
abbrev b_F_lentLoanNumbered : ByteArray := prog_1_method_23_code
def y_F_lentLoanNumbered : MethodName := ⟨R_F, "lentLoanNumbered", "(I)LFineRows$Loan;"⟩
abbrev b_F_overdueCents : ByteArray := prog_1_method_24_code
def y_F_overdueCents : MethodName := ⟨R_F, "overdueCents", "(LFineRows$Loan;J)J"⟩
abbrev b_F_endLoan : ByteArray := prog_1_method_25_code
def y_F_endLoan : MethodName := ⟨R_F, "endLoan", "(LFineRows$Loan;)V"⟩
abbrev b_F_chargeOverdue : ByteArray := prog_1_method_26_code
def y_F_chargeOverdue : MethodName := ⟨R_F, "chargeOverdue", "(LFineRows$Loan;JJ)I"⟩
abbrev b_F_addCredit : ByteArray := prog_1_method_27_code
def y_F_addCredit : MethodName := ⟨R_F, "addCredit", "(IJ)V"⟩
abbrev b_F_balance : ByteArray := prog_1_method_28_code
def y_F_balance : MethodName := ⟨R_F, "balance", "(I)J"⟩
abbrev b_C_init : ByteArray := prog_2_method_1_code
def y_C_init : MethodName := ⟨R_C, "<init>", "()V"⟩
abbrev b_C_add : ByteArray := prog_2_method_2_code
def y_C_add : MethodName := ⟨R_C, "add", "(J)Z"⟩
abbrev b_C_countBetween : ByteArray := prog_2_method_3_code
def y_C_countBetween : MethodName := ⟨R_C, "countBetween", "(JJ)I"⟩
abbrev b_C_openDays : ByteArray := prog_2_method_4_code
def y_C_openDays : MethodName := ⟨R_C, "openDays", "(JJ)J"⟩
abbrev b_D_init : ByteArray := prog_3_method_1_code
def y_D_init : MethodName := ⟨R_D, "<init>", "(LFineRows$Loan;IJJ)V"⟩
abbrev b_D_take : ByteArray := prog_3_method_2_code
def y_D_take : MethodName := ⟨R_D, "take", "(J)J"⟩
abbrev b_D_interestAt : ByteArray := prog_3_method_3_code
def y_D_interestAt : MethodName := ⟨R_D, "interestAt", "(J)J"⟩
abbrev b_B_init : ByteArray := prog_4_method_1_code
def y_B_init : MethodName := ⟨R_B, "<init>", "()V"⟩
abbrev b_B_isFull : ByteArray := prog_4_method_2_code
def y_B_isFull : MethodName := ⟨R_B, "isFull", "()Z"⟩
abbrev b_B_numbered : ByteArray := prog_4_method_3_code
def y_B_numbered : MethodName := ⟨R_B, "numbered", "(I)LFineRows$Debt;"⟩
abbrev b_B_inOrder : ByteArray := prog_4_method_4_code
def y_B_inOrder : MethodName := ⟨R_B, "inOrder", "(I)LFineRows$Debt;"⟩
abbrev b_B_add : ByteArray := prog_4_method_5_code
def y_B_add : MethodName := ⟨R_B, "add", "(LFineRows$Loan;IJJ)I"⟩
abbrev b_B_cameBehind : ByteArray := prog_4_method_6_code
def y_B_cameBehind : MethodName := ⟨R_B, "cameBehind", "(LFineRows$Debt;J)Z"⟩
abbrev b_B_leftOf : ByteArray := prog_4_method_7_code
def y_B_leftOf : MethodName := ⟨R_B, "leftOf", "(I)J"⟩
abbrev b_B_interestOf : ByteArray := prog_4_method_8_code
def y_B_interestOf : MethodName := ⟨R_B, "interestOf", "(IJ)J"⟩
abbrev b_L_init : ByteArray := prog_5_method_1_code
def y_L_init : MethodName := ⟨R_L, "<init>", "(IILFineRows$Rule;J)V"⟩
abbrev b_L_isLent : ByteArray := prog_5_method_2_code
def y_L_isLent : MethodName := ⟨R_L, "isLent", "()Z"⟩
abbrev b_R_init : ByteArray := prog_6_method_1_code
def y_R_init : MethodName := ⟨R_R, "<init>", "(III)V"⟩
abbrev b_R_centsFor : ByteArray := prog_6_method_2_code
def y_R_centsFor : MethodName := ⟨R_R, "centsFor", "(J)J"⟩
abbrev b_R_interestFor : ByteArray := prog_6_method_3_code
def y_R_interestFor : MethodName := ⟨R_R, "interestFor", "(JJ)J"⟩
abbrev b_M_init : ByteArray := prog_8_method_1_code
def y_M_init : MethodName := ⟨R_M, "<init>", "()V"⟩
abbrev b_M_thrown : ByteArray := prog_8_method_2_code
def y_M_thrown : MethodName := ⟨R_M, "thrown", "()I"⟩
abbrev b_M_in : ByteArray := prog_8_method_3_code
def y_M_in : MethodName := ⟨R_M, "in", "(JJJ)Z"⟩
abbrev b_M_isDay : ByteArray := prog_8_method_4_code
def y_M_isDay : MethodName := ⟨R_M, "isDay", "(J)Z"⟩
abbrev b_M_rule : ByteArray := prog_8_method_5_code
def y_M_rule : MethodName := ⟨R_M, "rule", "(III)I"⟩
abbrev b_M_interest : ByteArray := prog_8_method_6_code
def y_M_interest : MethodName := ⟨R_M, "interest", "(III)I"⟩
abbrev b_M_isClosed : ByteArray := prog_8_method_7_code
def y_M_isClosed : MethodName := ⟨R_M, "isClosed", "(J)Z"⟩
abbrev b_M_closed : ByteArray := prog_8_method_8_code
def y_M_closed : MethodName := ⟨R_M, "closed", "(J)I"⟩
abbrev b_M_loanOfItem : ByteArray := prog_8_method_9_code
def y_M_loanOfItem : MethodName := ⟨R_M, "loanOfItem", "(I)I"⟩
abbrev b_M_loan : ByteArray := prog_8_method_10_code
def y_M_loan : MethodName := ⟨R_M, "loan", "(IIIJ)I"⟩
abbrev b_M_isLent : ByteArray := prog_8_method_11_code
def y_M_isLent : MethodName := ⟨R_M, "isLent", "(I)Z"⟩
abbrev b_M_late : ByteArray := prog_8_method_12_code
def y_M_late : MethodName := ⟨R_M, "late", "(IJ)J"⟩
abbrev b_M_overdue : ByteArray := prog_8_method_13_code
def y_M_overdue : MethodName := ⟨R_M, "overdue", "(IJ)J"⟩
abbrev b_M_comes : ByteArray := prog_8_method_14_code
def y_M_comes : MethodName := ⟨R_M, "comes", "(IIJI)I"⟩
abbrev b_M_back : ByteArray := prog_8_method_15_code
def y_M_back : MethodName := ⟨R_M, "back", "(IJ)I"⟩
abbrev b_M_lost : ByteArray := prog_8_method_16_code
def y_M_lost : MethodName := ⟨R_M, "lost", "(IIJ)I"⟩
abbrev b_M_found : ByteArray := prog_8_method_17_code
def y_M_found : MethodName := ⟨R_M, "found", "(IJ)J"⟩
abbrev b_M_personOf : ByteArray := prog_8_method_18_code
def y_M_personOf : MethodName := ⟨R_M, "personOf", "(I)I"⟩
abbrev b_M_next : ByteArray := prog_8_method_19_code
def y_M_next : MethodName := ⟨R_M, "next", "(I)I"⟩
abbrev b_M_pay : ByteArray := prog_8_method_20_code
def y_M_pay : MethodName := ⟨R_M, "pay", "(II)I"⟩
abbrev b_M_isDebt : ByteArray := prog_8_method_21_code
def y_M_isDebt : MethodName := ⟨R_M, "isDebt", "(I)Z"⟩
abbrev b_M_waive : ByteArray := prog_8_method_22_code
def y_M_waive : MethodName := ⟨R_M, "waive", "(II)J"⟩
abbrev b_M_interestOf : ByteArray := prog_8_method_23_code
def y_M_interestOf : MethodName := ⟨R_M, "interestOf", "(IJ)J"⟩
abbrev b_M_leftOf : ByteArray := prog_8_method_24_code
def y_M_leftOf : MethodName := ⟨R_M, "leftOf", "(I)J"⟩
abbrev b_M_owes : ByteArray := prog_8_method_25_code
def y_M_owes : MethodName := ⟨R_M, "owes", "(IJ)J"⟩
abbrev b_M_plan : ByteArray := prog_8_method_26_code
def y_M_plan : MethodName := ⟨R_M, "plan", "(III)J"⟩
abbrev b_M_threshold : ByteArray := prog_8_method_27_code
def y_M_threshold : MethodName := ⟨R_M, "threshold", "(I)I"⟩
abbrev b_M_blocked : ByteArray := prog_8_method_28_code
def y_M_blocked : MethodName := ⟨R_M, "blocked", "(I)Z"⟩
abbrev b_M_debt : ByteArray := prog_8_method_29_code
def y_M_debt : MethodName := ⟨R_M, "debt", "(II)J"⟩
abbrev b_M_share : ByteArray := prog_8_method_30_code
def y_M_share : MethodName := ⟨R_M, "share", "(III)J"⟩
abbrev b_W_interest : ByteArray := method_3_code
def y_W_interest : MethodName := ⟨R_W, "interest", "(LFineRows;III[J)I"⟩
abbrev b_W_law : ByteArray := code
def y_W_law : MethodName := ⟨R_W, "law", "([I)Z"⟩
end
section
theorem d_F_init_0 : decode b_F_init 0 = .ok (.aload_n 0, 1) := by decide +kernel
theorem d_F_init_1 : decode b_F_init 1 = .ok (.invokespecial 3, 3) := by decide +kernel
theorem d_F_init_4 : decode b_F_init 4 = .ok (.aload_n 0, 1) := by decide +kernel
theorem d_F_init_5 : decode b_F_init 5 = .ok (.bipush 10, 2) := by decide +kernel
theorem d_F_init_7 : decode b_F_init 7 = .ok (.anewarray 9, 3) := by decide +kernel
theorem d_F_init_10 : decode b_F_init 10 = .ok (.putfield 11, 3) := by decide +kernel
theorem d_F_init_13 : decode b_F_init 13 = .ok (.aload_n 0, 1) := by decide +kernel
theorem d_F_init_14 : decode b_F_init 14 = .ok (.bipush 120, 2) := by decide +kernel
theorem d_F_init_16 : decode b_F_init 16 = .ok (.anewarray 15, 3) := by decide +kernel
theorem d_F_init_19 : decode b_F_init 19 = .ok (.putfield 17, 3) := by decide +kernel
theorem d_F_init_22 : decode b_F_init 22 = .ok (.aload_n 0, 1) := by decide +kernel
theorem d_F_init_23 : decode b_F_init 23 = .ok (.bipush 60, 2) := by decide +kernel
theorem d_F_init_25 : decode b_F_init 25 = .ok (.anewarray 15, 3) := by decide +kernel
theorem d_F_init_28 : decode b_F_init 28 = .ok (.putfield 21, 3) := by decide +kernel
theorem d_F_init_31 : decode b_F_init 31 = .ok (.aload_n 0, 1) := by decide +kernel
theorem d_F_init_32 : decode b_F_init 32 = .ok (.new 24, 3) := by decide +kernel
theorem d_F_init_35 : decode b_F_init 35 = .ok (.dup, 1) := by decide +kernel
theorem d_F_init_36 : decode b_F_init 36 = .ok (.invokespecial 26, 3) := by decide +kernel
theorem d_F_init_39 : decode b_F_init 39 = .ok (.putfield 27, 3) := by decide +kernel
theorem d_F_init_42 : decode b_F_init 42 = .ok (.aload_n 0, 1) := by decide +kernel
theorem d_F_init_43 : decode b_F_init 43 = .ok (.new 31, 3) := by decide +kernel
theorem d_F_init_46 : decode b_F_init 46 = .ok (.dup, 1) := by decide +kernel
theorem d_F_init_47 : decode b_F_init 47 = .ok (.invokespecial 33, 3) := by decide +kernel
theorem d_F_init_50 : decode b_F_init 50 = .ok (.putfield 34, 3) := by decide +kernel
theorem d_F_init_53 : decode b_F_init 53 = .ok (.aload_n 0, 1) := by decide +kernel
theorem d_F_init_54 : decode b_F_init 54 = .ok (.bipush 30, 2) := by decide +kernel
theorem d_F_init_56 : decode b_F_init 56 = .ok (.newarray .long, 2) := by decide +kernel
theorem d_F_init_58 : decode b_F_init 58 = .ok (.putfield 38, 3) := by decide +kernel
theorem d_F_init_61 : decode b_F_init 61 = .ok (.aload_n 0, 1) := by decide +kernel
theorem d_F_init_62 : decode b_F_init 62 = .ok (.sipush 1000, 3) := by decide +kernel
theorem d_F_init_65 : decode b_F_init 65 = .ok (.putfield 42, 3) := by decide +kernel
theorem d_F_init_68 : decode b_F_init 68 = .ok (.return_, 1) := by decide +kernel
theorem d_F_rule_0 : decode b_F_rule 0 = .ok (.iload_n 1, 1) := by decide +kernel
theorem d_F_rule_1 : decode b_F_rule 1 = .ok (.iconst 0, 1) := by decide +kernel
theorem d_F_rule_2 : decode b_F_rule 2 = .ok (.ldc 46, 2) := by decide +kernel
theorem d_F_rule_4 : decode b_F_rule 4 = .ok (.invokestatic 47, 3) := by decide +kernel
theorem d_F_rule_7 : decode b_F_rule 7 = .ok (.ifCond .eq 33, 3) := by decide +kernel
theorem d_F_rule_10 : decode b_F_rule 10 = .ok (.iload_n 2, 1) := by decide +kernel
theorem d_F_rule_11 : decode b_F_rule 11 = .ok (.iconst 0, 1) := by decide +kernel
theorem d_F_rule_12 : decode b_F_rule 12 = .ok (.ldc 51, 2) := by decide +kernel
theorem d_F_rule_14 : decode b_F_rule 14 = .ok (.invokestatic 47, 3) := by decide +kernel
theorem d_F_rule_17 : decode b_F_rule 17 = .ok (.ifCond .eq 23, 3) := by decide +kernel
theorem d_F_rule_20 : decode b_F_rule 20 = .ok (.iload_n 3, 1) := by decide +kernel
theorem d_F_rule_21 : decode b_F_rule 21 = .ok (.iconst 0, 1) := by decide +kernel
theorem d_F_rule_22 : decode b_F_rule 22 = .ok (.sipush 365, 3) := by decide +kernel
theorem d_F_rule_25 : decode b_F_rule 25 = .ok (.invokestatic 47, 3) := by decide +kernel
theorem d_F_rule_28 : decode b_F_rule 28 = .ok (.ifCond .eq 12, 3) := by decide +kernel
theorem d_F_rule_31 : decode b_F_rule 31 = .ok (.aload_n 0, 1) := by decide +kernel
theorem d_F_rule_32 : decode b_F_rule 32 = .ok (.getfield 52, 3) := by decide +kernel
theorem d_F_rule_35 : decode b_F_rule 35 = .ok (.bipush 10, 2) := by decide +kernel
theorem d_F_rule_37 : decode b_F_rule 37 = .ok (.if_icmp .lt 5, 3) := by decide +kernel
theorem d_F_rule_40 : decode b_F_rule 40 = .ok (.iconst (-1), 1) := by decide +kernel
theorem d_F_rule_41 : decode b_F_rule 41 = .ok (.ireturn, 1) := by decide +kernel
theorem d_F_rule_42 : decode b_F_rule 42 = .ok (.aload_n 0, 1) := by decide +kernel
theorem d_F_rule_43 : decode b_F_rule 43 = .ok (.getfield 52, 3) := by decide +kernel
theorem d_F_rule_46 : decode b_F_rule 46 = .ok (.istore 4, 2) := by decide +kernel
theorem d_F_rule_48 : decode b_F_rule 48 = .ok (.aload_n 0, 1) := by decide +kernel
theorem d_F_rule_49 : decode b_F_rule 49 = .ok (.getfield 11, 3) := by decide +kernel
theorem d_F_rule_52 : decode b_F_rule 52 = .ok (.iload 4, 2) := by decide +kernel
theorem d_F_rule_54 : decode b_F_rule 54 = .ok (.new 9, 3) := by decide +kernel
theorem d_F_rule_57 : decode b_F_rule 57 = .ok (.dup, 1) := by decide +kernel
theorem d_F_rule_58 : decode b_F_rule 58 = .ok (.iload_n 1, 1) := by decide +kernel
theorem d_F_rule_59 : decode b_F_rule 59 = .ok (.iload_n 2, 1) := by decide +kernel
theorem d_F_rule_60 : decode b_F_rule 60 = .ok (.iload_n 3, 1) := by decide +kernel
theorem d_F_rule_61 : decode b_F_rule 61 = .ok (.invokespecial 55, 3) := by decide +kernel
theorem d_F_rule_64 : decode b_F_rule 64 = .ok (.aastore, 1) := by decide +kernel
theorem d_F_rule_65 : decode b_F_rule 65 = .ok (.aload_n 0, 1) := by decide +kernel
theorem d_F_rule_66 : decode b_F_rule 66 = .ok (.dup, 1) := by decide +kernel
theorem d_F_rule_67 : decode b_F_rule 67 = .ok (.getfield 52, 3) := by decide +kernel
theorem d_F_rule_70 : decode b_F_rule 70 = .ok (.iconst 1, 1) := by decide +kernel
theorem d_F_rule_71 : decode b_F_rule 71 = .ok (.iadd, 1) := by decide +kernel
theorem d_F_rule_72 : decode b_F_rule 72 = .ok (.putfield 52, 3) := by decide +kernel
theorem d_F_rule_75 : decode b_F_rule 75 = .ok (.iload 4, 2) := by decide +kernel
theorem d_F_rule_77 : decode b_F_rule 77 = .ok (.ireturn, 1) := by decide +kernel
theorem d_F_interest_0 : decode b_F_interest 0 = .ok (.aload_n 0, 1) := by decide +kernel
theorem d_F_interest_1 : decode b_F_interest 1 = .ok (.iload_n 1, 1) := by decide +kernel
theorem d_F_interest_2 : decode b_F_interest 2 = .ok (.invokevirtual 58, 3) := by decide +kernel
theorem d_F_interest_5 : decode b_F_interest 5 = .ok (.astore 4, 2) := by decide +kernel
theorem d_F_interest_7 : decode b_F_interest 7 = .ok (.aload 4, 2) := by decide +kernel
theorem d_F_interest_9 : decode b_F_interest 9 = .ok (.ifnull 24, 3) := by decide +kernel
theorem d_F_interest_12 : decode b_F_interest 12 = .ok (.iload_n 2, 1) := by decide +kernel
theorem d_F_interest_13 : decode b_F_interest 13 = .ok (.iconst 0, 1) := by decide +kernel
theorem d_F_interest_14 : decode b_F_interest 14 = .ok (.sipush 1000, 3) := by decide +kernel
theorem d_F_interest_17 : decode b_F_interest 17 = .ok (.invokestatic 47, 3) := by decide +kernel
theorem d_F_interest_20 : decode b_F_interest 20 = .ok (.ifCond .eq 13, 3) := by decide +kernel
theorem d_F_interest_23 : decode b_F_interest 23 = .ok (.iload_n 3, 1) := by decide +kernel
theorem d_F_interest_24 : decode b_F_interest 24 = .ok (.iconst 0, 1) := by decide +kernel
theorem d_F_interest_25 : decode b_F_interest 25 = .ok (.ldc 62, 2) := by decide +kernel
theorem d_F_interest_27 : decode b_F_interest 27 = .ok (.invokestatic 47, 3) := by decide +kernel
theorem d_F_interest_30 : decode b_F_interest 30 = .ok (.ifCond .ne 5, 3) := by decide +kernel
theorem d_F_interest_33 : decode b_F_interest 33 = .ok (.iconst (-1), 1) := by decide +kernel
theorem d_F_interest_34 : decode b_F_interest 34 = .ok (.ireturn, 1) := by decide +kernel
theorem d_F_interest_35 : decode b_F_interest 35 = .ok (.iload_n 3, 1) := by decide +kernel
theorem d_F_interest_36 : decode b_F_interest 36 = .ok (.ifCond .ne 13, 3) := by decide +kernel
theorem d_F_interest_39 : decode b_F_interest 39 = .ok (.new 63, 3) := by decide +kernel
theorem d_F_interest_42 : decode b_F_interest 42 = .ok (.dup, 1) := by decide +kernel
theorem d_F_interest_43 : decode b_F_interest 43 = .ok (.ldc 65, 2) := by decide +kernel
theorem d_F_interest_45 : decode b_F_interest 45 = .ok (.invokespecial 67, 3) := by decide +kernel
theorem d_F_interest_48 : decode b_F_interest 48 = .ok (.athrow, 1) := by decide +kernel
theorem d_F_interest_49 : decode b_F_interest 49 = .ok (.aload 4, 2) := by decide +kernel
theorem d_F_interest_51 : decode b_F_interest 51 = .ok (.iload_n 2, 1) := by decide +kernel
theorem d_F_interest_52 : decode b_F_interest 52 = .ok (.putfield 70, 3) := by decide +kernel
theorem d_F_interest_55 : decode b_F_interest 55 = .ok (.aload 4, 2) := by decide +kernel
theorem d_F_interest_57 : decode b_F_interest 57 = .ok (.iload_n 3, 1) := by decide +kernel
theorem d_F_interest_58 : decode b_F_interest 58 = .ok (.putfield 73, 3) := by decide +kernel
theorem d_F_interest_61 : decode b_F_interest 61 = .ok (.ldc 46, 2) := by decide +kernel
theorem d_F_interest_63 : decode b_F_interest 63 = .ok (.iload_n 2, 1) := by decide +kernel
theorem d_F_interest_64 : decode b_F_interest 64 = .ok (.imul, 1) := by decide +kernel
theorem d_F_interest_65 : decode b_F_interest 65 = .ok (.iload_n 3, 1) := by decide +kernel
theorem d_F_interest_66 : decode b_F_interest 66 = .ok (.idiv, 1) := by decide +kernel
theorem d_F_interest_67 : decode b_F_interest 67 = .ok (.ireturn, 1) := by decide +kernel
theorem d_F_closed_0 : decode b_F_closed 0 = .ok (.lload_n 1, 1) := by decide +kernel
theorem d_F_closed_1 : decode b_F_closed 1 = .ok (.invokestatic 76, 3) := by decide +kernel
theorem d_F_closed_4 : decode b_F_closed 4 = .ok (.ifCond .eq 14, 3) := by decide +kernel
theorem d_F_closed_7 : decode b_F_closed 7 = .ok (.aload_n 0, 1) := by decide +kernel
theorem d_F_closed_8 : decode b_F_closed 8 = .ok (.getfield 34, 3) := by decide +kernel
theorem d_F_closed_11 : decode b_F_closed 11 = .ok (.lload_n 1, 1) := by decide +kernel
theorem d_F_closed_12 : decode b_F_closed 12 = .ok (.invokevirtual 80, 3) := by decide +kernel
theorem d_F_closed_15 : decode b_F_closed 15 = .ok (.ifCond .ne 5, 3) := by decide +kernel
theorem d_F_closed_18 : decode b_F_closed 18 = .ok (.iconst 0, 1) := by decide +kernel
theorem d_F_closed_19 : decode b_F_closed 19 = .ok (.ireturn, 1) := by decide +kernel
theorem d_F_closed_20 : decode b_F_closed 20 = .ok (.aload_n 0, 1) := by decide +kernel
theorem d_F_closed_21 : decode b_F_closed 21 = .ok (.getfield 34, 3) := by decide +kernel
theorem d_F_closed_24 : decode b_F_closed 24 = .ok (.getfield 83, 3) := by decide +kernel
theorem d_F_closed_27 : decode b_F_closed 27 = .ok (.ireturn, 1) := by decide +kernel
theorem d_F_loan_0 : decode b_F_loan 0 = .ok (.aload_n 0, 1) := by decide +kernel
theorem d_F_loan_1 : decode b_F_loan 1 = .ok (.iload_n 3, 1) := by decide +kernel
theorem d_F_loan_2 : decode b_F_loan 2 = .ok (.invokevirtual 58, 3) := by decide +kernel
theorem d_F_loan_5 : decode b_F_loan 5 = .ok (.astore 6, 2) := by decide +kernel
theorem d_F_loan_7 : decode b_F_loan 7 = .ok (.iload_n 1, 1) := by decide +kernel
theorem d_F_loan_8 : decode b_F_loan 8 = .ok (.invokestatic 86, 3) := by decide +kernel
theorem d_F_loan_11 : decode b_F_loan 11 = .ok (.ifCond .eq 23, 3) := by decide +kernel
theorem d_F_loan_14 : decode b_F_loan 14 = .ok (.iload_n 2, 1) := by decide +kernel
theorem d_F_loan_15 : decode b_F_loan 15 = .ok (.invokestatic 90, 3) := by decide +kernel
theorem d_F_loan_18 : decode b_F_loan 18 = .ok (.ifCond .eq 16, 3) := by decide +kernel
theorem d_F_loan_21 : decode b_F_loan 21 = .ok (.aload 6, 2) := by decide +kernel
theorem d_F_loan_23 : decode b_F_loan 23 = .ok (.ifnull 11, 3) := by decide +kernel
theorem d_F_loan_26 : decode b_F_loan 26 = .ok (.lload 4, 2) := by decide +kernel
theorem d_F_loan_28 : decode b_F_loan 28 = .ok (.invokestatic 76, 3) := by decide +kernel
theorem d_F_loan_31 : decode b_F_loan 31 = .ok (.ifCond .ne 5, 3) := by decide +kernel
theorem d_F_loan_34 : decode b_F_loan 34 = .ok (.iconst 0, 1) := by decide +kernel
theorem d_F_loan_35 : decode b_F_loan 35 = .ok (.ireturn, 1) := by decide +kernel
theorem d_F_loan_36 : decode b_F_loan 36 = .ok (.aload_n 0, 1) := by decide +kernel
theorem d_F_loan_37 : decode b_F_loan 37 = .ok (.getfield 21, 3) := by decide +kernel
theorem d_F_loan_40 : decode b_F_loan 40 = .ok (.iload_n 1, 1) := by decide +kernel
theorem d_F_loan_41 : decode b_F_loan 41 = .ok (.aaload, 1) := by decide +kernel
theorem d_F_loan_42 : decode b_F_loan 42 = .ok (.ifnonnull 12, 3) := by decide +kernel
theorem d_F_loan_45 : decode b_F_loan 45 = .ok (.aload_n 0, 1) := by decide +kernel
theorem d_F_loan_46 : decode b_F_loan 46 = .ok (.getfield 93, 3) := by decide +kernel
theorem d_F_loan_49 : decode b_F_loan 49 = .ok (.bipush 120, 2) := by decide +kernel
theorem d_F_loan_51 : decode b_F_loan 51 = .ok (.if_icmp .lt 5, 3) := by decide +kernel
theorem d_F_loan_54 : decode b_F_loan 54 = .ok (.iconst 0, 1) := by decide +kernel
theorem d_F_loan_55 : decode b_F_loan 55 = .ok (.ireturn, 1) := by decide +kernel
theorem d_F_loan_56 : decode b_F_loan 56 = .ok (.new 15, 3) := by decide +kernel
theorem d_F_loan_59 : decode b_F_loan 59 = .ok (.dup, 1) := by decide +kernel
theorem d_F_loan_60 : decode b_F_loan 60 = .ok (.iload_n 1, 1) := by decide +kernel
theorem d_F_loan_61 : decode b_F_loan 61 = .ok (.iload_n 2, 1) := by decide +kernel
theorem d_F_loan_62 : decode b_F_loan 62 = .ok (.aload 6, 2) := by decide +kernel
theorem d_F_loan_64 : decode b_F_loan 64 = .ok (.lload 4, 2) := by decide +kernel
theorem d_F_loan_66 : decode b_F_loan 66 = .ok (.invokespecial 96, 3) := by decide +kernel
theorem d_F_loan_69 : decode b_F_loan 69 = .ok (.astore 7, 2) := by decide +kernel
theorem d_F_loan_71 : decode b_F_loan 71 = .ok (.aload_n 0, 1) := by decide +kernel
theorem d_F_loan_72 : decode b_F_loan 72 = .ok (.getfield 21, 3) := by decide +kernel
theorem d_F_loan_75 : decode b_F_loan 75 = .ok (.iload_n 1, 1) := by decide +kernel
theorem d_F_loan_76 : decode b_F_loan 76 = .ok (.aload 7, 2) := by decide +kernel
theorem d_F_loan_78 : decode b_F_loan 78 = .ok (.aastore, 1) := by decide +kernel
theorem d_F_loan_79 : decode b_F_loan 79 = .ok (.aload_n 0, 1) := by decide +kernel
theorem d_F_loan_80 : decode b_F_loan 80 = .ok (.getfield 17, 3) := by decide +kernel
theorem d_F_loan_83 : decode b_F_loan 83 = .ok (.aload_n 0, 1) := by decide +kernel
theorem d_F_loan_84 : decode b_F_loan 84 = .ok (.getfield 93, 3) := by decide +kernel
theorem d_F_loan_87 : decode b_F_loan 87 = .ok (.aload 7, 2) := by decide +kernel
theorem d_F_loan_89 : decode b_F_loan 89 = .ok (.aastore, 1) := by decide +kernel
theorem d_F_loan_90 : decode b_F_loan 90 = .ok (.aload_n 0, 1) := by decide +kernel
theorem d_F_loan_91 : decode b_F_loan 91 = .ok (.dup, 1) := by decide +kernel
theorem d_F_loan_92 : decode b_F_loan 92 = .ok (.getfield 93, 3) := by decide +kernel
theorem d_F_loan_95 : decode b_F_loan 95 = .ok (.iconst 1, 1) := by decide +kernel
theorem d_F_loan_96 : decode b_F_loan 96 = .ok (.iadd, 1) := by decide +kernel
theorem d_F_loan_97 : decode b_F_loan 97 = .ok (.putfield 93, 3) := by decide +kernel
theorem d_F_loan_100 : decode b_F_loan 100 = .ok (.aload_n 0, 1) := by decide +kernel
theorem d_F_loan_101 : decode b_F_loan 101 = .ok (.getfield 93, 3) := by decide +kernel
theorem d_F_loan_104 : decode b_F_loan 104 = .ok (.ireturn, 1) := by decide +kernel
theorem d_F_overdue_0 : decode b_F_overdue 0 = .ok (.aload_n 0, 1) := by decide +kernel
theorem d_F_overdue_1 : decode b_F_overdue 1 = .ok (.iload_n 1, 1) := by decide +kernel
theorem d_F_overdue_2 : decode b_F_overdue 2 = .ok (.invokevirtual 99, 3) := by decide +kernel
theorem d_F_overdue_5 : decode b_F_overdue 5 = .ok (.astore 4, 2) := by decide +kernel
theorem d_F_overdue_7 : decode b_F_overdue 7 = .ok (.aload 4, 2) := by decide +kernel
theorem d_F_overdue_9 : decode b_F_overdue 9 = .ok (.ifnull 10, 3) := by decide +kernel
theorem d_F_overdue_12 : decode b_F_overdue 12 = .ok (.lload_n 2, 1) := by decide +kernel
theorem d_F_overdue_13 : decode b_F_overdue 13 = .ok (.invokestatic 76, 3) := by decide +kernel
theorem d_F_overdue_16 : decode b_F_overdue 16 = .ok (.ifCond .ne 7, 3) := by decide +kernel
theorem d_F_overdue_19 : decode b_F_overdue 19 = .ok (.ldc2_w 103, 3) := by decide +kernel
theorem d_F_overdue_22 : decode b_F_overdue 22 = .ok (.lreturn, 1) := by decide +kernel
theorem d_F_overdue_23 : decode b_F_overdue 23 = .ok (.aload_n 0, 1) := by decide +kernel
theorem d_F_overdue_24 : decode b_F_overdue 24 = .ok (.aload 4, 2) := by decide +kernel
theorem d_F_overdue_26 : decode b_F_overdue 26 = .ok (.lload_n 2, 1) := by decide +kernel
theorem d_F_overdue_27 : decode b_F_overdue 27 = .ok (.invokevirtual 105, 3) := by decide +kernel
theorem d_F_overdue_30 : decode b_F_overdue 30 = .ok (.lreturn, 1) := by decide +kernel
theorem d_F_back_0 : decode b_F_back 0 = .ok (.aload_n 0, 1) := by decide +kernel
theorem d_F_back_1 : decode b_F_back 1 = .ok (.iload_n 1, 1) := by decide +kernel
theorem d_F_back_2 : decode b_F_back 2 = .ok (.invokevirtual 99, 3) := by decide +kernel
theorem d_F_back_5 : decode b_F_back 5 = .ok (.astore 4, 2) := by decide +kernel
theorem d_F_back_7 : decode b_F_back 7 = .ok (.aload 4, 2) := by decide +kernel
theorem d_F_back_9 : decode b_F_back 9 = .ok (.ifnull 10, 3) := by decide +kernel
theorem d_F_back_12 : decode b_F_back 12 = .ok (.lload_n 2, 1) := by decide +kernel
theorem d_F_back_13 : decode b_F_back 13 = .ok (.invokestatic 76, 3) := by decide +kernel
theorem d_F_back_16 : decode b_F_back 16 = .ok (.ifCond .ne 5, 3) := by decide +kernel
theorem d_F_back_19 : decode b_F_back 19 = .ok (.iconst (-1), 1) := by decide +kernel
theorem d_F_back_20 : decode b_F_back 20 = .ok (.ireturn, 1) := by decide +kernel
theorem d_F_back_21 : decode b_F_back 21 = .ok (.aload_n 0, 1) := by decide +kernel
theorem d_F_back_22 : decode b_F_back 22 = .ok (.aload 4, 2) := by decide +kernel
theorem d_F_back_24 : decode b_F_back 24 = .ok (.lload_n 2, 1) := by decide +kernel
theorem d_F_back_25 : decode b_F_back 25 = .ok (.invokevirtual 105, 3) := by decide +kernel
theorem d_F_back_28 : decode b_F_back 28 = .ok (.lstore 5, 2) := by decide +kernel
theorem d_F_back_30 : decode b_F_back 30 = .ok (.lload 5, 2) := by decide +kernel
theorem d_F_back_32 : decode b_F_back 32 = .ok (.lconst 0, 1) := by decide +kernel
theorem d_F_back_33 : decode b_F_back 33 = .ok (.lcmp, 1) := by decide +kernel
theorem d_F_back_34 : decode b_F_back 34 = .ok (.ifCond .le 15, 3) := by decide +kernel
theorem d_F_back_37 : decode b_F_back 37 = .ok (.aload_n 0, 1) := by decide +kernel
theorem d_F_back_38 : decode b_F_back 38 = .ok (.getfield 27, 3) := by decide +kernel
theorem d_F_back_41 : decode b_F_back 41 = .ok (.invokevirtual 109, 3) := by decide +kernel
theorem d_F_back_44 : decode b_F_back 44 = .ok (.ifCond .eq 5, 3) := by decide +kernel
theorem d_F_back_47 : decode b_F_back 47 = .ok (.iconst (-1), 1) := by decide +kernel
theorem d_F_back_48 : decode b_F_back 48 = .ok (.ireturn, 1) := by decide +kernel
theorem d_F_back_49 : decode b_F_back 49 = .ok (.aload_n 0, 1) := by decide +kernel
theorem d_F_back_50 : decode b_F_back 50 = .ok (.aload 4, 2) := by decide +kernel
theorem d_F_back_52 : decode b_F_back 52 = .ok (.invokevirtual 113, 3) := by decide +kernel
theorem d_F_back_55 : decode b_F_back 55 = .ok (.aload_n 0, 1) := by decide +kernel
theorem d_F_back_56 : decode b_F_back 56 = .ok (.aload 4, 2) := by decide +kernel
theorem d_F_back_58 : decode b_F_back 58 = .ok (.lload 5, 2) := by decide +kernel
theorem d_F_back_60 : decode b_F_back 60 = .ok (.lload_n 2, 1) := by decide +kernel
theorem d_F_back_61 : decode b_F_back 61 = .ok (.invokevirtual 117, 3) := by decide +kernel
theorem d_F_back_64 : decode b_F_back 64 = .ok (.ireturn, 1) := by decide +kernel
theorem d_F_lost_0 : decode b_F_lost 0 = .ok (.aload_n 0, 1) := by decide +kernel
theorem d_F_lost_1 : decode b_F_lost 1 = .ok (.iload_n 1, 1) := by decide +kernel
theorem d_F_lost_2 : decode b_F_lost 2 = .ok (.invokevirtual 99, 3) := by decide +kernel
theorem d_F_lost_5 : decode b_F_lost 5 = .ok (.astore 5, 2) := by decide +kernel
theorem d_F_lost_7 : decode b_F_lost 7 = .ok (.aload 5, 2) := by decide +kernel
theorem d_F_lost_9 : decode b_F_lost 9 = .ok (.ifnull 30, 3) := by decide +kernel
theorem d_F_lost_12 : decode b_F_lost 12 = .ok (.lload_n 3, 1) := by decide +kernel
theorem d_F_lost_13 : decode b_F_lost 13 = .ok (.invokestatic 76, 3) := by decide +kernel
theorem d_F_lost_16 : decode b_F_lost 16 = .ok (.ifCond .eq 23, 3) := by decide +kernel
theorem d_F_lost_19 : decode b_F_lost 19 = .ok (.iload_n 2, 1) := by decide +kernel
theorem d_F_lost_20 : decode b_F_lost 20 = .ok (.iconst 1, 1) := by decide +kernel
theorem d_F_lost_21 : decode b_F_lost 21 = .ok (.ldc 51, 2) := by decide +kernel
theorem d_F_lost_23 : decode b_F_lost 23 = .ok (.invokestatic 47, 3) := by decide +kernel
theorem d_F_lost_26 : decode b_F_lost 26 = .ok (.ifCond .eq 13, 3) := by decide +kernel
theorem d_F_lost_29 : decode b_F_lost 29 = .ok (.aload_n 0, 1) := by decide +kernel
theorem d_F_lost_30 : decode b_F_lost 30 = .ok (.getfield 27, 3) := by decide +kernel
theorem d_F_lost_33 : decode b_F_lost 33 = .ok (.invokevirtual 109, 3) := by decide +kernel
theorem d_F_lost_36 : decode b_F_lost 36 = .ok (.ifCond .eq 5, 3) := by decide +kernel
theorem d_F_lost_39 : decode b_F_lost 39 = .ok (.iconst (-1), 1) := by decide +kernel
theorem d_F_lost_40 : decode b_F_lost 40 = .ok (.ireturn, 1) := by decide +kernel
theorem d_F_lost_41 : decode b_F_lost 41 = .ok (.aload_n 0, 1) := by decide +kernel
theorem d_F_lost_42 : decode b_F_lost 42 = .ok (.getfield 27, 3) := by decide +kernel
theorem d_F_lost_45 : decode b_F_lost 45 = .ok (.aload 5, 2) := by decide +kernel
theorem d_F_lost_47 : decode b_F_lost 47 = .ok (.iconst 1, 1) := by decide +kernel
theorem d_F_lost_48 : decode b_F_lost 48 = .ok (.iload_n 2, 1) := by decide +kernel
theorem d_F_lost_49 : decode b_F_lost 49 = .ok (.i2l, 1) := by decide +kernel
theorem d_F_lost_50 : decode b_F_lost 50 = .ok (.lload_n 3, 1) := by decide +kernel
theorem d_F_lost_51 : decode b_F_lost 51 = .ok (.invokevirtual 121, 3) := by decide +kernel
theorem d_F_lost_54 : decode b_F_lost 54 = .ok (.istore 6, 2) := by decide +kernel
theorem d_F_lost_56 : decode b_F_lost 56 = .ok (.aload 5, 2) := by decide +kernel
theorem d_F_lost_58 : decode b_F_lost 58 = .ok (.aload_n 0, 1) := by decide +kernel
theorem d_F_lost_59 : decode b_F_lost 59 = .ok (.getfield 27, 3) := by decide +kernel
theorem d_F_lost_62 : decode b_F_lost 62 = .ok (.iload 6, 2) := by decide +kernel
theorem d_F_lost_64 : decode b_F_lost 64 = .ok (.invokevirtual 124, 3) := by decide +kernel
theorem d_F_lost_67 : decode b_F_lost 67 = .ok (.putfield 128, 3) := by decide +kernel
theorem d_F_lost_70 : decode b_F_lost 70 = .ok (.iload 6, 2) := by decide +kernel
theorem d_F_lost_72 : decode b_F_lost 72 = .ok (.ireturn, 1) := by decide +kernel
theorem d_F_found_0 : decode b_F_found 0 = .ok (.iload_n 1, 1) := by decide +kernel
theorem d_F_found_1 : decode b_F_found 1 = .ok (.invokestatic 86, 3) := by decide +kernel
theorem d_F_found_4 : decode b_F_found 4 = .ok (.ifCond .eq 12, 3) := by decide +kernel
theorem d_F_found_7 : decode b_F_found 7 = .ok (.aload_n 0, 1) := by decide +kernel
theorem d_F_found_8 : decode b_F_found 8 = .ok (.getfield 21, 3) := by decide +kernel
theorem d_F_found_11 : decode b_F_found 11 = .ok (.iload_n 1, 1) := by decide +kernel
theorem d_F_found_12 : decode b_F_found 12 = .ok (.aaload, 1) := by decide +kernel
theorem d_F_found_13 : decode b_F_found 13 = .ok (.goto 4, 3) := by decide +kernel
theorem d_F_found_16 : decode b_F_found 16 = .ok (.aconst_null, 1) := by decide +kernel
theorem d_F_found_17 : decode b_F_found 17 = .ok (.astore 4, 2) := by decide +kernel
theorem d_F_found_19 : decode b_F_found 19 = .ok (.aload 4, 2) := by decide +kernel
theorem d_F_found_21 : decode b_F_found 21 = .ok (.ifnull 11, 3) := by decide +kernel
theorem d_F_found_24 : decode b_F_found 24 = .ok (.aload 4, 2) := by decide +kernel
theorem d_F_found_26 : decode b_F_found 26 = .ok (.getfield 128, 3) := by decide +kernel
theorem d_F_found_29 : decode b_F_found 29 = .ok (.goto 4, 3) := by decide +kernel
theorem d_F_found_32 : decode b_F_found 32 = .ok (.aconst_null, 1) := by decide +kernel
theorem d_F_found_33 : decode b_F_found 33 = .ok (.astore 5, 2) := by decide +kernel
theorem d_F_found_35 : decode b_F_found 35 = .ok (.aload 4, 2) := by decide +kernel
theorem d_F_found_37 : decode b_F_found 37 = .ok (.ifnull 15, 3) := by decide +kernel
theorem d_F_found_40 : decode b_F_found 40 = .ok (.aload 5, 2) := by decide +kernel
theorem d_F_found_42 : decode b_F_found 42 = .ok (.ifnull 10, 3) := by decide +kernel
theorem d_F_found_45 : decode b_F_found 45 = .ok (.lload_n 2, 1) := by decide +kernel
theorem d_F_found_46 : decode b_F_found 46 = .ok (.invokestatic 76, 3) := by decide +kernel
theorem d_F_found_49 : decode b_F_found 49 = .ok (.ifCond .ne 7, 3) := by decide +kernel
theorem d_F_found_52 : decode b_F_found 52 = .ok (.ldc2_w 103, 3) := by decide +kernel
theorem d_F_found_55 : decode b_F_found 55 = .ok (.lreturn, 1) := by decide +kernel
theorem d_F_found_56 : decode b_F_found 56 = .ok (.aload_n 0, 1) := by decide +kernel
theorem d_F_found_57 : decode b_F_found 57 = .ok (.aload 4, 2) := by decide +kernel
theorem d_F_found_59 : decode b_F_found 59 = .ok (.lload_n 2, 1) := by decide +kernel
theorem d_F_found_60 : decode b_F_found 60 = .ok (.invokevirtual 105, 3) := by decide +kernel
theorem d_F_found_63 : decode b_F_found 63 = .ok (.lstore 6, 2) := by decide +kernel
theorem d_F_found_65 : decode b_F_found 65 = .ok (.lload 6, 2) := by decide +kernel
theorem d_F_found_67 : decode b_F_found 67 = .ok (.lconst 0, 1) := by decide +kernel
theorem d_F_found_68 : decode b_F_found 68 = .ok (.lcmp, 1) := by decide +kernel
theorem d_F_found_69 : decode b_F_found 69 = .ok (.ifCond .le 17, 3) := by decide +kernel
theorem d_F_found_72 : decode b_F_found 72 = .ok (.aload_n 0, 1) := by decide +kernel
theorem d_F_found_73 : decode b_F_found 73 = .ok (.getfield 27, 3) := by decide +kernel
theorem d_F_found_76 : decode b_F_found 76 = .ok (.invokevirtual 109, 3) := by decide +kernel
theorem d_F_found_79 : decode b_F_found 79 = .ok (.ifCond .eq 7, 3) := by decide +kernel
theorem d_F_found_82 : decode b_F_found 82 = .ok (.ldc2_w 103, 3) := by decide +kernel
theorem d_F_found_85 : decode b_F_found 85 = .ok (.lreturn, 1) := by decide +kernel
theorem d_F_found_86 : decode b_F_found 86 = .ok (.aload 5, 2) := by decide +kernel
theorem d_F_found_88 : decode b_F_found 88 = .ok (.getfield 132, 3) := by decide +kernel
theorem d_F_found_91 : decode b_F_found 91 = .ok (.lstore 8, 2) := by decide +kernel
theorem d_F_found_93 : decode b_F_found 93 = .ok (.aload 5, 2) := by decide +kernel
theorem d_F_found_95 : decode b_F_found 95 = .ok (.lconst 0, 1) := by decide +kernel
theorem d_F_found_96 : decode b_F_found 96 = .ok (.putfield 138, 3) := by decide +kernel
theorem d_F_found_99 : decode b_F_found 99 = .ok (.aload_n 0, 1) := by decide +kernel
theorem d_F_found_100 : decode b_F_found 100 = .ok (.aload 4, 2) := by decide +kernel
theorem d_F_found_102 : decode b_F_found 102 = .ok (.getfield 141, 3) := by decide +kernel
theorem d_F_found_105 : decode b_F_found 105 = .ok (.lload 8, 2) := by decide +kernel
theorem d_F_found_107 : decode b_F_found 107 = .ok (.invokevirtual 144, 3) := by decide +kernel
theorem d_F_found_110 : decode b_F_found 110 = .ok (.aload_n 0, 1) := by decide +kernel
theorem d_F_found_111 : decode b_F_found 111 = .ok (.aload 4, 2) := by decide +kernel
theorem d_F_found_113 : decode b_F_found 113 = .ok (.invokevirtual 113, 3) := by decide +kernel
theorem d_F_found_116 : decode b_F_found 116 = .ok (.aload_n 0, 1) := by decide +kernel
theorem d_F_found_117 : decode b_F_found 117 = .ok (.aload 4, 2) := by decide +kernel
theorem d_F_found_119 : decode b_F_found 119 = .ok (.lload 6, 2) := by decide +kernel
theorem d_F_found_121 : decode b_F_found 121 = .ok (.lload_n 2, 1) := by decide +kernel
theorem d_F_found_122 : decode b_F_found 122 = .ok (.invokevirtual 117, 3) := by decide +kernel
theorem d_F_found_125 : decode b_F_found 125 = .ok (.pop, 1) := by decide +kernel
theorem d_F_found_126 : decode b_F_found 126 = .ok (.lload 8, 2) := by decide +kernel
theorem d_F_found_128 : decode b_F_found 128 = .ok (.lreturn, 1) := by decide +kernel
theorem d_F_pay_0 : decode b_F_pay 0 = .ok (.iload_n 1, 1) := by decide +kernel
theorem d_F_pay_1 : decode b_F_pay 1 = .ok (.invokestatic 90, 3) := by decide +kernel
theorem d_F_pay_4 : decode b_F_pay 4 = .ok (.ifCond .eq 13, 3) := by decide +kernel
theorem d_F_pay_7 : decode b_F_pay 7 = .ok (.iload_n 2, 1) := by decide +kernel
theorem d_F_pay_8 : decode b_F_pay 8 = .ok (.iconst 1, 1) := by decide +kernel
theorem d_F_pay_9 : decode b_F_pay 9 = .ok (.ldc 51, 2) := by decide +kernel
theorem d_F_pay_11 : decode b_F_pay 11 = .ok (.invokestatic 47, 3) := by decide +kernel
theorem d_F_pay_14 : decode b_F_pay 14 = .ok (.ifCond .ne 5, 3) := by decide +kernel
theorem d_F_pay_17 : decode b_F_pay 17 = .ok (.iconst (-1), 1) := by decide +kernel
theorem d_F_pay_18 : decode b_F_pay 18 = .ok (.ireturn, 1) := by decide +kernel
theorem d_F_pay_19 : decode b_F_pay 19 = .ok (.aload_n 0, 1) := by decide +kernel
theorem d_F_pay_20 : decode b_F_pay 20 = .ok (.getfield 38, 3) := by decide +kernel
theorem d_F_pay_23 : decode b_F_pay 23 = .ok (.iload_n 1, 1) := by decide +kernel
theorem d_F_pay_24 : decode b_F_pay 24 = .ok (.laload, 1) := by decide +kernel
theorem d_F_pay_25 : decode b_F_pay 25 = .ok (.iload_n 2, 1) := by decide +kernel
theorem d_F_pay_26 : decode b_F_pay 26 = .ok (.i2l, 1) := by decide +kernel
theorem d_F_pay_27 : decode b_F_pay 27 = .ok (.ladd, 1) := by decide +kernel
theorem d_F_pay_28 : decode b_F_pay 28 = .ok (.lstore_n 3, 1) := by decide +kernel
theorem d_F_pay_29 : decode b_F_pay 29 = .ok (.iconst 0, 1) := by decide +kernel
theorem d_F_pay_30 : decode b_F_pay 30 = .ok (.istore 5, 2) := by decide +kernel
theorem d_F_pay_32 : decode b_F_pay 32 = .ok (.iconst 0, 1) := by decide +kernel
theorem d_F_pay_33 : decode b_F_pay 33 = .ok (.istore 6, 2) := by decide +kernel
theorem d_F_pay_35 : decode b_F_pay 35 = .ok (.iload 6, 2) := by decide +kernel
theorem d_F_pay_37 : decode b_F_pay 37 = .ok (.aload_n 0, 1) := by decide +kernel
theorem d_F_pay_38 : decode b_F_pay 38 = .ok (.getfield 27, 3) := by decide +kernel
theorem d_F_pay_41 : decode b_F_pay 41 = .ok (.getfield 148, 3) := by decide +kernel
theorem d_F_pay_44 : decode b_F_pay 44 = .ok (.if_icmp .ge 62, 3) := by decide +kernel
theorem d_F_pay_47 : decode b_F_pay 47 = .ok (.lload_n 3, 1) := by decide +kernel
theorem d_F_pay_48 : decode b_F_pay 48 = .ok (.lconst 0, 1) := by decide +kernel
theorem d_F_pay_49 : decode b_F_pay 49 = .ok (.lcmp, 1) := by decide +kernel
theorem d_F_pay_50 : decode b_F_pay 50 = .ok (.ifCond .le 56, 3) := by decide +kernel
theorem d_F_pay_53 : decode b_F_pay 53 = .ok (.aload_n 0, 1) := by decide +kernel
theorem d_F_pay_54 : decode b_F_pay 54 = .ok (.getfield 27, 3) := by decide +kernel
theorem d_F_pay_57 : decode b_F_pay 57 = .ok (.iload 6, 2) := by decide +kernel
theorem d_F_pay_59 : decode b_F_pay 59 = .ok (.invokevirtual 149, 3) := by decide +kernel
theorem d_F_pay_62 : decode b_F_pay 62 = .ok (.astore 7, 2) := by decide +kernel
theorem d_F_pay_64 : decode b_F_pay 64 = .ok (.aload 7, 2) := by decide +kernel
theorem d_F_pay_66 : decode b_F_pay 66 = .ok (.ifnull 34, 3) := by decide +kernel
theorem d_F_pay_69 : decode b_F_pay 69 = .ok (.aload 7, 2) := by decide +kernel
theorem d_F_pay_71 : decode b_F_pay 71 = .ok (.getfield 152, 3) := by decide +kernel
theorem d_F_pay_74 : decode b_F_pay 74 = .ok (.iload_n 1, 1) := by decide +kernel
theorem d_F_pay_75 : decode b_F_pay 75 = .ok (.if_icmp .ne 25, 3) := by decide +kernel
theorem d_F_pay_78 : decode b_F_pay 78 = .ok (.aload 7, 2) := by decide +kernel
theorem d_F_pay_80 : decode b_F_pay 80 = .ok (.getfield 138, 3) := by decide +kernel
theorem d_F_pay_83 : decode b_F_pay 83 = .ok (.lconst 0, 1) := by decide +kernel
theorem d_F_pay_84 : decode b_F_pay 84 = .ok (.lcmp, 1) := by decide +kernel
theorem d_F_pay_85 : decode b_F_pay 85 = .ok (.ifCond .le 15, 3) := by decide +kernel
theorem d_F_pay_88 : decode b_F_pay 88 = .ok (.lload_n 3, 1) := by decide +kernel
theorem d_F_pay_89 : decode b_F_pay 89 = .ok (.aload 7, 2) := by decide +kernel
theorem d_F_pay_91 : decode b_F_pay 91 = .ok (.lload_n 3, 1) := by decide +kernel
theorem d_F_pay_92 : decode b_F_pay 92 = .ok (.invokevirtual 153, 3) := by decide +kernel
theorem d_F_pay_95 : decode b_F_pay 95 = .ok (.lsub, 1) := by decide +kernel
theorem d_F_pay_96 : decode b_F_pay 96 = .ok (.lstore_n 3, 1) := by decide +kernel
theorem d_F_pay_97 : decode b_F_pay 97 = .ok (.iinc 5 1, 3) := by decide +kernel
theorem d_F_pay_100 : decode b_F_pay 100 = .ok (.iinc 6 1, 3) := by decide +kernel
theorem d_F_pay_103 : decode b_F_pay 103 = .ok (.goto (-68), 3) := by decide +kernel
theorem d_F_pay_106 : decode b_F_pay 106 = .ok (.aload_n 0, 1) := by decide +kernel
theorem d_F_pay_107 : decode b_F_pay 107 = .ok (.getfield 38, 3) := by decide +kernel
theorem d_F_pay_110 : decode b_F_pay 110 = .ok (.iload_n 1, 1) := by decide +kernel
theorem d_F_pay_111 : decode b_F_pay 111 = .ok (.lload_n 3, 1) := by decide +kernel
theorem d_F_pay_112 : decode b_F_pay 112 = .ok (.lastore, 1) := by decide +kernel
theorem d_F_pay_113 : decode b_F_pay 113 = .ok (.iload 5, 2) := by decide +kernel
theorem d_F_pay_115 : decode b_F_pay 115 = .ok (.ireturn, 1) := by decide +kernel
theorem d_F_waive_0 : decode b_F_waive 0 = .ok (.aload_n 0, 1) := by decide +kernel
theorem d_F_waive_1 : decode b_F_waive 1 = .ok (.getfield 27, 3) := by decide +kernel
theorem d_F_waive_4 : decode b_F_waive 4 = .ok (.iload_n 1, 1) := by decide +kernel
theorem d_F_waive_5 : decode b_F_waive 5 = .ok (.invokevirtual 124, 3) := by decide +kernel
theorem d_F_waive_8 : decode b_F_waive 8 = .ok (.astore_n 3, 1) := by decide +kernel
theorem d_F_waive_9 : decode b_F_waive 9 = .ok (.aload_n 3, 1) := by decide +kernel
theorem d_F_waive_10 : decode b_F_waive 10 = .ok (.ifnull 13, 3) := by decide +kernel
theorem d_F_waive_13 : decode b_F_waive 13 = .ok (.iload_n 2, 1) := by decide +kernel
theorem d_F_waive_14 : decode b_F_waive 14 = .ok (.iconst 0, 1) := by decide +kernel
theorem d_F_waive_15 : decode b_F_waive 15 = .ok (.ldc 46, 2) := by decide +kernel
theorem d_F_waive_17 : decode b_F_waive 17 = .ok (.invokestatic 47, 3) := by decide +kernel
theorem d_F_waive_20 : decode b_F_waive 20 = .ok (.ifCond .ne 7, 3) := by decide +kernel
theorem d_F_waive_23 : decode b_F_waive 23 = .ok (.ldc2_w 103, 3) := by decide +kernel
theorem d_F_waive_26 : decode b_F_waive 26 = .ok (.lreturn, 1) := by decide +kernel
theorem d_F_waive_27 : decode b_F_waive 27 = .ok (.aload_n 3, 1) := by decide +kernel
theorem d_F_waive_28 : decode b_F_waive 28 = .ok (.getfield 138, 3) := by decide +kernel
theorem d_F_waive_31 : decode b_F_waive 31 = .ok (.iload_n 2, 1) := by decide +kernel
theorem d_F_waive_32 : decode b_F_waive 32 = .ok (.i2l, 1) := by decide +kernel
theorem d_F_waive_33 : decode b_F_waive 33 = .ok (.lcmp, 1) := by decide +kernel
theorem d_F_waive_34 : decode b_F_waive 34 = .ok (.ifCond .le 5, 3) := by decide +kernel
theorem d_F_waive_37 : decode b_F_waive 37 = .ok (.lconst 0, 1) := by decide +kernel
theorem d_F_waive_38 : decode b_F_waive 38 = .ok (.lreturn, 1) := by decide +kernel
theorem d_F_waive_39 : decode b_F_waive 39 = .ok (.aload_n 3, 1) := by decide +kernel
theorem d_F_waive_40 : decode b_F_waive 40 = .ok (.getfield 138, 3) := by decide +kernel
theorem d_F_waive_43 : decode b_F_waive 43 = .ok (.lstore 4, 2) := by decide +kernel
theorem d_F_waive_45 : decode b_F_waive 45 = .ok (.aload_n 3, 1) := by decide +kernel
theorem d_F_waive_46 : decode b_F_waive 46 = .ok (.lconst 0, 1) := by decide +kernel
theorem d_F_waive_47 : decode b_F_waive 47 = .ok (.putfield 138, 3) := by decide +kernel
theorem d_F_waive_50 : decode b_F_waive 50 = .ok (.lload 4, 2) := by decide +kernel
theorem d_F_waive_52 : decode b_F_waive 52 = .ok (.lreturn, 1) := by decide +kernel
theorem d_F_owes_0 : decode b_F_owes 0 = .ok (.iload_n 1, 1) := by decide +kernel
theorem d_F_owes_1 : decode b_F_owes 1 = .ok (.invokestatic 90, 3) := by decide +kernel
theorem d_F_owes_4 : decode b_F_owes 4 = .ok (.ifCond .ne 7, 3) := by decide +kernel
theorem d_F_owes_7 : decode b_F_owes 7 = .ok (.ldc2_w 157, 3) := by decide +kernel
theorem d_F_owes_10 : decode b_F_owes 10 = .ok (.lreturn, 1) := by decide +kernel
theorem d_F_owes_11 : decode b_F_owes 11 = .ok (.aload_n 0, 1) := by decide +kernel
theorem d_F_owes_12 : decode b_F_owes 12 = .ok (.iload_n 1, 1) := by decide +kernel
theorem d_F_owes_13 : decode b_F_owes 13 = .ok (.invokevirtual 159, 3) := by decide +kernel
theorem d_F_owes_16 : decode b_F_owes 16 = .ok (.lstore 4, 2) := by decide +kernel
theorem d_F_owes_18 : decode b_F_owes 18 = .ok (.lload_n 2, 1) := by decide +kernel
theorem d_F_owes_19 : decode b_F_owes 19 = .ok (.lconst 0, 1) := by decide +kernel
theorem d_F_owes_20 : decode b_F_owes 20 = .ok (.lcmp, 1) := by decide +kernel
theorem d_F_owes_21 : decode b_F_owes 21 = .ok (.ifCond .lt 23, 3) := by decide +kernel
theorem d_F_owes_24 : decode b_F_owes 24 = .ok (.lload 4, 2) := by decide +kernel
theorem d_F_owes_26 : decode b_F_owes 26 = .ok (.aload_n 0, 1) := by decide +kernel
theorem d_F_owes_27 : decode b_F_owes 27 = .ok (.getfield 27, 3) := by decide +kernel
theorem d_F_owes_30 : decode b_F_owes 30 = .ok (.iload_n 1, 1) := by decide +kernel
theorem d_F_owes_31 : decode b_F_owes 31 = .ok (.lload_n 2, 1) := by decide +kernel
theorem d_F_owes_32 : decode b_F_owes 32 = .ok (.ldc2_w 163, 3) := by decide +kernel
theorem d_F_owes_35 : decode b_F_owes 35 = .ok (.invokestatic 165, 3) := by decide +kernel
theorem d_F_owes_38 : decode b_F_owes 38 = .ok (.invokevirtual 171, 3) := by decide +kernel
theorem d_F_owes_41 : decode b_F_owes 41 = .ok (.ladd, 1) := by decide +kernel
theorem d_F_owes_42 : decode b_F_owes 42 = .ok (.lstore 4, 2) := by decide +kernel
theorem d_F_owes_44 : decode b_F_owes 44 = .ok (.lload 4, 2) := by decide +kernel
theorem d_F_owes_46 : decode b_F_owes 46 = .ok (.lreturn, 1) := by decide +kernel
theorem d_F_plan_0 : decode b_F_plan 0 = .ok (.iload_n 1, 1) := by decide +kernel
theorem d_F_plan_1 : decode b_F_plan 1 = .ok (.invokestatic 90, 3) := by decide +kernel
theorem d_F_plan_4 : decode b_F_plan 4 = .ok (.ifCond .eq 24, 3) := by decide +kernel
theorem d_F_plan_7 : decode b_F_plan 7 = .ok (.iload_n 2, 1) := by decide +kernel
theorem d_F_plan_8 : decode b_F_plan 8 = .ok (.iconst 1, 1) := by decide +kernel
theorem d_F_plan_9 : decode b_F_plan 9 = .ok (.bipush 12, 2) := by decide +kernel
theorem d_F_plan_11 : decode b_F_plan 11 = .ok (.invokestatic 47, 3) := by decide +kernel
theorem d_F_plan_14 : decode b_F_plan 14 = .ok (.ifCond .eq 14, 3) := by decide +kernel
theorem d_F_plan_17 : decode b_F_plan 17 = .ok (.iload_n 3, 1) := by decide +kernel
theorem d_F_plan_18 : decode b_F_plan 18 = .ok (.iconst 0, 1) := by decide +kernel
theorem d_F_plan_19 : decode b_F_plan 19 = .ok (.iload_n 2, 1) := by decide +kernel
theorem d_F_plan_20 : decode b_F_plan 20 = .ok (.iconst 1, 1) := by decide +kernel
theorem d_F_plan_21 : decode b_F_plan 21 = .ok (.isub, 1) := by decide +kernel
theorem d_F_plan_22 : decode b_F_plan 22 = .ok (.invokestatic 47, 3) := by decide +kernel
theorem d_F_plan_25 : decode b_F_plan 25 = .ok (.ifCond .ne 5, 3) := by decide +kernel
theorem d_F_plan_28 : decode b_F_plan 28 = .ok (.lconst 0, 1) := by decide +kernel
theorem d_F_plan_29 : decode b_F_plan 29 = .ok (.lreturn, 1) := by decide +kernel
theorem d_F_plan_30 : decode b_F_plan 30 = .ok (.aload_n 0, 1) := by decide +kernel
theorem d_F_plan_31 : decode b_F_plan 31 = .ok (.getfield 27, 3) := by decide +kernel
theorem d_F_plan_34 : decode b_F_plan 34 = .ok (.iload_n 1, 1) := by decide +kernel
theorem d_F_plan_35 : decode b_F_plan 35 = .ok (.invokevirtual 175, 3) := by decide +kernel
theorem d_F_plan_38 : decode b_F_plan 38 = .ok (.lstore 4, 2) := by decide +kernel
theorem d_F_plan_40 : decode b_F_plan 40 = .ok (.lload 4, 2) := by decide +kernel
theorem d_F_plan_42 : decode b_F_plan 42 = .ok (.iload_n 2, 1) := by decide +kernel
theorem d_F_plan_43 : decode b_F_plan 43 = .ok (.i2l, 1) := by decide +kernel
theorem d_F_plan_44 : decode b_F_plan 44 = .ok (.ldiv, 1) := by decide +kernel
theorem d_F_plan_45 : decode b_F_plan 45 = .ok (.lstore 6, 2) := by decide +kernel
theorem d_F_plan_47 : decode b_F_plan 47 = .ok (.lload 4, 2) := by decide +kernel
theorem d_F_plan_49 : decode b_F_plan 49 = .ok (.iload_n 2, 1) := by decide +kernel
theorem d_F_plan_50 : decode b_F_plan 50 = .ok (.i2l, 1) := by decide +kernel
theorem d_F_plan_51 : decode b_F_plan 51 = .ok (.lrem, 1) := by decide +kernel
theorem d_F_plan_52 : decode b_F_plan 52 = .ok (.lstore 8, 2) := by decide +kernel
theorem d_F_plan_54 : decode b_F_plan 54 = .ok (.iload_n 3, 1) := by decide +kernel
theorem d_F_plan_55 : decode b_F_plan 55 = .ok (.i2l, 1) := by decide +kernel
theorem d_F_plan_56 : decode b_F_plan 56 = .ok (.lload 8, 2) := by decide +kernel
theorem d_F_plan_58 : decode b_F_plan 58 = .ok (.lcmp, 1) := by decide +kernel
theorem d_F_plan_59 : decode b_F_plan 59 = .ok (.ifCond .ge 10, 3) := by decide +kernel
theorem d_F_plan_62 : decode b_F_plan 62 = .ok (.lload 6, 2) := by decide +kernel
theorem d_F_plan_64 : decode b_F_plan 64 = .ok (.lconst 1, 1) := by decide +kernel
theorem d_F_plan_65 : decode b_F_plan 65 = .ok (.ladd, 1) := by decide +kernel
theorem d_F_plan_66 : decode b_F_plan 66 = .ok (.goto 5, 3) := by decide +kernel
theorem d_F_plan_69 : decode b_F_plan 69 = .ok (.lload 6, 2) := by decide +kernel
theorem d_F_plan_71 : decode b_F_plan 71 = .ok (.lreturn, 1) := by decide +kernel
theorem d_F_threshold_0 : decode b_F_threshold 0 = .ok (.iload_n 1, 1) := by decide +kernel
theorem d_F_threshold_1 : decode b_F_threshold 1 = .ok (.iconst 1, 1) := by decide +kernel
theorem d_F_threshold_2 : decode b_F_threshold 2 = .ok (.ldc 62, 2) := by decide +kernel
theorem d_F_threshold_4 : decode b_F_threshold 4 = .ok (.invokestatic 47, 3) := by decide +kernel
theorem d_F_threshold_7 : decode b_F_threshold 7 = .ok (.ifCond .ne 5, 3) := by decide +kernel
theorem d_F_threshold_10 : decode b_F_threshold 10 = .ok (.iconst (-1), 1) := by decide +kernel
theorem d_F_threshold_11 : decode b_F_threshold 11 = .ok (.ireturn, 1) := by decide +kernel
theorem d_F_threshold_12 : decode b_F_threshold 12 = .ok (.aload_n 0, 1) := by decide +kernel
theorem d_F_threshold_13 : decode b_F_threshold 13 = .ok (.getfield 42, 3) := by decide +kernel
theorem d_F_threshold_16 : decode b_F_threshold 16 = .ok (.istore_n 2, 1) := by decide +kernel
theorem d_F_threshold_17 : decode b_F_threshold 17 = .ok (.aload_n 0, 1) := by decide +kernel
theorem d_F_threshold_18 : decode b_F_threshold 18 = .ok (.iload_n 1, 1) := by decide +kernel
theorem d_F_threshold_19 : decode b_F_threshold 19 = .ok (.putfield 42, 3) := by decide +kernel
theorem d_F_threshold_22 : decode b_F_threshold 22 = .ok (.iload_n 2, 1) := by decide +kernel
theorem d_F_threshold_23 : decode b_F_threshold 23 = .ok (.ireturn, 1) := by decide +kernel
theorem d_F_blocked_0 : decode b_F_blocked 0 = .ok (.iload_n 1, 1) := by decide +kernel
theorem d_F_blocked_1 : decode b_F_blocked 1 = .ok (.invokestatic 90, 3) := by decide +kernel
theorem d_F_blocked_4 : decode b_F_blocked 4 = .ok (.ifCond .eq 21, 3) := by decide +kernel
theorem d_F_blocked_7 : decode b_F_blocked 7 = .ok (.aload_n 0, 1) := by decide +kernel
theorem d_F_blocked_8 : decode b_F_blocked 8 = .ok (.iload_n 1, 1) := by decide +kernel
theorem d_F_blocked_9 : decode b_F_blocked 9 = .ok (.invokevirtual 159, 3) := by decide +kernel
theorem d_F_blocked_12 : decode b_F_blocked 12 = .ok (.aload_n 0, 1) := by decide +kernel
theorem d_F_blocked_13 : decode b_F_blocked 13 = .ok (.getfield 42, 3) := by decide +kernel
theorem d_F_blocked_16 : decode b_F_blocked 16 = .ok (.i2l, 1) := by decide +kernel
theorem d_F_blocked_17 : decode b_F_blocked 17 = .ok (.lcmp, 1) := by decide +kernel
theorem d_F_blocked_18 : decode b_F_blocked 18 = .ok (.ifCond .lt 7, 3) := by decide +kernel
theorem d_F_blocked_21 : decode b_F_blocked 21 = .ok (.iconst 1, 1) := by decide +kernel
theorem d_F_blocked_22 : decode b_F_blocked 22 = .ok (.goto 4, 3) := by decide +kernel
theorem d_F_blocked_25 : decode b_F_blocked 25 = .ok (.iconst 0, 1) := by decide +kernel
theorem d_F_blocked_26 : decode b_F_blocked 26 = .ok (.ireturn, 1) := by decide +kernel
theorem d_F_debt_0 : decode b_F_debt 0 = .ok (.aload_n 0, 1) := by decide +kernel
theorem d_F_debt_1 : decode b_F_debt 1 = .ok (.getfield 27, 3) := by decide +kernel
theorem d_F_debt_4 : decode b_F_debt 4 = .ok (.iload_n 1, 1) := by decide +kernel
theorem d_F_debt_5 : decode b_F_debt 5 = .ok (.invokevirtual 124, 3) := by decide +kernel
theorem d_F_debt_8 : decode b_F_debt 8 = .ok (.astore_n 3, 1) := by decide +kernel
theorem d_F_debt_9 : decode b_F_debt 9 = .ok (.aload_n 3, 1) := by decide +kernel
theorem d_F_debt_10 : decode b_F_debt 10 = .ok (.ifnonnull 7, 3) := by decide +kernel
theorem d_F_debt_13 : decode b_F_debt 13 = .ok (.ldc2_w 103, 3) := by decide +kernel
theorem d_F_debt_16 : decode b_F_debt 16 = .ok (.lreturn, 1) := by decide +kernel
theorem d_F_debt_17 : decode b_F_debt 17 = .ok (.iload_n 2, 1) := by decide +kernel
theorem d_F_debt_18 : decode b_F_debt 18 = .ok (.tableswitch 78 0 5 #[38, 44, 49, 54, 59, 65], 38) := by decide +kernel
theorem d_F_debt_56 : decode b_F_debt 56 = .ok (.aload_n 3, 1) := by decide +kernel
theorem d_F_debt_57 : decode b_F_debt 57 = .ok (.getfield 152, 3) := by decide +kernel
theorem d_F_debt_60 : decode b_F_debt 60 = .ok (.i2l, 1) := by decide +kernel
theorem d_F_debt_61 : decode b_F_debt 61 = .ok (.lreturn, 1) := by decide +kernel
theorem d_F_debt_62 : decode b_F_debt 62 = .ok (.aload_n 3, 1) := by decide +kernel
theorem d_F_debt_63 : decode b_F_debt 63 = .ok (.getfield 178, 3) := by decide +kernel
theorem d_F_debt_66 : decode b_F_debt 66 = .ok (.lreturn, 1) := by decide +kernel
theorem d_F_debt_67 : decode b_F_debt 67 = .ok (.aload_n 3, 1) := by decide +kernel
theorem d_F_debt_68 : decode b_F_debt 68 = .ok (.getfield 138, 3) := by decide +kernel
theorem d_F_debt_71 : decode b_F_debt 71 = .ok (.lreturn, 1) := by decide +kernel
theorem d_F_debt_72 : decode b_F_debt 72 = .ok (.aload_n 3, 1) := by decide +kernel
theorem d_F_debt_73 : decode b_F_debt 73 = .ok (.getfield 181, 3) := by decide +kernel
theorem d_F_debt_76 : decode b_F_debt 76 = .ok (.lreturn, 1) := by decide +kernel
theorem d_F_debt_77 : decode b_F_debt 77 = .ok (.aload_n 3, 1) := by decide +kernel
theorem d_F_debt_78 : decode b_F_debt 78 = .ok (.getfield 184, 3) := by decide +kernel
theorem d_F_debt_81 : decode b_F_debt 81 = .ok (.i2l, 1) := by decide +kernel
theorem d_F_debt_82 : decode b_F_debt 82 = .ok (.lreturn, 1) := by decide +kernel
theorem d_F_debt_83 : decode b_F_debt 83 = .ok (.aload_n 3, 1) := by decide +kernel
theorem d_F_debt_84 : decode b_F_debt 84 = .ok (.aload_n 3, 1) := by decide +kernel
theorem d_F_debt_85 : decode b_F_debt 85 = .ok (.getfield 181, 3) := by decide +kernel
theorem d_F_debt_88 : decode b_F_debt 88 = .ok (.ldc2_w 187, 3) := by decide +kernel
theorem d_F_debt_91 : decode b_F_debt 91 = .ok (.ladd, 1) := by decide +kernel
theorem d_F_debt_92 : decode b_F_debt 92 = .ok (.invokevirtual 189, 3) := by decide +kernel
theorem d_F_debt_95 : decode b_F_debt 95 = .ok (.lreturn, 1) := by decide +kernel
theorem d_F_debt_96 : decode b_F_debt 96 = .ok (.ldc2_w 103, 3) := by decide +kernel
theorem d_F_debt_99 : decode b_F_debt 99 = .ok (.lreturn, 1) := by decide +kernel
theorem d_F_share_0 : decode b_F_share 0 = .ok (.aload_n 0, 1) := by decide +kernel
theorem d_F_share_1 : decode b_F_share 1 = .ok (.getfield 27, 3) := by decide +kernel
theorem d_F_share_4 : decode b_F_share 4 = .ok (.iload_n 1, 1) := by decide +kernel
theorem d_F_share_5 : decode b_F_share 5 = .ok (.invokevirtual 124, 3) := by decide +kernel
theorem d_F_share_8 : decode b_F_share 8 = .ok (.astore 4, 2) := by decide +kernel
theorem d_F_share_10 : decode b_F_share 10 = .ok (.aload 4, 2) := by decide +kernel
theorem d_F_share_12 : decode b_F_share 12 = .ok (.ifnull 23, 3) := by decide +kernel
theorem d_F_share_15 : decode b_F_share 15 = .ok (.iload_n 3, 1) := by decide +kernel
theorem d_F_share_16 : decode b_F_share 16 = .ok (.iconst 1, 1) := by decide +kernel
theorem d_F_share_17 : decode b_F_share 17 = .ok (.sipush 1000, 3) := by decide +kernel
theorem d_F_share_20 : decode b_F_share 20 = .ok (.invokestatic 47, 3) := by decide +kernel
theorem d_F_share_23 : decode b_F_share 23 = .ok (.ifCond .eq 12, 3) := by decide +kernel
theorem d_F_share_26 : decode b_F_share 26 = .ok (.iload_n 2, 1) := by decide +kernel
theorem d_F_share_27 : decode b_F_share 27 = .ok (.iconst 1, 1) := by decide +kernel
theorem d_F_share_28 : decode b_F_share 28 = .ok (.iload_n 3, 1) := by decide +kernel
theorem d_F_share_29 : decode b_F_share 29 = .ok (.invokestatic 47, 3) := by decide +kernel
theorem d_F_share_32 : decode b_F_share 32 = .ok (.ifCond .ne 7, 3) := by decide +kernel
theorem d_F_share_35 : decode b_F_share 35 = .ok (.ldc2_w 103, 3) := by decide +kernel
theorem d_F_share_38 : decode b_F_share 38 = .ok (.lreturn, 1) := by decide +kernel
theorem d_F_share_39 : decode b_F_share 39 = .ok (.aload 4, 2) := by decide +kernel
theorem d_F_share_41 : decode b_F_share 41 = .ok (.getfield 178, 3) := by decide +kernel
theorem d_F_share_44 : decode b_F_share 44 = .ok (.iload_n 2, 1) := by decide +kernel
theorem d_F_share_45 : decode b_F_share 45 = .ok (.i2l, 1) := by decide +kernel
theorem d_F_share_46 : decode b_F_share 46 = .ok (.lmul, 1) := by decide +kernel
theorem d_F_share_47 : decode b_F_share 47 = .ok (.iload_n 3, 1) := by decide +kernel
theorem d_F_share_48 : decode b_F_share 48 = .ok (.i2l, 1) := by decide +kernel
theorem d_F_share_49 : decode b_F_share 49 = .ok (.ldiv, 1) := by decide +kernel
theorem d_F_share_50 : decode b_F_share 50 = .ok (.lreturn, 1) := by decide +kernel
theorem d_F_isWithin_0 : decode b_F_isWithin 0 = .ok (.iload_n 0, 1) := by decide +kernel
theorem d_F_isWithin_1 : decode b_F_isWithin 1 = .ok (.iload_n 1, 1) := by decide +kernel
theorem d_F_isWithin_2 : decode b_F_isWithin 2 = .ok (.if_icmp .lt 12, 3) := by decide +kernel
theorem d_F_isWithin_5 : decode b_F_isWithin 5 = .ok (.iload_n 0, 1) := by decide +kernel
theorem d_F_isWithin_6 : decode b_F_isWithin 6 = .ok (.iload_n 2, 1) := by decide +kernel
theorem d_F_isWithin_7 : decode b_F_isWithin 7 = .ok (.if_icmp .gt 7, 3) := by decide +kernel
theorem d_F_isWithin_10 : decode b_F_isWithin 10 = .ok (.iconst 1, 1) := by decide +kernel
theorem d_F_isWithin_11 : decode b_F_isWithin 11 = .ok (.goto 4, 3) := by decide +kernel
theorem d_F_isWithin_14 : decode b_F_isWithin 14 = .ok (.iconst 0, 1) := by decide +kernel
theorem d_F_isWithin_15 : decode b_F_isWithin 15 = .ok (.ireturn, 1) := by decide +kernel
theorem d_F_isDay_0 : decode b_F_isDay 0 = .ok (.lload_n 0, 1) := by decide +kernel
theorem d_F_isDay_1 : decode b_F_isDay 1 = .ok (.lconst 0, 1) := by decide +kernel
theorem d_F_isDay_2 : decode b_F_isDay 2 = .ok (.lcmp, 1) := by decide +kernel
theorem d_F_isDay_3 : decode b_F_isDay 3 = .ok (.ifCond .lt 15, 3) := by decide +kernel
theorem d_F_isDay_6 : decode b_F_isDay 6 = .ok (.lload_n 0, 1) := by decide +kernel
theorem d_F_isDay_7 : decode b_F_isDay 7 = .ok (.ldc2_w 163, 3) := by decide +kernel
theorem d_F_isDay_10 : decode b_F_isDay 10 = .ok (.lcmp, 1) := by decide +kernel
theorem d_F_isDay_11 : decode b_F_isDay 11 = .ok (.ifCond .gt 7, 3) := by decide +kernel
theorem d_F_isDay_14 : decode b_F_isDay 14 = .ok (.iconst 1, 1) := by decide +kernel
theorem d_F_isDay_15 : decode b_F_isDay 15 = .ok (.goto 4, 3) := by decide +kernel
theorem d_F_isDay_18 : decode b_F_isDay 18 = .ok (.iconst 0, 1) := by decide +kernel
theorem d_F_isDay_19 : decode b_F_isDay 19 = .ok (.ireturn, 1) := by decide +kernel
theorem d_F_isPerson_0 : decode b_F_isPerson 0 = .ok (.iload_n 0, 1) := by decide +kernel
theorem d_F_isPerson_1 : decode b_F_isPerson 1 = .ok (.iconst 0, 1) := by decide +kernel
theorem d_F_isPerson_2 : decode b_F_isPerson 2 = .ok (.bipush 29, 2) := by decide +kernel
theorem d_F_isPerson_4 : decode b_F_isPerson 4 = .ok (.invokestatic 47, 3) := by decide +kernel
theorem d_F_isPerson_7 : decode b_F_isPerson 7 = .ok (.ireturn, 1) := by decide +kernel
theorem d_F_isItem_0 : decode b_F_isItem 0 = .ok (.iload_n 0, 1) := by decide +kernel
theorem d_F_isItem_1 : decode b_F_isItem 1 = .ok (.iconst 0, 1) := by decide +kernel
theorem d_F_isItem_2 : decode b_F_isItem 2 = .ok (.bipush 59, 2) := by decide +kernel
theorem d_F_isItem_4 : decode b_F_isItem 4 = .ok (.invokestatic 47, 3) := by decide +kernel
theorem d_F_isItem_7 : decode b_F_isItem 7 = .ok (.ireturn, 1) := by decide +kernel
theorem d_F_ruleNumbered_0 : decode b_F_ruleNumbered 0 = .ok (.iload_n 1, 1) := by decide +kernel
theorem d_F_ruleNumbered_1 : decode b_F_ruleNumbered 1 = .ok (.iconst 0, 1) := by decide +kernel
theorem d_F_ruleNumbered_2 : decode b_F_ruleNumbered 2 = .ok (.aload_n 0, 1) := by decide +kernel
theorem d_F_ruleNumbered_3 : decode b_F_ruleNumbered 3 = .ok (.getfield 52, 3) := by decide +kernel
theorem d_F_ruleNumbered_6 : decode b_F_ruleNumbered 6 = .ok (.iconst 1, 1) := by decide +kernel
theorem d_F_ruleNumbered_7 : decode b_F_ruleNumbered 7 = .ok (.isub, 1) := by decide +kernel
theorem d_F_ruleNumbered_8 : decode b_F_ruleNumbered 8 = .ok (.invokestatic 47, 3) := by decide +kernel
theorem d_F_ruleNumbered_11 : decode b_F_ruleNumbered 11 = .ok (.ifCond .eq 12, 3) := by decide +kernel
theorem d_F_ruleNumbered_14 : decode b_F_ruleNumbered 14 = .ok (.aload_n 0, 1) := by decide +kernel
theorem d_F_ruleNumbered_15 : decode b_F_ruleNumbered 15 = .ok (.getfield 11, 3) := by decide +kernel
theorem d_F_ruleNumbered_18 : decode b_F_ruleNumbered 18 = .ok (.iload_n 1, 1) := by decide +kernel
theorem d_F_ruleNumbered_19 : decode b_F_ruleNumbered 19 = .ok (.aaload, 1) := by decide +kernel
theorem d_F_ruleNumbered_20 : decode b_F_ruleNumbered 20 = .ok (.goto 4, 3) := by decide +kernel
theorem d_F_ruleNumbered_23 : decode b_F_ruleNumbered 23 = .ok (.aconst_null, 1) := by decide +kernel
theorem d_F_ruleNumbered_24 : decode b_F_ruleNumbered 24 = .ok (.areturn, 1) := by decide +kernel
theorem d_F_lentLoanNumbered_0 : decode b_F_lentLoanNumbered 0 = .ok (.iload_n 1, 1) := by decide +kernel
theorem d_F_lentLoanNumbered_1 : decode b_F_lentLoanNumbered 1 = .ok (.iconst 1, 1) := by decide +kernel
theorem d_F_lentLoanNumbered_2 : decode b_F_lentLoanNumbered 2 = .ok (.aload_n 0, 1) := by decide +kernel
theorem d_F_lentLoanNumbered_3 : decode b_F_lentLoanNumbered 3 = .ok (.getfield 93, 3) := by decide +kernel
theorem d_F_lentLoanNumbered_6 : decode b_F_lentLoanNumbered 6 = .ok (.invokestatic 47, 3) := by decide +kernel
theorem d_F_lentLoanNumbered_9 : decode b_F_lentLoanNumbered 9 = .ok (.ifCond .ne 5, 3) := by decide +kernel
theorem d_F_lentLoanNumbered_12 : decode b_F_lentLoanNumbered 12 = .ok (.aconst_null, 1) := by decide +kernel
theorem d_F_lentLoanNumbered_13 : decode b_F_lentLoanNumbered 13 = .ok (.areturn, 1) := by decide +kernel
theorem d_F_lentLoanNumbered_14 : decode b_F_lentLoanNumbered 14 = .ok (.aload_n 0, 1) := by decide +kernel
theorem d_F_lentLoanNumbered_15 : decode b_F_lentLoanNumbered 15 = .ok (.getfield 17, 3) := by decide +kernel
theorem d_F_lentLoanNumbered_18 : decode b_F_lentLoanNumbered 18 = .ok (.iload_n 1, 1) := by decide +kernel
theorem d_F_lentLoanNumbered_19 : decode b_F_lentLoanNumbered 19 = .ok (.iconst 1, 1) := by decide +kernel
theorem d_F_lentLoanNumbered_20 : decode b_F_lentLoanNumbered 20 = .ok (.isub, 1) := by decide +kernel
theorem d_F_lentLoanNumbered_21 : decode b_F_lentLoanNumbered 21 = .ok (.aaload, 1) := by decide +kernel
theorem d_F_lentLoanNumbered_22 : decode b_F_lentLoanNumbered 22 = .ok (.astore_n 2, 1) := by decide +kernel
theorem d_F_lentLoanNumbered_23 : decode b_F_lentLoanNumbered 23 = .ok (.aload_n 2, 1) := by decide +kernel
theorem d_F_lentLoanNumbered_24 : decode b_F_lentLoanNumbered 24 = .ok (.ifnull 14, 3) := by decide +kernel
theorem d_F_lentLoanNumbered_27 : decode b_F_lentLoanNumbered 27 = .ok (.aload_n 2, 1) := by decide +kernel
theorem d_F_lentLoanNumbered_28 : decode b_F_lentLoanNumbered 28 = .ok (.invokevirtual 192, 3) := by decide +kernel
theorem d_F_lentLoanNumbered_31 : decode b_F_lentLoanNumbered 31 = .ok (.ifCond .eq 7, 3) := by decide +kernel
theorem d_F_lentLoanNumbered_34 : decode b_F_lentLoanNumbered 34 = .ok (.aload_n 2, 1) := by decide +kernel
theorem d_F_lentLoanNumbered_35 : decode b_F_lentLoanNumbered 35 = .ok (.goto 4, 3) := by decide +kernel
theorem d_F_lentLoanNumbered_38 : decode b_F_lentLoanNumbered 38 = .ok (.aconst_null, 1) := by decide +kernel
theorem d_F_lentLoanNumbered_39 : decode b_F_lentLoanNumbered 39 = .ok (.areturn, 1) := by decide +kernel
theorem d_F_overdueCents_0 : decode b_F_overdueCents 0 = .ok (.aload_n 1, 1) := by decide +kernel
theorem d_F_overdueCents_1 : decode b_F_overdueCents 1 = .ok (.getfield 195, 3) := by decide +kernel
theorem d_F_overdueCents_4 : decode b_F_overdueCents 4 = .ok (.aload_n 0, 1) := by decide +kernel
theorem d_F_overdueCents_5 : decode b_F_overdueCents 5 = .ok (.getfield 34, 3) := by decide +kernel
theorem d_F_overdueCents_8 : decode b_F_overdueCents 8 = .ok (.aload_n 1, 1) := by decide +kernel
theorem d_F_overdueCents_9 : decode b_F_overdueCents 9 = .ok (.getfield 199, 3) := by decide +kernel
theorem d_F_overdueCents_12 : decode b_F_overdueCents 12 = .ok (.lload_n 2, 1) := by decide +kernel
theorem d_F_overdueCents_13 : decode b_F_overdueCents 13 = .ok (.invokevirtual 202, 3) := by decide +kernel
theorem d_F_overdueCents_16 : decode b_F_overdueCents 16 = .ok (.invokevirtual 205, 3) := by decide +kernel
theorem d_F_overdueCents_19 : decode b_F_overdueCents 19 = .ok (.lreturn, 1) := by decide +kernel
theorem d_F_endLoan_0 : decode b_F_endLoan 0 = .ok (.aload_n 1, 1) := by decide +kernel
theorem d_F_endLoan_1 : decode b_F_endLoan 1 = .ok (.iconst 1, 1) := by decide +kernel
theorem d_F_endLoan_2 : decode b_F_endLoan 2 = .ok (.putfield 208, 3) := by decide +kernel
theorem d_F_endLoan_5 : decode b_F_endLoan 5 = .ok (.aload_n 1, 1) := by decide +kernel
theorem d_F_endLoan_6 : decode b_F_endLoan 6 = .ok (.getfield 212, 3) := by decide +kernel
theorem d_F_endLoan_9 : decode b_F_endLoan 9 = .ok (.invokestatic 86, 3) := by decide +kernel
theorem d_F_endLoan_12 : decode b_F_endLoan 12 = .ok (.ifCond .eq 13, 3) := by decide +kernel
theorem d_F_endLoan_15 : decode b_F_endLoan 15 = .ok (.aload_n 0, 1) := by decide +kernel
theorem d_F_endLoan_16 : decode b_F_endLoan 16 = .ok (.getfield 21, 3) := by decide +kernel
theorem d_F_endLoan_19 : decode b_F_endLoan 19 = .ok (.aload_n 1, 1) := by decide +kernel
theorem d_F_endLoan_20 : decode b_F_endLoan 20 = .ok (.getfield 212, 3) := by decide +kernel
theorem d_F_endLoan_23 : decode b_F_endLoan 23 = .ok (.aconst_null, 1) := by decide +kernel
theorem d_F_endLoan_24 : decode b_F_endLoan 24 = .ok (.aastore, 1) := by decide +kernel
theorem d_F_endLoan_25 : decode b_F_endLoan 25 = .ok (.return_, 1) := by decide +kernel
theorem d_F_chargeOverdue_0 : decode b_F_chargeOverdue 0 = .ok (.lload_n 2, 1) := by decide +kernel
theorem d_F_chargeOverdue_1 : decode b_F_chargeOverdue 1 = .ok (.lconst 0, 1) := by decide +kernel
theorem d_F_chargeOverdue_2 : decode b_F_chargeOverdue 2 = .ok (.lcmp, 1) := by decide +kernel
theorem d_F_chargeOverdue_3 : decode b_F_chargeOverdue 3 = .ok (.ifCond .le 18, 3) := by decide +kernel
theorem d_F_chargeOverdue_6 : decode b_F_chargeOverdue 6 = .ok (.aload_n 0, 1) := by decide +kernel
theorem d_F_chargeOverdue_7 : decode b_F_chargeOverdue 7 = .ok (.getfield 27, 3) := by decide +kernel
theorem d_F_chargeOverdue_10 : decode b_F_chargeOverdue 10 = .ok (.aload_n 1, 1) := by decide +kernel
theorem d_F_chargeOverdue_11 : decode b_F_chargeOverdue 11 = .ok (.iconst 0, 1) := by decide +kernel
theorem d_F_chargeOverdue_12 : decode b_F_chargeOverdue 12 = .ok (.lload_n 2, 1) := by decide +kernel
theorem d_F_chargeOverdue_13 : decode b_F_chargeOverdue 13 = .ok (.lload 4, 2) := by decide +kernel
theorem d_F_chargeOverdue_15 : decode b_F_chargeOverdue 15 = .ok (.invokevirtual 121, 3) := by decide +kernel
theorem d_F_chargeOverdue_18 : decode b_F_chargeOverdue 18 = .ok (.goto 4, 3) := by decide +kernel
theorem d_F_chargeOverdue_21 : decode b_F_chargeOverdue 21 = .ok (.iconst 0, 1) := by decide +kernel
theorem d_F_chargeOverdue_22 : decode b_F_chargeOverdue 22 = .ok (.ireturn, 1) := by decide +kernel
theorem d_F_addCredit_0 : decode b_F_addCredit 0 = .ok (.iload_n 1, 1) := by decide +kernel
theorem d_F_addCredit_1 : decode b_F_addCredit 1 = .ok (.invokestatic 90, 3) := by decide +kernel
theorem d_F_addCredit_4 : decode b_F_addCredit 4 = .ok (.ifCond .eq 13, 3) := by decide +kernel
theorem d_F_addCredit_7 : decode b_F_addCredit 7 = .ok (.aload_n 0, 1) := by decide +kernel
theorem d_F_addCredit_8 : decode b_F_addCredit 8 = .ok (.getfield 38, 3) := by decide +kernel
theorem d_F_addCredit_11 : decode b_F_addCredit 11 = .ok (.iload_n 1, 1) := by decide +kernel
theorem d_F_addCredit_12 : decode b_F_addCredit 12 = .ok (.dup2, 1) := by decide +kernel
theorem d_F_addCredit_13 : decode b_F_addCredit 13 = .ok (.laload, 1) := by decide +kernel
theorem d_F_addCredit_14 : decode b_F_addCredit 14 = .ok (.lload_n 2, 1) := by decide +kernel
theorem d_F_addCredit_15 : decode b_F_addCredit 15 = .ok (.ladd, 1) := by decide +kernel
theorem d_F_addCredit_16 : decode b_F_addCredit 16 = .ok (.lastore, 1) := by decide +kernel
theorem d_F_addCredit_17 : decode b_F_addCredit 17 = .ok (.return_, 1) := by decide +kernel
theorem d_F_balance_0 : decode b_F_balance 0 = .ok (.iload_n 1, 1) := by decide +kernel
theorem d_F_balance_1 : decode b_F_balance 1 = .ok (.invokestatic 90, 3) := by decide +kernel
theorem d_F_balance_4 : decode b_F_balance 4 = .ok (.ifCond .eq 21, 3) := by decide +kernel
theorem d_F_balance_7 : decode b_F_balance 7 = .ok (.aload_n 0, 1) := by decide +kernel
theorem d_F_balance_8 : decode b_F_balance 8 = .ok (.getfield 27, 3) := by decide +kernel
theorem d_F_balance_11 : decode b_F_balance 11 = .ok (.iload_n 1, 1) := by decide +kernel
theorem d_F_balance_12 : decode b_F_balance 12 = .ok (.invokevirtual 175, 3) := by decide +kernel
theorem d_F_balance_15 : decode b_F_balance 15 = .ok (.aload_n 0, 1) := by decide +kernel
theorem d_F_balance_16 : decode b_F_balance 16 = .ok (.getfield 38, 3) := by decide +kernel
theorem d_F_balance_19 : decode b_F_balance 19 = .ok (.iload_n 1, 1) := by decide +kernel
theorem d_F_balance_20 : decode b_F_balance 20 = .ok (.laload, 1) := by decide +kernel
theorem d_F_balance_21 : decode b_F_balance 21 = .ok (.lsub, 1) := by decide +kernel
theorem d_F_balance_22 : decode b_F_balance 22 = .ok (.goto 4, 3) := by decide +kernel
theorem d_F_balance_25 : decode b_F_balance 25 = .ok (.lconst 0, 1) := by decide +kernel
theorem d_F_balance_26 : decode b_F_balance 26 = .ok (.lreturn, 1) := by decide +kernel
theorem d_C_init_0 : decode b_C_init 0 = .ok (.aload_n 0, 1) := by decide +kernel
theorem d_C_init_1 : decode b_C_init 1 = .ok (.invokespecial 3, 3) := by decide +kernel
theorem d_C_init_4 : decode b_C_init 4 = .ok (.aload_n 0, 1) := by decide +kernel
theorem d_C_init_5 : decode b_C_init 5 = .ok (.bipush 100, 2) := by decide +kernel
theorem d_C_init_7 : decode b_C_init 7 = .ok (.newarray .long, 2) := by decide +kernel
theorem d_C_init_9 : decode b_C_init 9 = .ok (.putfield 9, 3) := by decide +kernel
theorem d_C_init_12 : decode b_C_init 12 = .ok (.return_, 1) := by decide +kernel
theorem d_C_add_0 : decode b_C_add 0 = .ok (.aload_n 0, 1) := by decide +kernel
theorem d_C_add_1 : decode b_C_add 1 = .ok (.getfield 15, 3) := by decide +kernel
theorem d_C_add_4 : decode b_C_add 4 = .ok (.bipush 100, 2) := by decide +kernel
theorem d_C_add_6 : decode b_C_add 6 = .ok (.if_icmp .ge 14, 3) := by decide +kernel
theorem d_C_add_9 : decode b_C_add 9 = .ok (.aload_n 0, 1) := by decide +kernel
theorem d_C_add_10 : decode b_C_add 10 = .ok (.lload_n 1, 1) := by decide +kernel
theorem d_C_add_11 : decode b_C_add 11 = .ok (.lconst 1, 1) := by decide +kernel
theorem d_C_add_12 : decode b_C_add 12 = .ok (.lsub, 1) := by decide +kernel
theorem d_C_add_13 : decode b_C_add 13 = .ok (.lload_n 1, 1) := by decide +kernel
theorem d_C_add_14 : decode b_C_add 14 = .ok (.invokevirtual 19, 3) := by decide +kernel
theorem d_C_add_17 : decode b_C_add 17 = .ok (.ifCond .le 5, 3) := by decide +kernel
theorem d_C_add_20 : decode b_C_add 20 = .ok (.iconst 0, 1) := by decide +kernel
theorem d_C_add_21 : decode b_C_add 21 = .ok (.ireturn, 1) := by decide +kernel
theorem d_C_add_22 : decode b_C_add 22 = .ok (.aload_n 0, 1) := by decide +kernel
theorem d_C_add_23 : decode b_C_add 23 = .ok (.getfield 9, 3) := by decide +kernel
theorem d_C_add_26 : decode b_C_add 26 = .ok (.aload_n 0, 1) := by decide +kernel
theorem d_C_add_27 : decode b_C_add 27 = .ok (.getfield 15, 3) := by decide +kernel
theorem d_C_add_30 : decode b_C_add 30 = .ok (.lload_n 1, 1) := by decide +kernel
theorem d_C_add_31 : decode b_C_add 31 = .ok (.lastore, 1) := by decide +kernel
theorem d_C_add_32 : decode b_C_add 32 = .ok (.aload_n 0, 1) := by decide +kernel
theorem d_C_add_33 : decode b_C_add 33 = .ok (.dup, 1) := by decide +kernel
theorem d_C_add_34 : decode b_C_add 34 = .ok (.getfield 15, 3) := by decide +kernel
theorem d_C_add_37 : decode b_C_add 37 = .ok (.iconst 1, 1) := by decide +kernel
theorem d_C_add_38 : decode b_C_add 38 = .ok (.iadd, 1) := by decide +kernel
theorem d_C_add_39 : decode b_C_add 39 = .ok (.putfield 15, 3) := by decide +kernel
theorem d_C_add_42 : decode b_C_add 42 = .ok (.iconst 1, 1) := by decide +kernel
theorem d_C_add_43 : decode b_C_add 43 = .ok (.ireturn, 1) := by decide +kernel
theorem d_C_countBetween_0 : decode b_C_countBetween 0 = .ok (.iconst 0, 1) := by decide +kernel
theorem d_C_countBetween_1 : decode b_C_countBetween 1 = .ok (.istore 5, 2) := by decide +kernel
theorem d_C_countBetween_3 : decode b_C_countBetween 3 = .ok (.iconst 0, 1) := by decide +kernel
theorem d_C_countBetween_4 : decode b_C_countBetween 4 = .ok (.istore 6, 2) := by decide +kernel
theorem d_C_countBetween_6 : decode b_C_countBetween 6 = .ok (.iload 6, 2) := by decide +kernel
theorem d_C_countBetween_8 : decode b_C_countBetween 8 = .ok (.aload_n 0, 1) := by decide +kernel
theorem d_C_countBetween_9 : decode b_C_countBetween 9 = .ok (.getfield 15, 3) := by decide +kernel
theorem d_C_countBetween_12 : decode b_C_countBetween 12 = .ok (.if_icmp .ge 36, 3) := by decide +kernel
theorem d_C_countBetween_15 : decode b_C_countBetween 15 = .ok (.aload_n 0, 1) := by decide +kernel
theorem d_C_countBetween_16 : decode b_C_countBetween 16 = .ok (.getfield 9, 3) := by decide +kernel
theorem d_C_countBetween_19 : decode b_C_countBetween 19 = .ok (.iload 6, 2) := by decide +kernel
theorem d_C_countBetween_21 : decode b_C_countBetween 21 = .ok (.laload, 1) := by decide +kernel
theorem d_C_countBetween_22 : decode b_C_countBetween 22 = .ok (.lload_n 1, 1) := by decide +kernel
theorem d_C_countBetween_23 : decode b_C_countBetween 23 = .ok (.lcmp, 1) := by decide +kernel
theorem d_C_countBetween_24 : decode b_C_countBetween 24 = .ok (.ifCond .le 18, 3) := by decide +kernel
theorem d_C_countBetween_27 : decode b_C_countBetween 27 = .ok (.aload_n 0, 1) := by decide +kernel
theorem d_C_countBetween_28 : decode b_C_countBetween 28 = .ok (.getfield 9, 3) := by decide +kernel
theorem d_C_countBetween_31 : decode b_C_countBetween 31 = .ok (.iload 6, 2) := by decide +kernel
theorem d_C_countBetween_33 : decode b_C_countBetween 33 = .ok (.laload, 1) := by decide +kernel
theorem d_C_countBetween_34 : decode b_C_countBetween 34 = .ok (.lload_n 3, 1) := by decide +kernel
theorem d_C_countBetween_35 : decode b_C_countBetween 35 = .ok (.lcmp, 1) := by decide +kernel
theorem d_C_countBetween_36 : decode b_C_countBetween 36 = .ok (.ifCond .gt 6, 3) := by decide +kernel
theorem d_C_countBetween_39 : decode b_C_countBetween 39 = .ok (.iinc 5 1, 3) := by decide +kernel
theorem d_C_countBetween_42 : decode b_C_countBetween 42 = .ok (.iinc 6 1, 3) := by decide +kernel
theorem d_C_countBetween_45 : decode b_C_countBetween 45 = .ok (.goto (-39), 3) := by decide +kernel
theorem d_C_countBetween_48 : decode b_C_countBetween 48 = .ok (.iload 5, 2) := by decide +kernel
theorem d_C_countBetween_50 : decode b_C_countBetween 50 = .ok (.ireturn, 1) := by decide +kernel
theorem d_C_openDays_0 : decode b_C_openDays 0 = .ok (.lload_n 3, 1) := by decide +kernel
theorem d_C_openDays_1 : decode b_C_openDays 1 = .ok (.lload_n 1, 1) := by decide +kernel
theorem d_C_openDays_2 : decode b_C_openDays 2 = .ok (.lcmp, 1) := by decide +kernel
theorem d_C_openDays_3 : decode b_C_openDays 3 = .ok (.ifCond .le 17, 3) := by decide +kernel
theorem d_C_openDays_6 : decode b_C_openDays 6 = .ok (.lload_n 3, 1) := by decide +kernel
theorem d_C_openDays_7 : decode b_C_openDays 7 = .ok (.lload_n 1, 1) := by decide +kernel
theorem d_C_openDays_8 : decode b_C_openDays 8 = .ok (.lsub, 1) := by decide +kernel
theorem d_C_openDays_9 : decode b_C_openDays 9 = .ok (.aload_n 0, 1) := by decide +kernel
theorem d_C_openDays_10 : decode b_C_openDays 10 = .ok (.lload_n 1, 1) := by decide +kernel
theorem d_C_openDays_11 : decode b_C_openDays 11 = .ok (.lload_n 3, 1) := by decide +kernel
theorem d_C_openDays_12 : decode b_C_openDays 12 = .ok (.invokevirtual 19, 3) := by decide +kernel
theorem d_C_openDays_15 : decode b_C_openDays 15 = .ok (.i2l, 1) := by decide +kernel
theorem d_C_openDays_16 : decode b_C_openDays 16 = .ok (.lsub, 1) := by decide +kernel
theorem d_C_openDays_17 : decode b_C_openDays 17 = .ok (.goto 4, 3) := by decide +kernel
theorem d_C_openDays_20 : decode b_C_openDays 20 = .ok (.lconst 0, 1) := by decide +kernel
theorem d_C_openDays_21 : decode b_C_openDays 21 = .ok (.lreturn, 1) := by decide +kernel
theorem d_D_init_0 : decode b_D_init 0 = .ok (.aload_n 0, 1) := by decide +kernel
theorem d_D_init_1 : decode b_D_init 1 = .ok (.invokespecial 3, 3) := by decide +kernel
theorem d_D_init_4 : decode b_D_init 4 = .ok (.aload_n 0, 1) := by decide +kernel
theorem d_D_init_5 : decode b_D_init 5 = .ok (.aload_n 1, 1) := by decide +kernel
theorem d_D_init_6 : decode b_D_init 6 = .ok (.getfield 9, 3) := by decide +kernel
theorem d_D_init_9 : decode b_D_init 9 = .ok (.putfield 15, 3) := by decide +kernel
theorem d_D_init_12 : decode b_D_init 12 = .ok (.aload_n 0, 1) := by decide +kernel
theorem d_D_init_13 : decode b_D_init 13 = .ok (.aload_n 1, 1) := by decide +kernel
theorem d_D_init_14 : decode b_D_init 14 = .ok (.getfield 18, 3) := by decide +kernel
theorem d_D_init_17 : decode b_D_init 17 = .ok (.putfield 22, 3) := by decide +kernel
theorem d_D_init_20 : decode b_D_init 20 = .ok (.aload_n 0, 1) := by decide +kernel
theorem d_D_init_21 : decode b_D_init 21 = .ok (.iload_n 2, 1) := by decide +kernel
theorem d_D_init_22 : decode b_D_init 22 = .ok (.putfield 23, 3) := by decide +kernel
theorem d_D_init_25 : decode b_D_init 25 = .ok (.aload_n 0, 1) := by decide +kernel
theorem d_D_init_26 : decode b_D_init 26 = .ok (.lload_n 3, 1) := by decide +kernel
theorem d_D_init_27 : decode b_D_init 27 = .ok (.putfield 26, 3) := by decide +kernel
theorem d_D_init_30 : decode b_D_init 30 = .ok (.aload_n 0, 1) := by decide +kernel
theorem d_D_init_31 : decode b_D_init 31 = .ok (.lload 5, 2) := by decide +kernel
theorem d_D_init_33 : decode b_D_init 33 = .ok (.putfield 30, 3) := by decide +kernel
theorem d_D_init_36 : decode b_D_init 36 = .ok (.aload_n 0, 1) := by decide +kernel
theorem d_D_init_37 : decode b_D_init 37 = .ok (.lload_n 3, 1) := by decide +kernel
theorem d_D_init_38 : decode b_D_init 38 = .ok (.putfield 33, 3) := by decide +kernel
theorem d_D_init_41 : decode b_D_init 41 = .ok (.return_, 1) := by decide +kernel
theorem d_D_take_0 : decode b_D_take 0 = .ok (.lload_n 1, 1) := by decide +kernel
theorem d_D_take_1 : decode b_D_take 1 = .ok (.aload_n 0, 1) := by decide +kernel
theorem d_D_take_2 : decode b_D_take 2 = .ok (.getfield 33, 3) := by decide +kernel
theorem d_D_take_5 : decode b_D_take 5 = .ok (.invokestatic 36, 3) := by decide +kernel
theorem d_D_take_8 : decode b_D_take 8 = .ok (.lstore_n 3, 1) := by decide +kernel
theorem d_D_take_9 : decode b_D_take 9 = .ok (.aload_n 0, 1) := by decide +kernel
theorem d_D_take_10 : decode b_D_take 10 = .ok (.dup, 1) := by decide +kernel
theorem d_D_take_11 : decode b_D_take 11 = .ok (.getfield 33, 3) := by decide +kernel
theorem d_D_take_14 : decode b_D_take 14 = .ok (.lload_n 3, 1) := by decide +kernel
theorem d_D_take_15 : decode b_D_take 15 = .ok (.lsub, 1) := by decide +kernel
theorem d_D_take_16 : decode b_D_take 16 = .ok (.putfield 33, 3) := by decide +kernel
theorem d_D_take_19 : decode b_D_take 19 = .ok (.aload_n 0, 1) := by decide +kernel
theorem d_D_take_20 : decode b_D_take 20 = .ok (.dup, 1) := by decide +kernel
theorem d_D_take_21 : decode b_D_take 21 = .ok (.getfield 42, 3) := by decide +kernel
theorem d_D_take_24 : decode b_D_take 24 = .ok (.lload_n 3, 1) := by decide +kernel
theorem d_D_take_25 : decode b_D_take 25 = .ok (.ladd, 1) := by decide +kernel
theorem d_D_take_26 : decode b_D_take 26 = .ok (.putfield 42, 3) := by decide +kernel
theorem d_D_take_29 : decode b_D_take 29 = .ok (.lload_n 3, 1) := by decide +kernel
theorem d_D_take_30 : decode b_D_take 30 = .ok (.lreturn, 1) := by decide +kernel
theorem d_D_interestAt_0 : decode b_D_interestAt 0 = .ok (.lload_n 1, 1) := by decide +kernel
theorem d_D_interestAt_1 : decode b_D_interestAt 1 = .ok (.aload_n 0, 1) := by decide +kernel
theorem d_D_interestAt_2 : decode b_D_interestAt 2 = .ok (.getfield 30, 3) := by decide +kernel
theorem d_D_interestAt_5 : decode b_D_interestAt 5 = .ok (.lcmp, 1) := by decide +kernel
theorem d_D_interestAt_6 : decode b_D_interestAt 6 = .ok (.ifCond .le 27, 3) := by decide +kernel
theorem d_D_interestAt_9 : decode b_D_interestAt 9 = .ok (.aload_n 0, 1) := by decide +kernel
theorem d_D_interestAt_10 : decode b_D_interestAt 10 = .ok (.getfield 22, 3) := by decide +kernel
theorem d_D_interestAt_13 : decode b_D_interestAt 13 = .ok (.aload_n 0, 1) := by decide +kernel
theorem d_D_interestAt_14 : decode b_D_interestAt 14 = .ok (.getfield 33, 3) := by decide +kernel
theorem d_D_interestAt_17 : decode b_D_interestAt 17 = .ok (.lload_n 1, 1) := by decide +kernel
theorem d_D_interestAt_18 : decode b_D_interestAt 18 = .ok (.aload_n 0, 1) := by decide +kernel
theorem d_D_interestAt_19 : decode b_D_interestAt 19 = .ok (.getfield 30, 3) := by decide +kernel
theorem d_D_interestAt_22 : decode b_D_interestAt 22 = .ok (.lsub, 1) := by decide +kernel
theorem d_D_interestAt_23 : decode b_D_interestAt 23 = .ok (.ldc2_w 45, 3) := by decide +kernel
theorem d_D_interestAt_26 : decode b_D_interestAt 26 = .ok (.ldiv, 1) := by decide +kernel
theorem d_D_interestAt_27 : decode b_D_interestAt 27 = .ok (.invokevirtual 47, 3) := by decide +kernel
theorem d_D_interestAt_30 : decode b_D_interestAt 30 = .ok (.goto 4, 3) := by decide +kernel
theorem d_D_interestAt_33 : decode b_D_interestAt 33 = .ok (.lconst 0, 1) := by decide +kernel
theorem d_D_interestAt_34 : decode b_D_interestAt 34 = .ok (.lreturn, 1) := by decide +kernel
theorem d_B_init_0 : decode b_B_init 0 = .ok (.aload_n 0, 1) := by decide +kernel
theorem d_B_init_1 : decode b_B_init 1 = .ok (.invokespecial 3, 3) := by decide +kernel
theorem d_B_init_4 : decode b_B_init 4 = .ok (.aload_n 0, 1) := by decide +kernel
theorem d_B_init_5 : decode b_B_init 5 = .ok (.sipush 200, 3) := by decide +kernel
theorem d_B_init_8 : decode b_B_init 8 = .ok (.anewarray 9, 3) := by decide +kernel
theorem d_B_init_11 : decode b_B_init 11 = .ok (.putfield 11, 3) := by decide +kernel
theorem d_B_init_14 : decode b_B_init 14 = .ok (.aload_n 0, 1) := by decide +kernel
theorem d_B_init_15 : decode b_B_init 15 = .ok (.sipush 200, 3) := by decide +kernel
theorem d_B_init_18 : decode b_B_init 18 = .ok (.anewarray 9, 3) := by decide +kernel
theorem d_B_init_21 : decode b_B_init 21 = .ok (.putfield 17, 3) := by decide +kernel
theorem d_B_init_24 : decode b_B_init 24 = .ok (.return_, 1) := by decide +kernel
theorem d_B_isFull_0 : decode b_B_isFull 0 = .ok (.aload_n 0, 1) := by decide +kernel
theorem d_B_isFull_1 : decode b_B_isFull 1 = .ok (.getfield 20, 3) := by decide +kernel
theorem d_B_isFull_4 : decode b_B_isFull 4 = .ok (.sipush 200, 3) := by decide +kernel
theorem d_B_isFull_7 : decode b_B_isFull 7 = .ok (.if_icmp .lt 7, 3) := by decide +kernel
theorem d_B_isFull_10 : decode b_B_isFull 10 = .ok (.iconst 1, 1) := by decide +kernel
theorem d_B_isFull_11 : decode b_B_isFull 11 = .ok (.goto 4, 3) := by decide +kernel
theorem d_B_isFull_14 : decode b_B_isFull 14 = .ok (.iconst 0, 1) := by decide +kernel
theorem d_B_isFull_15 : decode b_B_isFull 15 = .ok (.ireturn, 1) := by decide +kernel
theorem d_B_numbered_0 : decode b_B_numbered 0 = .ok (.iload_n 1, 1) := by decide +kernel
theorem d_B_numbered_1 : decode b_B_numbered 1 = .ok (.iconst 1, 1) := by decide +kernel
theorem d_B_numbered_2 : decode b_B_numbered 2 = .ok (.aload_n 0, 1) := by decide +kernel
theorem d_B_numbered_3 : decode b_B_numbered 3 = .ok (.getfield 20, 3) := by decide +kernel
theorem d_B_numbered_6 : decode b_B_numbered 6 = .ok (.invokestatic 24, 3) := by decide +kernel
theorem d_B_numbered_9 : decode b_B_numbered 9 = .ok (.ifCond .eq 14, 3) := by decide +kernel
theorem d_B_numbered_12 : decode b_B_numbered 12 = .ok (.aload_n 0, 1) := by decide +kernel
theorem d_B_numbered_13 : decode b_B_numbered 13 = .ok (.getfield 11, 3) := by decide +kernel
theorem d_B_numbered_16 : decode b_B_numbered 16 = .ok (.iload_n 1, 1) := by decide +kernel
theorem d_B_numbered_17 : decode b_B_numbered 17 = .ok (.iconst 1, 1) := by decide +kernel
theorem d_B_numbered_18 : decode b_B_numbered 18 = .ok (.isub, 1) := by decide +kernel
theorem d_B_numbered_19 : decode b_B_numbered 19 = .ok (.aaload, 1) := by decide +kernel
theorem d_B_numbered_20 : decode b_B_numbered 20 = .ok (.goto 4, 3) := by decide +kernel
theorem d_B_numbered_23 : decode b_B_numbered 23 = .ok (.aconst_null, 1) := by decide +kernel
theorem d_B_numbered_24 : decode b_B_numbered 24 = .ok (.areturn, 1) := by decide +kernel
theorem d_B_inOrder_0 : decode b_B_inOrder 0 = .ok (.iload_n 1, 1) := by decide +kernel
theorem d_B_inOrder_1 : decode b_B_inOrder 1 = .ok (.iconst 0, 1) := by decide +kernel
theorem d_B_inOrder_2 : decode b_B_inOrder 2 = .ok (.aload_n 0, 1) := by decide +kernel
theorem d_B_inOrder_3 : decode b_B_inOrder 3 = .ok (.getfield 20, 3) := by decide +kernel
theorem d_B_inOrder_6 : decode b_B_inOrder 6 = .ok (.iconst 1, 1) := by decide +kernel
theorem d_B_inOrder_7 : decode b_B_inOrder 7 = .ok (.isub, 1) := by decide +kernel
theorem d_B_inOrder_8 : decode b_B_inOrder 8 = .ok (.invokestatic 24, 3) := by decide +kernel
theorem d_B_inOrder_11 : decode b_B_inOrder 11 = .ok (.ifCond .eq 12, 3) := by decide +kernel
theorem d_B_inOrder_14 : decode b_B_inOrder 14 = .ok (.aload_n 0, 1) := by decide +kernel
theorem d_B_inOrder_15 : decode b_B_inOrder 15 = .ok (.getfield 17, 3) := by decide +kernel
theorem d_B_inOrder_18 : decode b_B_inOrder 18 = .ok (.iload_n 1, 1) := by decide +kernel
theorem d_B_inOrder_19 : decode b_B_inOrder 19 = .ok (.aaload, 1) := by decide +kernel
theorem d_B_inOrder_20 : decode b_B_inOrder 20 = .ok (.goto 4, 3) := by decide +kernel
theorem d_B_inOrder_23 : decode b_B_inOrder 23 = .ok (.aconst_null, 1) := by decide +kernel
theorem d_B_inOrder_24 : decode b_B_inOrder 24 = .ok (.areturn, 1) := by decide +kernel
theorem d_B_add_0 : decode b_B_add 0 = .ok (.aload_n 0, 1) := by decide +kernel
theorem d_B_add_1 : decode b_B_add 1 = .ok (.invokevirtual 28, 3) := by decide +kernel
theorem d_B_add_4 : decode b_B_add 4 = .ok (.ifCond .eq 5, 3) := by decide +kernel
theorem d_B_add_7 : decode b_B_add 7 = .ok (.iconst (-1), 1) := by decide +kernel
theorem d_B_add_8 : decode b_B_add 8 = .ok (.ireturn, 1) := by decide +kernel
theorem d_B_add_9 : decode b_B_add 9 = .ok (.new 9, 3) := by decide +kernel
theorem d_B_add_12 : decode b_B_add 12 = .ok (.dup, 1) := by decide +kernel
theorem d_B_add_13 : decode b_B_add 13 = .ok (.aload_n 1, 1) := by decide +kernel
theorem d_B_add_14 : decode b_B_add 14 = .ok (.iload_n 2, 1) := by decide +kernel
theorem d_B_add_15 : decode b_B_add 15 = .ok (.lload_n 3, 1) := by decide +kernel
theorem d_B_add_16 : decode b_B_add 16 = .ok (.lload 5, 2) := by decide +kernel
theorem d_B_add_18 : decode b_B_add 18 = .ok (.invokespecial 32, 3) := by decide +kernel
theorem d_B_add_21 : decode b_B_add 21 = .ok (.astore 7, 2) := by decide +kernel
theorem d_B_add_23 : decode b_B_add 23 = .ok (.aload_n 0, 1) := by decide +kernel
theorem d_B_add_24 : decode b_B_add 24 = .ok (.getfield 20, 3) := by decide +kernel
theorem d_B_add_27 : decode b_B_add 27 = .ok (.istore 8, 2) := by decide +kernel
theorem d_B_add_29 : decode b_B_add 29 = .ok (.iload 8, 2) := by decide +kernel
theorem d_B_add_31 : decode b_B_add 31 = .ok (.ifCond .le 42, 3) := by decide +kernel
theorem d_B_add_34 : decode b_B_add 34 = .ok (.aload_n 0, 1) := by decide +kernel
theorem d_B_add_35 : decode b_B_add 35 = .ok (.getfield 17, 3) := by decide +kernel
theorem d_B_add_38 : decode b_B_add 38 = .ok (.iload 8, 2) := by decide +kernel
theorem d_B_add_40 : decode b_B_add 40 = .ok (.iconst 1, 1) := by decide +kernel
theorem d_B_add_41 : decode b_B_add 41 = .ok (.isub, 1) := by decide +kernel
theorem d_B_add_42 : decode b_B_add 42 = .ok (.aaload, 1) := by decide +kernel
theorem d_B_add_43 : decode b_B_add 43 = .ok (.lload 5, 2) := by decide +kernel
theorem d_B_add_45 : decode b_B_add 45 = .ok (.invokestatic 35, 3) := by decide +kernel
theorem d_B_add_48 : decode b_B_add 48 = .ok (.ifCond .eq 25, 3) := by decide +kernel
theorem d_B_add_51 : decode b_B_add 51 = .ok (.aload_n 0, 1) := by decide +kernel
theorem d_B_add_52 : decode b_B_add 52 = .ok (.getfield 17, 3) := by decide +kernel
theorem d_B_add_55 : decode b_B_add 55 = .ok (.iload 8, 2) := by decide +kernel
theorem d_B_add_57 : decode b_B_add 57 = .ok (.aload_n 0, 1) := by decide +kernel
theorem d_B_add_58 : decode b_B_add 58 = .ok (.getfield 17, 3) := by decide +kernel
theorem d_B_add_61 : decode b_B_add 61 = .ok (.iload 8, 2) := by decide +kernel
theorem d_B_add_63 : decode b_B_add 63 = .ok (.iconst 1, 1) := by decide +kernel
theorem d_B_add_64 : decode b_B_add 64 = .ok (.isub, 1) := by decide +kernel
theorem d_B_add_65 : decode b_B_add 65 = .ok (.aaload, 1) := by decide +kernel
theorem d_B_add_66 : decode b_B_add 66 = .ok (.aastore, 1) := by decide +kernel
theorem d_B_add_67 : decode b_B_add 67 = .ok (.iinc 8 (-1), 3) := by decide +kernel
theorem d_B_add_70 : decode b_B_add 70 = .ok (.goto (-41), 3) := by decide +kernel
theorem d_B_add_73 : decode b_B_add 73 = .ok (.aload_n 0, 1) := by decide +kernel
theorem d_B_add_74 : decode b_B_add 74 = .ok (.getfield 17, 3) := by decide +kernel
theorem d_B_add_77 : decode b_B_add 77 = .ok (.iload 8, 2) := by decide +kernel
theorem d_B_add_79 : decode b_B_add 79 = .ok (.aload 7, 2) := by decide +kernel
theorem d_B_add_81 : decode b_B_add 81 = .ok (.aastore, 1) := by decide +kernel
theorem d_B_add_82 : decode b_B_add 82 = .ok (.aload_n 0, 1) := by decide +kernel
theorem d_B_add_83 : decode b_B_add 83 = .ok (.getfield 11, 3) := by decide +kernel
theorem d_B_add_86 : decode b_B_add 86 = .ok (.aload_n 0, 1) := by decide +kernel
theorem d_B_add_87 : decode b_B_add 87 = .ok (.getfield 20, 3) := by decide +kernel
theorem d_B_add_90 : decode b_B_add 90 = .ok (.aload 7, 2) := by decide +kernel
theorem d_B_add_92 : decode b_B_add 92 = .ok (.aastore, 1) := by decide +kernel
theorem d_B_add_93 : decode b_B_add 93 = .ok (.aload_n 0, 1) := by decide +kernel
theorem d_B_add_94 : decode b_B_add 94 = .ok (.dup, 1) := by decide +kernel
theorem d_B_add_95 : decode b_B_add 95 = .ok (.getfield 20, 3) := by decide +kernel
theorem d_B_add_98 : decode b_B_add 98 = .ok (.iconst 1, 1) := by decide +kernel
theorem d_B_add_99 : decode b_B_add 99 = .ok (.iadd, 1) := by decide +kernel
theorem d_B_add_100 : decode b_B_add 100 = .ok (.putfield 20, 3) := by decide +kernel
theorem d_B_add_103 : decode b_B_add 103 = .ok (.aload_n 0, 1) := by decide +kernel
theorem d_B_add_104 : decode b_B_add 104 = .ok (.getfield 20, 3) := by decide +kernel
theorem d_B_add_107 : decode b_B_add 107 = .ok (.ireturn, 1) := by decide +kernel
theorem d_B_cameBehind_0 : decode b_B_cameBehind 0 = .ok (.aload_n 0, 1) := by decide +kernel
theorem d_B_cameBehind_1 : decode b_B_cameBehind 1 = .ok (.ifnull 16, 3) := by decide +kernel
theorem d_B_cameBehind_4 : decode b_B_cameBehind 4 = .ok (.aload_n 0, 1) := by decide +kernel
theorem d_B_cameBehind_5 : decode b_B_cameBehind 5 = .ok (.getfield 39, 3) := by decide +kernel
theorem d_B_cameBehind_8 : decode b_B_cameBehind 8 = .ok (.lload_n 1, 1) := by decide +kernel
theorem d_B_cameBehind_9 : decode b_B_cameBehind 9 = .ok (.lcmp, 1) := by decide +kernel
theorem d_B_cameBehind_10 : decode b_B_cameBehind 10 = .ok (.ifCond .le 7, 3) := by decide +kernel
theorem d_B_cameBehind_13 : decode b_B_cameBehind 13 = .ok (.iconst 1, 1) := by decide +kernel
theorem d_B_cameBehind_14 : decode b_B_cameBehind 14 = .ok (.goto 4, 3) := by decide +kernel
theorem d_B_cameBehind_17 : decode b_B_cameBehind 17 = .ok (.iconst 0, 1) := by decide +kernel
theorem d_B_cameBehind_18 : decode b_B_cameBehind 18 = .ok (.ireturn, 1) := by decide +kernel
theorem d_B_leftOf_0 : decode b_B_leftOf 0 = .ok (.lconst 0, 1) := by decide +kernel
theorem d_B_leftOf_1 : decode b_B_leftOf 1 = .ok (.lstore_n 2, 1) := by decide +kernel
theorem d_B_leftOf_2 : decode b_B_leftOf 2 = .ok (.iconst 0, 1) := by decide +kernel
theorem d_B_leftOf_3 : decode b_B_leftOf 3 = .ok (.istore 4, 2) := by decide +kernel
theorem d_B_leftOf_5 : decode b_B_leftOf 5 = .ok (.iload 4, 2) := by decide +kernel
theorem d_B_leftOf_7 : decode b_B_leftOf 7 = .ok (.aload_n 0, 1) := by decide +kernel
theorem d_B_leftOf_8 : decode b_B_leftOf 8 = .ok (.getfield 20, 3) := by decide +kernel
theorem d_B_leftOf_11 : decode b_B_leftOf 11 = .ok (.if_icmp .ge 40, 3) := by decide +kernel
theorem d_B_leftOf_14 : decode b_B_leftOf 14 = .ok (.aload_n 0, 1) := by decide +kernel
theorem d_B_leftOf_15 : decode b_B_leftOf 15 = .ok (.getfield 11, 3) := by decide +kernel
theorem d_B_leftOf_18 : decode b_B_leftOf 18 = .ok (.iload 4, 2) := by decide +kernel
theorem d_B_leftOf_20 : decode b_B_leftOf 20 = .ok (.aaload, 1) := by decide +kernel
theorem d_B_leftOf_21 : decode b_B_leftOf 21 = .ok (.astore 5, 2) := by decide +kernel
theorem d_B_leftOf_23 : decode b_B_leftOf 23 = .ok (.aload 5, 2) := by decide +kernel
theorem d_B_leftOf_25 : decode b_B_leftOf 25 = .ok (.ifnull 20, 3) := by decide +kernel
theorem d_B_leftOf_28 : decode b_B_leftOf 28 = .ok (.aload 5, 2) := by decide +kernel
theorem d_B_leftOf_30 : decode b_B_leftOf 30 = .ok (.getfield 43, 3) := by decide +kernel
theorem d_B_leftOf_33 : decode b_B_leftOf 33 = .ok (.iload_n 1, 1) := by decide +kernel
theorem d_B_leftOf_34 : decode b_B_leftOf 34 = .ok (.if_icmp .ne 11, 3) := by decide +kernel
theorem d_B_leftOf_37 : decode b_B_leftOf 37 = .ok (.lload_n 2, 1) := by decide +kernel
theorem d_B_leftOf_38 : decode b_B_leftOf 38 = .ok (.aload 5, 2) := by decide +kernel
theorem d_B_leftOf_40 : decode b_B_leftOf 40 = .ok (.getfield 46, 3) := by decide +kernel
theorem d_B_leftOf_43 : decode b_B_leftOf 43 = .ok (.ladd, 1) := by decide +kernel
theorem d_B_leftOf_44 : decode b_B_leftOf 44 = .ok (.lstore_n 2, 1) := by decide +kernel
theorem d_B_leftOf_45 : decode b_B_leftOf 45 = .ok (.iinc 4 1, 3) := by decide +kernel
theorem d_B_leftOf_48 : decode b_B_leftOf 48 = .ok (.goto (-43), 3) := by decide +kernel
theorem d_B_leftOf_51 : decode b_B_leftOf 51 = .ok (.lload_n 2, 1) := by decide +kernel
theorem d_B_leftOf_52 : decode b_B_leftOf 52 = .ok (.lreturn, 1) := by decide +kernel
theorem d_B_interestOf_0 : decode b_B_interestOf 0 = .ok (.lconst 0, 1) := by decide +kernel
theorem d_B_interestOf_1 : decode b_B_interestOf 1 = .ok (.lstore 4, 2) := by decide +kernel
theorem d_B_interestOf_3 : decode b_B_interestOf 3 = .ok (.iconst 0, 1) := by decide +kernel
theorem d_B_interestOf_4 : decode b_B_interestOf 4 = .ok (.istore 6, 2) := by decide +kernel
theorem d_B_interestOf_6 : decode b_B_interestOf 6 = .ok (.iload 6, 2) := by decide +kernel
theorem d_B_interestOf_8 : decode b_B_interestOf 8 = .ok (.aload_n 0, 1) := by decide +kernel
theorem d_B_interestOf_9 : decode b_B_interestOf 9 = .ok (.getfield 20, 3) := by decide +kernel
theorem d_B_interestOf_12 : decode b_B_interestOf 12 = .ok (.if_icmp .ge 43, 3) := by decide +kernel
theorem d_B_interestOf_15 : decode b_B_interestOf 15 = .ok (.aload_n 0, 1) := by decide +kernel
theorem d_B_interestOf_16 : decode b_B_interestOf 16 = .ok (.getfield 11, 3) := by decide +kernel
theorem d_B_interestOf_19 : decode b_B_interestOf 19 = .ok (.iload 6, 2) := by decide +kernel
theorem d_B_interestOf_21 : decode b_B_interestOf 21 = .ok (.aaload, 1) := by decide +kernel
theorem d_B_interestOf_22 : decode b_B_interestOf 22 = .ok (.astore 7, 2) := by decide +kernel
theorem d_B_interestOf_24 : decode b_B_interestOf 24 = .ok (.aload 7, 2) := by decide +kernel
theorem d_B_interestOf_26 : decode b_B_interestOf 26 = .ok (.ifnull 23, 3) := by decide +kernel
theorem d_B_interestOf_29 : decode b_B_interestOf 29 = .ok (.aload 7, 2) := by decide +kernel
theorem d_B_interestOf_31 : decode b_B_interestOf 31 = .ok (.getfield 43, 3) := by decide +kernel
theorem d_B_interestOf_34 : decode b_B_interestOf 34 = .ok (.iload_n 1, 1) := by decide +kernel
theorem d_B_interestOf_35 : decode b_B_interestOf 35 = .ok (.if_icmp .ne 14, 3) := by decide +kernel
theorem d_B_interestOf_38 : decode b_B_interestOf 38 = .ok (.lload 4, 2) := by decide +kernel
theorem d_B_interestOf_40 : decode b_B_interestOf 40 = .ok (.aload 7, 2) := by decide +kernel
theorem d_B_interestOf_42 : decode b_B_interestOf 42 = .ok (.lload_n 2, 1) := by decide +kernel
theorem d_B_interestOf_43 : decode b_B_interestOf 43 = .ok (.invokevirtual 49, 3) := by decide +kernel
theorem d_B_interestOf_46 : decode b_B_interestOf 46 = .ok (.ladd, 1) := by decide +kernel
theorem d_B_interestOf_47 : decode b_B_interestOf 47 = .ok (.lstore 4, 2) := by decide +kernel
theorem d_B_interestOf_49 : decode b_B_interestOf 49 = .ok (.iinc 6 1, 3) := by decide +kernel
theorem d_B_interestOf_52 : decode b_B_interestOf 52 = .ok (.goto (-46), 3) := by decide +kernel
theorem d_B_interestOf_55 : decode b_B_interestOf 55 = .ok (.lload 4, 2) := by decide +kernel
theorem d_B_interestOf_57 : decode b_B_interestOf 57 = .ok (.lreturn, 1) := by decide +kernel
theorem d_L_init_0 : decode b_L_init 0 = .ok (.aload_n 0, 1) := by decide +kernel
theorem d_L_init_1 : decode b_L_init 1 = .ok (.invokespecial 1, 3) := by decide +kernel
theorem d_L_init_4 : decode b_L_init 4 = .ok (.aload_n 0, 1) := by decide +kernel
theorem d_L_init_5 : decode b_L_init 5 = .ok (.iload_n 1, 1) := by decide +kernel
theorem d_L_init_6 : decode b_L_init 6 = .ok (.putfield 7, 3) := by decide +kernel
theorem d_L_init_9 : decode b_L_init 9 = .ok (.aload_n 0, 1) := by decide +kernel
theorem d_L_init_10 : decode b_L_init 10 = .ok (.iload_n 2, 1) := by decide +kernel
theorem d_L_init_11 : decode b_L_init 11 = .ok (.putfield 13, 3) := by decide +kernel
theorem d_L_init_14 : decode b_L_init 14 = .ok (.aload_n 0, 1) := by decide +kernel
theorem d_L_init_15 : decode b_L_init 15 = .ok (.aload_n 3, 1) := by decide +kernel
theorem d_L_init_16 : decode b_L_init 16 = .ok (.putfield 16, 3) := by decide +kernel
theorem d_L_init_19 : decode b_L_init 19 = .ok (.aload_n 0, 1) := by decide +kernel
theorem d_L_init_20 : decode b_L_init 20 = .ok (.lload 4, 2) := by decide +kernel
theorem d_L_init_22 : decode b_L_init 22 = .ok (.putfield 20, 3) := by decide +kernel
theorem d_L_init_25 : decode b_L_init 25 = .ok (.return_, 1) := by decide +kernel
theorem d_L_isLent_0 : decode b_L_isLent 0 = .ok (.aload_n 0, 1) := by decide +kernel
theorem d_L_isLent_1 : decode b_L_isLent 1 = .ok (.getfield 24, 3) := by decide +kernel
theorem d_L_isLent_4 : decode b_L_isLent 4 = .ok (.ifCond .ne 14, 3) := by decide +kernel
theorem d_L_isLent_7 : decode b_L_isLent 7 = .ok (.aload_n 0, 1) := by decide +kernel
theorem d_L_isLent_8 : decode b_L_isLent 8 = .ok (.getfield 28, 3) := by decide +kernel
theorem d_L_isLent_11 : decode b_L_isLent 11 = .ok (.ifnonnull 7, 3) := by decide +kernel
theorem d_L_isLent_14 : decode b_L_isLent 14 = .ok (.iconst 1, 1) := by decide +kernel
theorem d_L_isLent_15 : decode b_L_isLent 15 = .ok (.goto 4, 3) := by decide +kernel
theorem d_L_isLent_18 : decode b_L_isLent 18 = .ok (.iconst 0, 1) := by decide +kernel
theorem d_L_isLent_19 : decode b_L_isLent 19 = .ok (.ireturn, 1) := by decide +kernel
theorem d_R_init_0 : decode b_R_init 0 = .ok (.aload_n 0, 1) := by decide +kernel
theorem d_R_init_1 : decode b_R_init 1 = .ok (.invokespecial 1, 3) := by decide +kernel
theorem d_R_init_4 : decode b_R_init 4 = .ok (.aload_n 0, 1) := by decide +kernel
theorem d_R_init_5 : decode b_R_init 5 = .ok (.iload_n 1, 1) := by decide +kernel
theorem d_R_init_6 : decode b_R_init 6 = .ok (.putfield 7, 3) := by decide +kernel
theorem d_R_init_9 : decode b_R_init 9 = .ok (.aload_n 0, 1) := by decide +kernel
theorem d_R_init_10 : decode b_R_init 10 = .ok (.iload_n 2, 1) := by decide +kernel
theorem d_R_init_11 : decode b_R_init 11 = .ok (.putfield 13, 3) := by decide +kernel
theorem d_R_init_14 : decode b_R_init 14 = .ok (.aload_n 0, 1) := by decide +kernel
theorem d_R_init_15 : decode b_R_init 15 = .ok (.iload_n 3, 1) := by decide +kernel
theorem d_R_init_16 : decode b_R_init 16 = .ok (.putfield 16, 3) := by decide +kernel
theorem d_R_init_19 : decode b_R_init 19 = .ok (.return_, 1) := by decide +kernel
theorem d_R_centsFor_0 : decode b_R_centsFor 0 = .ok (.lload_n 1, 1) := by decide +kernel
theorem d_R_centsFor_1 : decode b_R_centsFor 1 = .ok (.aload_n 0, 1) := by decide +kernel
theorem d_R_centsFor_2 : decode b_R_centsFor 2 = .ok (.getfield 16, 3) := by decide +kernel
theorem d_R_centsFor_5 : decode b_R_centsFor 5 = .ok (.i2l, 1) := by decide +kernel
theorem d_R_centsFor_6 : decode b_R_centsFor 6 = .ok (.lcmp, 1) := by decide +kernel
theorem d_R_centsFor_7 : decode b_R_centsFor 7 = .ok (.ifCond .le 21, 3) := by decide +kernel
theorem d_R_centsFor_10 : decode b_R_centsFor 10 = .ok (.lload_n 1, 1) := by decide +kernel
theorem d_R_centsFor_11 : decode b_R_centsFor 11 = .ok (.aload_n 0, 1) := by decide +kernel
theorem d_R_centsFor_12 : decode b_R_centsFor 12 = .ok (.getfield 7, 3) := by decide +kernel
theorem d_R_centsFor_15 : decode b_R_centsFor 15 = .ok (.i2l, 1) := by decide +kernel
theorem d_R_centsFor_16 : decode b_R_centsFor 16 = .ok (.lmul, 1) := by decide +kernel
theorem d_R_centsFor_17 : decode b_R_centsFor 17 = .ok (.aload_n 0, 1) := by decide +kernel
theorem d_R_centsFor_18 : decode b_R_centsFor 18 = .ok (.getfield 13, 3) := by decide +kernel
theorem d_R_centsFor_21 : decode b_R_centsFor 21 = .ok (.i2l, 1) := by decide +kernel
theorem d_R_centsFor_22 : decode b_R_centsFor 22 = .ok (.invokestatic 19, 3) := by decide +kernel
theorem d_R_centsFor_25 : decode b_R_centsFor 25 = .ok (.goto 4, 3) := by decide +kernel
theorem d_R_centsFor_28 : decode b_R_centsFor 28 = .ok (.lconst 0, 1) := by decide +kernel
theorem d_R_centsFor_29 : decode b_R_centsFor 29 = .ok (.lreturn, 1) := by decide +kernel
theorem d_R_interestFor_0 : decode b_R_interestFor 0 = .ok (.aload_n 0, 1) := by decide +kernel
theorem d_R_interestFor_1 : decode b_R_interestFor 1 = .ok (.getfield 25, 3) := by decide +kernel
theorem d_R_interestFor_4 : decode b_R_interestFor 4 = .ok (.ifCond .le 21, 3) := by decide +kernel
theorem d_R_interestFor_7 : decode b_R_interestFor 7 = .ok (.lload_n 1, 1) := by decide +kernel
theorem d_R_interestFor_8 : decode b_R_interestFor 8 = .ok (.aload_n 0, 1) := by decide +kernel
theorem d_R_interestFor_9 : decode b_R_interestFor 9 = .ok (.getfield 28, 3) := by decide +kernel
theorem d_R_interestFor_12 : decode b_R_interestFor 12 = .ok (.i2l, 1) := by decide +kernel
theorem d_R_interestFor_13 : decode b_R_interestFor 13 = .ok (.lmul, 1) := by decide +kernel
theorem d_R_interestFor_14 : decode b_R_interestFor 14 = .ok (.lload_n 3, 1) := by decide +kernel
theorem d_R_interestFor_15 : decode b_R_interestFor 15 = .ok (.lmul, 1) := by decide +kernel
theorem d_R_interestFor_16 : decode b_R_interestFor 16 = .ok (.aload_n 0, 1) := by decide +kernel
theorem d_R_interestFor_17 : decode b_R_interestFor 17 = .ok (.getfield 25, 3) := by decide +kernel
theorem d_R_interestFor_20 : decode b_R_interestFor 20 = .ok (.i2l, 1) := by decide +kernel
theorem d_R_interestFor_21 : decode b_R_interestFor 21 = .ok (.ldiv, 1) := by decide +kernel
theorem d_R_interestFor_22 : decode b_R_interestFor 22 = .ok (.goto 4, 3) := by decide +kernel
theorem d_R_interestFor_25 : decode b_R_interestFor 25 = .ok (.lconst 0, 1) := by decide +kernel
theorem d_R_interestFor_26 : decode b_R_interestFor 26 = .ok (.lreturn, 1) := by decide +kernel
end
section
/-! A world as a function from addresses to cells: no places, no frame rule; a method's contract speaks of the whole function. -/
abbrev hG : Type := Nat → Option va_E
def hf (g : hG) : Nat → va_E := fun a => (g a).getD (.inr (0, []))
theorem hf_up (g : hG) (a : Nat) (e : va_E) : hf (va_up g a (some e)) = va_up (hf g) a e := by
  funext x
  by_cases h : x = a
  · subst h; simp [hf, va_up]
  · simp [hf, va_up, h]
/-- the heap holds the cells of g, and they lie in A -/
def hw (D : va_G) (cl : List vw_C) (A : Nat → Prop) (g : hG) (H : Heap) : Prop := ∃ L : List Nat, (∀ a, a ∈ L ↔ g a ≠ none) ∧ va_P D cl (va_pl L (hf g)) H ∧ va_D A (va_pl L (hf g))
theorem hw.all {D : va_G} {cl : List vw_C} {A : Nat → Prop} {g : hG} {H : Heap} (h : hw D cl A g H) : ∃ ws : va_W, va_P D cl ws H ∧ va_D A ws ∧ ∀ (a : Nat) (e : va_E), g a = some e → ∃ k : Nat, ws[k]? = some (a, e) ∧ ∀ (e' : va_E) (H1 : Heap), va_P D cl (ws.set k (a, e')) H1 → va_D A (ws.set k (a, e')) → hw D cl A (va_up g a (some e')) H1 := by
  obtain ⟨L, hL, hP, hD⟩ := h
  refine ⟨va_pl L (hf g), hP, hD, fun a e he => ?_⟩
  have ha : a ∈ L := (hL a).mpr (by rw [he]; exact fun q => by cases q)
  obtain ⟨k, hk⟩ := va_pl_get (X := []) (f := hf g) ha
  have hk' : (va_pl L (hf g))[k]? = some (a, hf g a) := hk
  have hfa : hf g a = e := by simp [hf, he]
  have hs : ∀ e', (va_pl L (hf g)).set k (a, e') = va_pl L (va_up (hf g) a e') := fun e' => va_pl_set (X := []) (e := e') hD ha hk
  refine ⟨k, by rw [hk', hfa], fun e' H1 hP1 hD1 => ⟨L, fun x => ?_, ?_, ?_⟩⟩
  · by_cases hx : x = a
    · subst hx; simp [va_up, ha]
    · rw [hL x]; simp [va_up, hx]
  · rw [hf_up, ← hs]; exact hP1
  · rw [hf_up, ← hs]; exact hD1
theorem hw.at {D : va_G} {cl : List vw_C} {A : Nat → Prop} {g : hG} {H : Heap} (h : hw D cl A g H) {a : Nat} {e : va_E} (he : g a = some e) : ∃ (ws : va_W) (k : Nat), va_P D cl ws H ∧ va_D A ws ∧ ws[k]? = some (a, e) ∧ ∀ (e' : va_E) (H1 : Heap), va_P D cl (ws.set k (a, e')) H1 → va_D A (ws.set k (a, e')) → hw D cl A (va_up g a (some e')) H1 := by
  obtain ⟨ws, hP, hD, k⟩ := h.all
  obtain ⟨k, h1, h2⟩ := k a e he
  exact ⟨ws, k, hP, hD, h1, h2⟩
theorem hw.new {D : va_G} {cl : List vw_C} {A : Nat → Prop} {g : hG} {H : Heap} (h : hw D cl A g H) : ∃ ws : va_W, va_P D cl ws H ∧ va_D A ws ∧ ∀ (q : Nat) (e : va_E) (H1 : Heap), va_P D cl (ws ++ [(q, e)]) H1 → va_D A (ws ++ [(q, e)]) → g q = none ∧ hw D cl A (va_up g q (some e)) H1 := by
  obtain ⟨L, hL, hP, hD⟩ := h
  refine ⟨va_pl L (hf g), hP, hD, fun q e H1 hP1 hD1 => ?_⟩
  have hq : q ∉ L := va_pl_fresh2 (X := []) hD1
  have hn : g q = none := by
    cases hgq : g q with
    | none => rfl
    | some x => exact absurd ((hL q).mpr (by rw [hgq]; exact fun z => by cases z)) hq
  have hpush := va_pl_push (f := hf g) (e := e) hq
  refine ⟨hn, L ++ [q], fun x => ?_, ?_, ?_⟩
  · by_cases hx : x = q
    · subst hx; simp [va_up]
    · simp [va_up, hx, hL x]
  · rw [hf_up, ← hpush]; exact hP1
  · rw [hf_up, ← hpush]; exact hD1
theorem hw.nil {D : va_G} {cl : List vw_C} {A : Nat → Prop} {H : Heap} : hw D cl A (fun _ => none) H := ⟨[], fun a => by simp, fun k q h => by simp [va_pl] at h, ⟨fun i j p q h => by simp [va_pl] at h, fun k q h => by simp [va_pl] at h⟩⟩
/-- one address, one cell -/
theorem hw_ne {g : hG} {a b : Nat} {x y : va_E} (ha : g a = some x) (hb : g b = some y) (h : x ≠ y) : a ≠ b := fun e => h (by subst e; exact Option.some.inj (ha.symm.trans hb))
theorem hw_new {g : hG} {a b : Nat} {x : va_E} (ha : g a = some x) (hb : g b = none) : a ≠ b := fun e => by subst e; rw [ha] at hb; cases hb
theorem up_at {g : hG} {a b : Nat} {x : va_E} {o : Option va_E} (ha : g a = some x) (h : a ≠ b) : va_up g b o a = some x := by rw [va_up_ne g o h]; exact ha
section HROWS
variable {p : Program} {l : Launch} {e : Env} {R : Room} {s : State} {m : MethodId} {args : Array Value} {below : List Frame} {meth : Method} {c : Code} {H : Heap} {locs : List Loc} {cells slots : Nat} {Q : State → Prop}
variable {cc : ByteArray} {pc : Nat} {ls : Array Slot} {rest : List Value} {D : va_G} {cl : List vw_C} {A : Nat → Prop} {a : Nat} {tys : List (ClassId × FieldType)} {g : hG} {H0 : Heap}
theorem lv_topr {x : Nat} (k : ∀ y : Nat, y = x → W p l e R s m args below meth c H locs cells slots Q (F0 m pc ls (.ref y :: rest))) : W p l e R s m args below meth c H locs cells slots Q (F0 m pc ls (.ref x :: rest)) := k x rfl
theorem h_get (hexec : p.tables.exec = Jvm.exec) (hb : c.code = cc) {own ref C : String} {T : u_T} {N ci index : Nat} {Ts : List Cond} (hts : ∀ w ∈ Ts, w.before args s = true) (hin : ∀ w ∈ u_ws C T N, w ∈ Ts) (hown : s.vm.findClass own = some m.cls) (hK : va_K D cl tys s) (hP : hw D cl A g H) {fs : List Value} (he : g a = some (.inr (ci, fs))) (hc : cl[ci]? = some (C, T, N)) (k : Nat) (hk : k < N) (hlink : (Cond.fieldLink own index ref (T k).2.1 (T k).2.2.1).before args s = true) (hsame : ∀ x, s.fieldFound? (T k).1 (T k).2.1 (T k).2.2.1 = some x → s.fieldFound? ref (T k).2.1 (T k).2.2.1 = some x) {v : Value} (hv : fs[k]? = some v) (hdg : decode cc pc = .ok (.getfield index, 3))
    (kk : W p l e R s m args below meth c H locs cells slots Q (F0 m (pc + 3) ls (v :: rest))) : W p l e R s m args below meth c H locs cells slots Q (F0 m pc ls (.ref a :: rest)) := by
  obtain ⟨ws, q0, hp, -, he, -⟩ := hP.at he
  exact va_get hexec hb hts hin hown hK hp q0 he hc k hk hlink hsame hv hdg kk
theorem h_put (hexec : p.tables.exec = Jvm.exec) (hb : c.code = cc) {own ref C : String} {T : u_T} {N ci index : Nat} {Ts : List Cond} (hts : ∀ w ∈ Ts, w.before args s = true) (hin : ∀ w ∈ u_ws C T N, w ∈ Ts) (ty0 : Nat → FieldType) (hty : ∀ k, k < N → parseFieldDescriptor (T k).2.2.1 = some (ty0 k)) (hnm : ∀ a, a < N → ∀ b, b < N → a ≠ b → (T a).2.1 ≠ (T b).2.1) (hown : s.vm.findClass own = some m.cls) (hK : va_K D cl tys s) (hP : hw D cl A g H) (hS0 : va_S A H0 H locs) {fs : List Value} (he : g a = some (.inr (ci, fs))) (hc : cl[ci]? = some (C, T, N)) (k : Nat) (hk : k < N) (hlink : (Cond.fieldLink own index ref (T k).2.1 (T k).2.2.1).before args s = true) (hsame : ∀ x, s.fieldFound? (T k).1 (T k).2.1 (T k).2.2.1 = some x → s.fieldFound? ref (T k).2.1 (T k).2.2.1 = some x) (hfin : (T k).2.2.2 = false) {ty : FieldType} {v : Value} (hd : parseFieldDescriptor (T k).2.2.1 = some ty) (hn : narrow ty v = v) (hfit : fits ty v = true) (hl : k < fs.length)
    (hdg : decode cc pc = .ok (.putfield index, 3)) (kk : ∀ (H1 : Heap) (locs1 : List Loc), hw D cl A (va_up g a (some (.inr (ci, fs.set k v)))) H1 → va_S A H0 H1 locs1 → W p l e R s m args below meth c H1 locs1 cells slots Q (F0 m (pc + 3) ls rest)) : W p l e R s m args below meth c H locs cells slots Q (F0 m pc ls (v :: .ref a :: rest)) := by
  obtain ⟨ws, q0, hp, hd0, he, st⟩ := hP.at he
  exact va_put hexec hb hts hin ty0 hty hnm hown hK hp hd0 hS0 q0 he hc k hk hlink hsame hfin hd hn hfit hl hdg (fun H1 locs1 h1 h2 h3 => kk H1 locs1 (st _ _ h1 h2) h3)
theorem h_putF (hexec : p.tables.exec = Jvm.exec) (hb : c.code = cc) {own ref C : String} {T : u_T} {N ci index : Nat} {Ts : List Cond} (hts : ∀ w ∈ Ts, w.before args s = true) (hin : ∀ w ∈ u_ws C T N, w ∈ Ts) (ty0 : Nat → FieldType) (hty : ∀ k, k < N → parseFieldDescriptor (T k).2.2.1 = some (ty0 k)) (hnm : ∀ a, a < N → ∀ b, b < N → a ≠ b → (T a).2.1 ≠ (T b).2.1) (hown : s.vm.findClass own = some m.cls) (hK : va_K D cl tys s) (hP : hw D cl A g H) (hS0 : va_S A H0 H locs) {fs : List Value} (he : g a = some (.inr (ci, fs))) (hc : cl[ci]? = some (C, T, N)) (k : Nat) (hk : k < N) (hlink : (Cond.fieldLink own index ref (T k).2.1 (T k).2.2.1).before args s = true) (hsame : ∀ x, s.fieldFound? (T k).1 (T k).2.1 (T k).2.2.1 = some x → s.fieldFound? ref (T k).2.1 (T k).2.2.1 = some x) (hfin : (T k).2.2.2 = true) (hin2 : meth.name = "<init>") (hdecl : (T k).1 = own) {ty : FieldType} {v : Value} (hd : parseFieldDescriptor (T k).2.2.1 = some ty) (hn : narrow ty v = v) (hfit : fits ty v = true) (hl : k < fs.length)
    (hdg : decode cc pc = .ok (.putfield index, 3)) (kk : ∀ (H1 : Heap) (locs1 : List Loc), hw D cl A (va_up g a (some (.inr (ci, fs.set k v)))) H1 → va_S A H0 H1 locs1 → W p l e R s m args below meth c H1 locs1 cells slots Q (F0 m (pc + 3) ls rest)) : W p l e R s m args below meth c H locs cells slots Q (F0 m pc ls (v :: .ref a :: rest)) := by
  obtain ⟨ws, q0, hp, hd0, he, st⟩ := hP.at he
  exact va_putF hexec hb hts hin ty0 hty hnm hown hK hp hd0 hS0 q0 he hc k hk hlink hsame hfin hin2 hdecl hd hn hfit hl hdg (fun H1 locs1 h1 h2 h3 => kk H1 locs1 (st _ _ h1 h2) h3)
theorem h_iald (hexec : p.tables.exec = Jvm.exec) (hb : c.code = cc) (hK : va_K D cl tys s) (hP : hw D cl A g H) (t0 : Nat) {cA : ClassId} {n : Nat} {f : Nat → Int32} (ha : g a = some (.inl (cA, n, .inl f))) (ht : tys[t0]? = some (cA, .int)) {i : Int32} (hin : vp_in i n) (hdg : decode cc pc = .ok (.iaload, 1))
    (kk : W p l e R s m args below meth c H locs cells slots Q (F0 m (pc + 1) ls (.int (f i.toNatClampNeg) :: rest))) : W p l e R s m args below meth c H locs cells slots Q (F0 m pc ls (.int i :: .ref a :: rest)) := by
  obtain ⟨ws, q0, hp, -, he, -⟩ := hP.at ha
  exact va_iald hexec hb hK hp q0 t0 he ht hin hdg kk
theorem h_zald (hexec : p.tables.exec = Jvm.exec) (hb : c.code = cc) (hK : va_K D cl tys s) (hP : hw D cl A g H) (t0 : Nat) {cA : ClassId} {n : Nat} {f : Nat → Int32} (ha : g a = some (.inl (cA, n, .inl f))) (ht : tys[t0]? = some (cA, .boolean)) {i : Int32} (hin : vp_in i n) (hdg : decode cc pc = .ok (.baload, 1))
    (kk : W p l e R s m args below meth c H locs cells slots Q (F0 m (pc + 1) ls (.int (f i.toNatClampNeg) :: rest))) : W p l e R s m args below meth c H locs cells slots Q (F0 m pc ls (.int i :: .ref a :: rest)) := by
  obtain ⟨ws, q0, hp, -, he, -⟩ := hP.at ha
  exact va_zald hexec hb hK hp q0 t0 he ht hin hdg kk
theorem h_lald (hexec : p.tables.exec = Jvm.exec) (hb : c.code = cc) (hK : va_K D cl tys s) (hP : hw D cl A g H) (t0 : Nat) {cA : ClassId} {n : Nat} {f : Nat → Int64} (ha : g a = some (.inl (cA, n, .inr (.inl f)))) (ht : tys[t0]? = some (cA, .long)) {i : Int32} (hin : vp_in i n) (hdg : decode cc pc = .ok (.laload, 1))
    (kk : W p l e R s m args below meth c H locs cells slots Q (F0 m (pc + 1) ls (.long (f i.toNatClampNeg) :: rest))) : W p l e R s m args below meth c H locs cells slots Q (F0 m pc ls (.int i :: .ref a :: rest)) := by
  obtain ⟨ws, q0, hp, -, he, -⟩ := hP.at ha
  exact va_lald hexec hb hK hp q0 t0 he ht hin hdg kk
theorem h_aald (hexec : p.tables.exec = Jvm.exec) (hb : c.code = cc) (hK : va_K D cl tys s) (hP : hw D cl A g H) (t0 : Nat) {cA : ClassId} {C : String} {n : Nat} {f : Nat → Option Nat} (ha : g a = some (.inl (cA, n, .inr (.inr (.inr (.inr f)))))) (ht : tys[t0]? = some (cA, .object C)) {i : Int32} (hin : vp_in i n) (hdg : decode cc pc = .ok (.aaload, 1))
    (kk : W p l e R s m args below meth c H locs cells slots Q (F0 m (pc + 1) ls (va_rf (f i.toNatClampNeg) :: rest))) : W p l e R s m args below meth c H locs cells slots Q (F0 m pc ls (.int i :: .ref a :: rest)) := by
  obtain ⟨ws, q0, hp, -, he, -⟩ := hP.at ha
  exact va_aldq hexec hb hK hp q0 t0 he ht hin hdg kk
theorem h_iast (hexec : p.tables.exec = Jvm.exec) (hb : c.code = cc) (hK : va_K D cl tys s) (hP : hw D cl A g H) (hS : va_S A H0 H locs) (t0 : Nat) {cA : ClassId} {n : Nat} {f : Nat → Int32} (ha : g a = some (.inl (cA, n, .inl f))) (ht : tys[t0]? = some (cA, .int)) {i : Int32} {x : Int32} (hin : vp_in i n) (hdg : decode cc pc = .ok (.iastore, 1))
    (kk : ∀ (H1 : Heap) (locs1 : List Loc), hw D cl A (va_up g a (some (.inl (cA, n, .inl (upd f i.toNatClampNeg x))))) H1 → va_S A H0 H1 locs1 → W p l e R s m args below meth c H1 locs1 cells slots Q (F0 m (pc + 1) ls rest)) : W p l e R s m args below meth c H locs cells slots Q (F0 m pc ls (.int x :: .int i :: .ref a :: rest)) := by
  obtain ⟨ws, q0, hp, hd0, he, st⟩ := hP.at ha
  exact va_iast hexec hb hK hp hd0 hS q0 t0 he ht hin hdg (fun H1 locs1 h1 h2 h3 => kk H1 locs1 (st _ _ h1 h2) h3)
theorem h_zast (hexec : p.tables.exec = Jvm.exec) (hb : c.code = cc) (hK : va_K D cl tys s) (hP : hw D cl A g H) (hS : va_S A H0 H locs) (t0 : Nat) {cA : ClassId} {n : Nat} {f : Nat → Int32} (ha : g a = some (.inl (cA, n, .inl f))) (ht : tys[t0]? = some (cA, .boolean)) {i : Int32} {x : Int32} (hin : vp_in i n) (hdg : decode cc pc = .ok (.bastore, 1))
    (kk : ∀ (H1 : Heap) (locs1 : List Loc), hw D cl A (va_up g a (some (.inl (cA, n, .inl (upd f i.toNatClampNeg (vp_nar .boolean x)))))) H1 → va_S A H0 H1 locs1 → W p l e R s m args below meth c H1 locs1 cells slots Q (F0 m (pc + 1) ls rest)) : W p l e R s m args below meth c H locs cells slots Q (F0 m pc ls (.int x :: .int i :: .ref a :: rest)) := by
  obtain ⟨ws, q0, hp, hd0, he, st⟩ := hP.at ha
  exact va_zast hexec hb hK hp hd0 hS q0 t0 he ht hin hdg (fun H1 locs1 h1 h2 h3 => kk H1 locs1 (st _ _ h1 h2) h3)
theorem h_last (hexec : p.tables.exec = Jvm.exec) (hb : c.code = cc) (hK : va_K D cl tys s) (hP : hw D cl A g H) (hS : va_S A H0 H locs) (t0 : Nat) {cA : ClassId} {n : Nat} {f : Nat → Int64} (ha : g a = some (.inl (cA, n, .inr (.inl f)))) (ht : tys[t0]? = some (cA, .long)) {i : Int32} {x : Int64} (hin : vp_in i n) (hdg : decode cc pc = .ok (.lastore, 1))
    (kk : ∀ (H1 : Heap) (locs1 : List Loc), hw D cl A (va_up g a (some (.inl (cA, n, .inr (.inl (vp_updL f i.toNatClampNeg x)))))) H1 → va_S A H0 H1 locs1 → W p l e R s m args below meth c H1 locs1 cells slots Q (F0 m (pc + 1) ls rest)) : W p l e R s m args below meth c H locs cells slots Q (F0 m pc ls (.long x :: .int i :: .ref a :: rest)) := by
  obtain ⟨ws, q0, hp, hd0, he, st⟩ := hP.at ha
  exact va_last hexec hb hK hp hd0 hS q0 t0 he ht hin hdg (fun H1 locs1 h1 h2 h3 => kk H1 locs1 (st _ _ h1 h2) h3)
theorem h_alen (hexec : p.tables.exec = Jvm.exec) (hb : c.code = cc) (hK : va_K D cl tys s) (hP : hw D cl A g H) (t0 : Nat) {cA : ClassId} {x : vp_A} (ha : g a = some (.inl (cA, x))) {ty : FieldType} (ht : tys[t0]? = some (cA, ty)) {v : Int32} (hv : Int32.ofNat x.1 = v) (hdg : decode cc pc = .ok (.arraylength, 1))
    (kk : W p l e R s m args below meth c H locs cells slots Q (F0 m (pc + 1) ls (.int v :: rest))) : W p l e R s m args below meth c H locs cells slots Q (F0 m pc ls (.ref a :: rest)) := by
  obtain ⟨ws, q0, hp, -, he, -⟩ := hP.at ha
  exact va_alen hexec hb hK hp q0 t0 he ht hv hdg kk
theorem hw_same {tys : List (ClassId × FieldType)} {cA cB : ClassId} {ty : FieldType} (hK : va_K D cl (tys ++ [(cA, ty)]) s) (t0 : Nat) (ht : tys[t0]? = some (cB, ty)) : cA = cB := by
  have h1 := (hK.2 tys.length (cA, ty) (by simp)).2
  have hl : t0 < tys.length := (List.getElem?_eq_some_iff.mp ht).1
  have h2 := (hK.2 t0 (cB, ty) (by rw [List.getElem?_append_left hl]; exact ht)).2
  cases ty with
  | object C =>
    obtain ⟨_, _, -, -, -, e1⟩ := h1
    obtain ⟨_, _, -, -, -, e2⟩ := h2
    exact Option.some.inj (e1.symm.trans e2)
  | _ => exact Option.some.inj (h1.symm.trans h2)
theorem h_aast (hexec : p.tables.exec = Jvm.exec) (hb : c.code = cc) (hK : va_K D cl tys s) (hP : hw D cl A g H) (hS : va_S A H0 H locs) (t0 ci : Nat) {cA : ClassId} {r : vw_C} {n v : Nat} {vs : List Value} {f : Nat → Option Nat} (ha : g a = some (.inl (cA, n, .inr (.inr (.inr (.inr f)))))) (ht : tys[t0]? = some (cA, .object r.1)) (hv : g v = some (.inr (ci, vs))) (hc : cl[ci]? = some r) {i : Int32} (hin : vp_in i n) (hdg : decode cc pc = .ok (.aastore, 1))
    (kk : ∀ (H1 : Heap) (locs1 : List Loc), hw D cl A (va_up g a (some (.inl (cA, n, .inr (.inr (.inr (.inr (va_up f i.toNatClampNeg (some v))))))))) H1 → va_S A H0 H1 locs1 → W p l e R s m args below meth c H1 locs1 cells slots Q (F0 m (pc + 1) ls rest)) : W p l e R s m args below meth c H locs cells slots Q (F0 m pc ls (.ref v :: .int i :: .ref a :: rest)) := by
  obtain ⟨ws, hp, hd0, hall⟩ := hP.all
  obtain ⟨q0, he, st⟩ := hall a _ ha
  obtain ⟨qk, hek, -⟩ := hall v _ hv
  exact va_astq hexec hb hK hp hd0 hS q0 t0 qk ci he ht hek hc hin hdg (fun H1 locs1 h1 h2 h3 => kk H1 locs1 (st _ _ h1 h2) h3)
theorem h_aastN (hexec : p.tables.exec = Jvm.exec) (hb : c.code = cc) (hK : va_K D cl tys s) (hP : hw D cl A g H) (hS : va_S A H0 H locs) (t0 : Nat) {cA : ClassId} {C : String} {n : Nat} {f : Nat → Option Nat} (ha : g a = some (.inl (cA, n, .inr (.inr (.inr (.inr f)))))) (ht : tys[t0]? = some (cA, .object C)) {i : Int32} (hin : vp_in i n) (hdg : decode cc pc = .ok (.aastore, 1))
    (kk : ∀ (H1 : Heap) (locs1 : List Loc), hw D cl A (va_up g a (some (.inl (cA, n, .inr (.inr (.inr (.inr (va_up f i.toNatClampNeg none)))))))) H1 → va_S A H0 H1 locs1 → W p l e R s m args below meth c H1 locs1 cells slots Q (F0 m (pc + 1) ls rest)) : W p l e R s m args below meth c H locs cells slots Q (F0 m pc ls (.null :: .int i :: .ref a :: rest)) := by
  obtain ⟨ws, q0, hp, hd0, he, st⟩ := hP.at ha
  exact va_astqN hexec hb hK hp hd0 hS q0 t0 he ht hin hdg (fun H1 locs1 h1 h2 h3 => kk H1 locs1 (st _ _ h1 h2) h3)
theorem h_new (hexec : p.tables.exec = Jvm.exec) (hb : c.code = cc) {own C : String} {T : u_T} {N ci index : Nat} {Ts : List Cond} (hts : ∀ w ∈ Ts, w.before args s = true) (hin : ∀ w ∈ u_ws C T N, w ∈ Ts) (ty : Nat → FieldType) (hty : ∀ k, k < N → parseFieldDescriptor (T k).2.2.1 = some (ty k)) (hown : s.vm.findClass own = some m.cls) (hcl : (Cond.classLink own index C).before args s = true) (hinst : (Cond.instantiable C N).before args s = true) (hini : (Cond.initialized C).before args s = true)
    (hK : va_K D cl tys s) (hP : hw D cl A g H) (hS : va_S A H0 H locs) (hA : ∀ q, H0.size ≤ q → A q) (hc : cl[ci]? = some (C, T, N)) {fs : List Value} (hfs : ∀ j, j < N → defaultValue (ty j) = vp_V fs j) (hcells : cells + 1 ≤ R.cells) (hslots : slots + N ≤ R.slots) (hdg : decode cc pc = .ok (.new index, 3))
    (kk : ∀ (q : Nat) (H1 : Heap), g q = none → hw D cl A (va_up g q (some (.inr (ci, fs)))) H1 → va_S A H0 H1 locs →
      W p l e R s m args below meth c H1 locs (cells + 1) (slots + N) Q (F0 m (pc + 3) ls (.ref q :: rest))) : W p l e R s m args below meth c H locs cells slots Q (F0 m pc ls rest) := by
  obtain ⟨ws, hp, hd0, st⟩ := hP.new
  exact va_new hexec hb hts hin ty hty hown hcl hinst hini hK hp hd0 hS hA hc hfs hcells hslots hdg (fun q H1 h1 h2 h3 => kk q H1 (st _ _ _ h1 h2).1 (st _ _ _ h1 h2).2 h3)
theorem h_newa (hexec : p.tables.exec = Jvm.exec) (hb : c.code = cc) {atype : ArrayType} (harr : (Cond.arrayClass (newarray.typeOf atype)).before args s = true) {ty : FieldType} (hty : newarray.typeOf atype = ty) (hK : va_K D cl tys s) (hP : hw D cl A g H) (hS : va_S A H0 H locs) (hA : ∀ q, H0.size ≤ q → A q) (t0 : Nat) {cB : ClassId} (ht : tys[t0]? = some (cB, ty))
    {n : Int32} {N' : Nat} {a0 : vp_A} (ha : ∀ cA : ClassId, vp_cell cA a0 = arrV cA N' (fun _ => defaultValue ty)) (hn : ¬ n < 0) (hN : n.toNatClampNeg = N') (hbytes : N' * componentBytes ty ≤ 536870912) (hcells : cells + 1 ≤ R.cells) (hslots : slots + N' ≤ R.slots) (hdg : decode cc pc = .ok (.newarray atype, 2))
    (kk : ∀ (q : Nat) (H1 : Heap), g q = none → hw D cl A (va_up g q (some (.inl (cB, a0)))) H1 → va_S A H0 H1 locs →
      W p l e R s m args below meth c H1 locs (cells + 1) (slots + N') Q (F0 m (pc + 2) ls (.ref q :: rest))) : W p l e R s m args below meth c H locs cells slots Q (F0 m pc ls (.int n :: rest)) := by
  obtain ⟨ws, hp, hd0, st⟩ := hP.new
  exact va_newa hexec hb harr hty hK hp hd0 hS hA ha hn hN hbytes hcells hslots hdg (fun q cA H1 hk h1 h2 h3 => by
    have e := hw_same hk t0 ht
    subst e
    exact kk q H1 (st _ _ _ h1 h2).1 (st _ _ _ h1 h2).2 h3)
theorem h_newq (hexec : p.tables.exec = Jvm.exec) (hb : c.code = cc) {own C : String} {index : Nat} (hown : s.vm.findClass own = some m.cls) (hclink : (Cond.classLink own index C).before args s = true) (hover : va_AO C s) (hK : va_K D cl tys s) (hP : hw D cl A g H) (hS : va_S A H0 H locs) (hA : ∀ q, H0.size ≤ q → A q) (t0 : Nat) {cB : ClassId} (ht : tys[t0]? = some (cB, .object C))
    {n : Int32} {N' : Nat} (hn : ¬ n < 0) (hN : n.toNatClampNeg = N') (hbytes : N' * 4 ≤ 536870912) (hcells : cells + 1 ≤ R.cells) (hslots : slots + N' ≤ R.slots) (hdg : decode cc pc = .ok (.anewarray index, 3))
    (kk : ∀ (q : Nat) (H1 : Heap), g q = none → hw D cl A (va_up g q (some (.inl (cB, N', .inr (.inr (.inr (.inr (fun _ => none)))))))) H1 → va_S A H0 H1 locs →
      W p l e R s m args below meth c H1 locs (cells + 1) (slots + N') Q (F0 m (pc + 3) ls (.ref q :: rest))) : W p l e R s m args below meth c H locs cells slots Q (F0 m pc ls (.int n :: rest)) := by
  obtain ⟨ws, hp, hd0, st⟩ := hP.new
  exact va_newq hexec hb hown hclink hover hK hp hd0 hS hA hn hN hbytes hcells hslots hdg (fun q cA H1 hk h1 h2 h3 => by
    have e := hw_same hk t0 ht
    subst e
    exact kk q H1 (st _ _ _ h1 h2).1 (st _ _ _ h1 h2).2 h3)
end HROWS
end
section
/-! Contracts over worlds that are functions; E: what the tables say besides (nest links, arrays of references ..). -/
def hI (D : va_G) (cl : List vw_C) (tys : List (ClassId × FieldType)) (E : State → Prop) (A : Nat → Prop) (g : hG) : State → Prop := fun U => hw D cl A g U.heap ∧ va_K D cl tys U ∧ E U ∧ ∀ q, U.heap.size ≤ q → A q
/-- E is blind to frames, and stays while classes are warmed -/
def hE (E : State → Prop) : Prop := (∀ (U : State) (f : JFrame) (mk : MethodId) (a : Array Value), E U → E (U.calling f mk a)) ∧ ∀ s U : State, s.WarmedH U.vm → E s → E U
/-- what a method's body knows from its entry on -/
def Cx (p : Program) (s : State) (m : MethodId) (args : Array Value) (meth : Method) (c : Code) (own : String) (cc : ByteArray) (maxL : Nat) (ret : Option FieldType) (Ts : List Cond) (D : va_G) (cl : List vw_C) (tys : List (ClassId × FieldType)) (E : State → Prop) (A : Nat → Prop) (nm : String) : Prop :=
  p.tables.exec = Jvm.exec ∧ c.code = cc ∧ c.maxLocals = maxL ∧ meth.sig.returnType = ret ∧ (∀ w ∈ Ts, w.before args s = true) ∧ s.vm.findClass own = some m.cls ∧ meth.locks = false ∧ va_K D cl tys s ∧ E s ∧ (∀ q, s.heap.size ≤ q → A q) ∧ meth.name = nm
theorem hI.blind {D : va_G} {cl : List vw_C} {tys : List (ClassId × FieldType)} {E : State → Prop} {A : Nat → Prop} {g : hG} {av : List Value} (hEE : hE E) : FrameBlind (va_Pc av (hI D cl tys E A g)) := fun a U f mk q => by
  obtain ⟨q0, qP, qK, qE, qA⟩ := q
  exact ⟨q0, qP, va_K.moved (u := U) (U := U.calling f mk a) (Vm.Alike.refl U.vm) qK, hEE.1 U f mk a qE, qA⟩
theorem Met.ofH {l : Launch} {y : MethodName} {Ts : List Cond} {rm : Room} {av : List Value} {D : va_G} {cl : List vw_C} {tys : List (ClassId × FieldType)} {E : State → Prop} {A : Nat → Prop} {g : hG} {Qc : Array Value → State → Outcome → State → Prop} {mc ms : Nat} {free : Addr → Prop} {cc : ByteArray} {maxL : Nat} {ret : Option FieldType} {lv : List (Nat × Value)}
    (hy : plainName y.cls = true) (hn : (lg_sl av).length ≤ maxL) (hlv : lv_args 0 av = lv)
    (body : ∀ (p : Program) (e : Env) (s : State) (m : MethodId) (below : List Frame) (meth : Method) (c : Code) (ls : Array Slot), Cx p s m av.toArray meth c y.cls cc maxL ret Ts D cl tys E A y.name → hw D cl A g s.heap → va_S A s.heap s.heap [] → lv_has ls maxL lv →
      W p l e rm s m av.toArray below meth c s.heap [] 0 0 (MQ below Qc av.toArray s mc ms free) (F0 m 0 ls [])) : Met l y (Cond.code y cc maxL ret :: Ts) rm (va_Pc av (hI D cl tys E A g)) Qc mc ms free := by
  refine Met.ofW (cc := cc) (maxL := maxL) (ret := ret) hy rfl ?_
  intro p e s m args below meth c s₁ B hml hv
  obtain ⟨rfl, hP, hK, hEs, hA⟩ := hv
  have hts := atoms_spec (ws := Cond.code y cc maxL ret :: Ts) B.pre
  have hl := lv_entry av (n := maxL) hn
  rw [lg_entry_eq]
  rw [hlv] at hl
  exact body p e s m below meth c _ ⟨B.exec, B.bytes, hml, B.returns, fun w h => hts w (List.mem_cons_of_mem _ h), findClass_of_methodNamed B.named, B.notSynchronized, hK, hEs, hA, (name_of_methodNamed B.named B.method).1⟩ hP va_S.rf hl
section HCALLS
variable {p : Program} {l : Launch} {e : Env} {R : Room} {s : State} {m : MethodId} {args : Array Value} {below : List Frame} {meth : Method} {c : Code} {H : Heap} {locs : List Loc} {cells slots : Nat} {Q : State → Prop}
variable {cc : ByteArray} {pc : Nat} {ls : Array Slot} {rest st0 : List Value} {D : va_G} {cl : List vw_C} {A : Nat → Prop} {a : Array Value} {tys : List (ClassId × FieldType)} {g : hG} {H0 : Heap} {mc ms : Nat} {E : State → Prop}
theorem h_ci {post : Int32 → hG → Prop} (hr : va_Run p l e R s m args below meth c H locs cells slots mc ms (F0 m pc ls st0) rest (va_Qi post (fun u t => hw D cl A u t.heap) A a) A) (hS : va_S A H0 H locs)
    (kk : ∀ (r : Int32) (u : hG) (H1 : Heap) (locs1 : List Loc), post r u → hw D cl A u H1 → va_S A H0 H1 locs1 → W p l e R s m args below meth c H1 locs1 (cells + mc) (slots + ms) Q (F0 m (pc + 3) ls (.int r :: rest))) : W p l e R s m args below meth c H locs cells slots Q (F0 m pc ls st0) :=
  va_calli hr hS (fun q _ h => h) (fun q h => h) (fun r u t H1 locs1 ht _ hp hB _ _ hS1 => kk r u H1 locs1 hp (by rw [← ht]; exact hB) hS1)
theorem h_cl {post : Int64 → hG → Prop} (hr : va_Run p l e R s m args below meth c H locs cells slots mc ms (F0 m pc ls st0) rest (va_Ql post (fun u t => hw D cl A u t.heap) A a) A) (hS : va_S A H0 H locs)
    (kk : ∀ (r : Int64) (u : hG) (H1 : Heap) (locs1 : List Loc), post r u → hw D cl A u H1 → va_S A H0 H1 locs1 → W p l e R s m args below meth c H1 locs1 (cells + mc) (slots + ms) Q (F0 m (pc + 3) ls (.long r :: rest))) : W p l e R s m args below meth c H locs cells slots Q (F0 m pc ls st0) :=
  va_calll hr hS (fun q _ h => h) (fun q h => h) (fun r u t H1 locs1 ht _ hp hB _ _ hS1 => kk r u H1 locs1 hp (by rw [← ht]; exact hB) hS1)
theorem h_cv {post : hG → Prop} (hr : va_Run p l e R s m args below meth c H locs cells slots mc ms (F0 m pc ls st0) rest (va_Qv post (fun u t => hw D cl A u t.heap) A a) A) (hS : va_S A H0 H locs)
    (kk : ∀ (u : hG) (H1 : Heap) (locs1 : List Loc), post u → hw D cl A u H1 → va_S A H0 H1 locs1 → W p l e R s m args below meth c H1 locs1 (cells + mc) (slots + ms) Q (F0 m (pc + 3) ls rest)) : W p l e R s m args below meth c H locs cells slots Q (F0 m pc ls st0) :=
  va_callv hr hS (fun q _ h => h) (fun q h => h) (fun u t H1 locs1 ht _ hp hB _ _ hS1 => kk u H1 locs1 hp (by rw [← ht]; exact hB) hS1)
theorem h_cq {post : Option Nat → hG → Prop} (hr : va_Run p l e R s m args below meth c H locs cells slots mc ms (F0 m pc ls st0) rest (va_Qq post (fun u t => hw D cl A u t.heap) A a) A) (hS : va_S A H0 H locs)
    (kk : ∀ (r : Option Nat) (u : hG) (H1 : Heap) (locs1 : List Loc), post r u → hw D cl A u H1 → va_S A H0 H1 locs1 → W p l e R s m args below meth c H1 locs1 (cells + mc) (slots + ms) Q (F0 m (pc + 3) ls (va_rf r :: rest))) : W p l e R s m args below meth c H locs cells slots Q (F0 m pc ls st0) :=
  va_callq hr hS (fun q _ h => h) (fun q h => h) (fun r u t H1 locs1 ht _ hp hB _ _ hS1 => kk r u H1 locs1 hp (by rw [← ht]; exact hB) hS1)
theorem h_preS {As : List Value} (hEE : hE E) (hK : va_K D cl tys s) (hEs : E s) (hP : hw D cl A g H) (hS : va_S A H0 H locs) (hA : ∀ q, H0.size ≤ q → A q) : PreS s H (va_Pc As (hI D cl tys E A g)) As :=
  ⟨hI.blind hEE, fun U hU hW => ⟨rfl, by rw [hU]; exact hP, va_K.moved hW.alike hK, hEE.2 s U hW hEs, fun q h => hA q (by rw [hU] at h; exact Nat.le_trans hS.1 h)⟩⟩
theorem h_preV {As : List Value} {b ci : Nat} {fs : List Value} {C : String} {T : u_T} {N : Nat} (hEE : hE E) (hK : va_K D cl tys s) (hEs : E s) (hP : hw D cl A g H) (hS : va_S A H0 H locs) (hA : ∀ q, H0.size ≤ q → A q) (he : g b = some (.inr (ci, fs))) (hc : cl[ci]? = some (C, T, N)) : PreV s H C b (va_Pc (.ref b :: As) (hI D cl tys E A g)) As := by
  obtain ⟨ws, k, hp, -, hk, -⟩ := hP.at he
  exact ⟨hI.blind hEE, va_recv hK hp (ci := ci) (q0 := k) hc hk, (h_preS (As := .ref b :: As) hEE hK hEs hP hS hA).2⟩
theorem h_iret {post : Int32 → hG → Prop} {v : Int32} (hx : p.tables.exec = Jvm.exec) (hb : c.code = cc) (hr : meth.sig.returnType = some .int) (hlocks : meth.locks = false) (hc : cells ≤ mc) (hs : slots ≤ ms) (hP : hw D cl A g H) (hS : va_S A s.heap H locs) (hp : post v g) (hdg : decode cc pc = .ok (.ireturn, 1)) : W p l e R s m args below meth c H locs cells slots (MQ below (va_Qi post (fun u t => hw D cl A u t.heap) A) args s mc ms A) (F0 m pc ls [.int v]) :=
  W.widen (k := mc) (n := ms) hc hs (W.iret (v := v) hx hb hr (fun t ht _ => ⟨⟨v, g, rfl, hp, by show hw D cl A g t.heap; rw [ht]; exact hP⟩, hS.F ht⟩) hS.2.2 hdg hlocks)
theorem h_zret {post : Int32 → hG → Prop} {v : Int32} (hx : p.tables.exec = Jvm.exec) (hb : c.code = cc) (hr : meth.sig.returnType = some .boolean) (hlocks : meth.locks = false) (hn : narrow .boolean (.int v) = .int v) (hc : cells ≤ mc) (hs : slots ≤ ms) (hP : hw D cl A g H) (hS : va_S A s.heap H locs) (hp : post v g) (hdg : decode cc pc = .ok (.ireturn, 1)) : W p l e R s m args below meth c H locs cells slots (MQ below (va_Qi post (fun u t => hw D cl A u t.heap) A) args s mc ms A) (F0 m pc ls [.int v]) :=
  W.widen (k := mc) (n := ms) hc hs (W.zret (v := v) hx hb hr hn (fun t ht _ => ⟨⟨v, g, rfl, hp, by show hw D cl A g t.heap; rw [ht]; exact hP⟩, hS.F ht⟩) hS.2.2 hdg hlocks)
theorem h_lret {post : Int64 → hG → Prop} {v : Int64} (hx : p.tables.exec = Jvm.exec) (hb : c.code = cc) (hr : meth.sig.returnType = some .long) (hlocks : meth.locks = false) (hc : cells ≤ mc) (hs : slots ≤ ms) (hP : hw D cl A g H) (hS : va_S A s.heap H locs) (hp : post v g) (hdg : decode cc pc = .ok (.lreturn, 1)) : W p l e R s m args below meth c H locs cells slots (MQ below (va_Ql post (fun u t => hw D cl A u t.heap) A) args s mc ms A) (F0 m pc ls [.long v]) :=
  W.widen (k := mc) (n := ms) hc hs (W.lret (v := v) hx hb hr (fun t ht _ => ⟨⟨v, g, rfl, hp, by show hw D cl A g t.heap; rw [ht]; exact hP⟩, hS.F ht⟩) hS.2.2 hdg hlocks)
theorem h_vret {post : hG → Prop} (hx : p.tables.exec = Jvm.exec) (hb : c.code = cc) (hr : meth.sig.returnType = none) (hlocks : meth.locks = false) (hc : cells ≤ mc) (hs : slots ≤ ms) (hP : hw D cl A g H) (hS : va_S A s.heap H locs) (hp : post g) (hdg : decode cc pc = .ok (.return_, 1)) : W p l e R s m args below meth c H locs cells slots (MQ below (va_Qv post (fun u t => hw D cl A u t.heap) A) args s mc ms A) (F0 m pc ls []) :=
  W.widen (k := mc) (n := ms) hc hs (W.vret hx hb hr (fun t ht _ => ⟨⟨g, rfl, hp, by show hw D cl A g t.heap; rw [ht]; exact hP⟩, hS.F ht⟩) hS.2.2 hdg hlocks)
theorem h_aret {post : Option Nat → hG → Prop} {r : Option Nat} {rt : String} (hx : p.tables.exec = Jvm.exec) (hb : c.code = cc) (hr : meth.sig.returnType = some (.object rt)) (hlocks : meth.locks = false) (hc : cells ≤ mc) (hs : slots ≤ ms) (hP : hw D cl A g H) (hS : va_S A s.heap H locs) (hp : post r g) (hdg : decode cc pc = .ok (.areturn, 1)) : W p l e R s m args below meth c H locs cells slots (MQ below (va_Qq post (fun u t => hw D cl A u t.heap) A) args s mc ms A) (F0 m pc ls [va_rf r]) :=
  W.widen (k := mc) (n := ms) hc hs (W.aret (v := va_rf r) hx hb hr (Or.inl ⟨rt, rfl⟩) (va_rf_or r) (fun t ht _ => ⟨⟨r, g, rfl, hp, by show hw D cl A g t.heap; rw [ht]; exact hP⟩, hS.F ht⟩) hS.2.2 hdg hlocks)
end HCALLS
end
section
/-! Kinds of cells: two cells of different kinds lie at different addresses. -/
def kd : va_E → Nat × Nat
  | .inr (c, _) => (c, 0)
  | .inl (_, n, .inl _) => (21, n)
  | .inl (_, n, .inr (.inl _)) => (22, n)
  | .inl (_, n, .inr (.inr (.inl _))) => (23, n)
  | .inl (_, n, .inr (.inr (.inr (.inl _)))) => (24, n)
  | .inl (_, n, .inr (.inr (.inr (.inr _)))) => (25, n)
theorem hw_kd {g : hG} {a b : Nat} {x y : va_E} (ha : g a = some x) (hb : g b = some y) (h : (Nat.beq (kd x).1 (kd y).1 && Nat.beq (kd x).2 (kd y).2) = false) : a ≠ b := hw_ne ha hb (fun e => by subst e; simp at h)
/-- what lies outside F and was there is as it was -/
def Keep (F : Nat → Prop) (g u : hG) : Prop := ∀ a, ¬ F a → g a ≠ none → u a = g a
theorem Keep.rf {F : Nat → Prop} {g : hG} : Keep F g g := fun _ _ _ => rfl
theorem Keep.up {F : Nat → Prop} {g u : hG} {a : Nat} {o : Option va_E} (h : Keep F g u) (ha : F a ∨ g a = none) : Keep F g (va_up u a o) := fun b hb hn => by
  have hne : b ≠ a := fun e => by
    subst e
    rcases ha with h1 | h1
    · exact hb h1
    · exact hn h1
  rw [va_up_ne u o hne]
  exact h b hb hn
theorem Keep.trans {F : Nat → Prop} {g u v : hG} (h1 : Keep F g u) (h2 : Keep (fun a => F a ∨ g a = none) u v) : Keep F g v := fun b hb hn => by
  have e1 := h1 b hb hn
  rw [h2 b (fun q => q.elim hb hn) (by rw [e1]; exact hn), e1]
end
section
/-! The class's own words: array classes, what the tables say of nest links and of arrays of references; calls over one list of words. -/
abbrev tyL (t : Nat → ClassId) : List (ClassId × FieldType) := [(t 0, .int), (t 1, .long), (t 2, .boolean), (t 3, .object R_R), (t 4, .object R_L), (t 5, .object R_D)]
abbrev arI (t : Nat → ClassId) (n : Nat) (f : Nat → Int32) : va_E := .inl (t 0, n, .inl f)
abbrev arJ (t : Nat → ClassId) (n : Nat) (f : Nat → Int64) : va_E := .inl (t 1, n, .inr (.inl f))
abbrev arZ (t : Nat → ClassId) (n : Nat) (f : Nat → Int32) : va_E := .inl (t 2, n, .inl f)
abbrev arQ (t : Nat → ClassId) (k n : Nat) (f : Nat → Option Nat) : va_E := .inl (t k, n, .inr (.inr (.inr (.inr f))))
def EX (U : State) : Prop := (va_Nw (.methodLinkNest R_F 26 y_B_init R_F) U ∧ va_Nw (.methodLinkNest R_F 33 y_C_init R_F) U ∧ va_Nw (.methodLinkNest R_B 24 y_F_isWithin R_F) U) ∧ va_AO R_R U ∧ va_AO R_L U ∧ va_AO R_D U
theorem hEX : hE EX := by
  refine ⟨fun U f mk a h => ?_, fun s U hW h => ?_⟩
  · obtain ⟨⟨h1, h2, h3⟩, h4, h5, h6⟩ := h
    exact ⟨⟨va_Nw.same rfl (u := U) (U := U.calling f mk a) rfl h1, va_Nw.same rfl (u := U) (U := U.calling f mk a) rfl h2, va_Nw.same rfl (u := U) (U := U.calling f mk a) rfl h3⟩, va_AO.moved (u := U) (U := U.calling f mk a) (Vm.Alike.refl U.vm) h4, va_AO.moved (u := U) (U := U.calling f mk a) (Vm.Alike.refl U.vm) h5, va_AO.moved (u := U) (U := U.calling f mk a) (Vm.Alike.refl U.vm) h6⟩
  · obtain ⟨⟨h1, h2, h3⟩, h4, h5, h6⟩ := h
    exact ⟨⟨h1.warmM hW, h2.warmM hW, h3.warmM hW⟩, h4.moved hW.alike, h5.moved hW.alike, h6.moved hW.alike⟩
theorem tb_cons {y : MethodName} {bytes : ByteArray} {maxL : Nat} {ret : Option FieldType} (h : Cond.code y bytes maxL ret ∈ TB) : GoodIn TB (Cond.code y bytes maxL ret :: TB) := fun w hw => by
  rcases List.mem_cons.mp hw with rfl | h1
  · exact ⟨h, Or.inl rfl⟩
  · exact ⟨h1, tb_good w h1⟩
section HRUN
variable {p : Program} {l : Launch} {e : Env} {R : Room} {s : State} {m : MethodId} {args : Array Value} {below : List Frame} {meth : Method} {c : Code} {H : Heap} {locs : List Loc} {cells slots : Nat} {Q : State → Prop}
variable {cc : ByteArray} {pc : Nat} {ls : Array Slot} {rest st0 : List Value} {D : va_G} {A : Nat → Prop} {a : Nat} {t : Nat → ClassId} {g : hG} {nL : Nat} {ret0 : Option FieldType} {nm own : String}
variable {y : MethodName} {bytes : ByteArray} {maxL n index : Nat} {ret : Option FieldType} {rm : Room} {Qc : Array Value → State → Outcome → State → Prop} {As : List Value} {b ci N : Nat} {fs : List Value} {T : u_T} {C : String}
theorem lv_topq {o : Option Nat} (k0 : o = none → W p l e R s m args below meth c H locs cells slots Q (F0 m pc ls (.null :: rest))) (k1 : ∀ y : Nat, o = some y → W p l e R s m args below meth c H locs cells slots Q (F0 m pc ls (.ref y :: rest))) : W p l e R s m args below meth c H locs cells slots Q (F0 m pc ls (va_rf o :: rest)) := by
  cases o with
  | none => exact k0 rfl
  | some y => exact k1 y rfl
theorem lv_some {o : Option Nat} {y : Nat} (ho : o = some y) (k : W p l e R s m args below meth c H locs cells slots Q (F0 m pc ls (.ref y :: rest))) : W p l e R s m args below meth c H locs cells slots Q (F0 m pc ls (va_rf o :: rest)) := by
  subst ho; exact k
theorem runS (X : Cx p s m args meth c own cc nL ret0 TB D vwCl (tyL t) EX A nm) (hM : Met l y (Cond.code y bytes maxL ret :: TB) rm (va_Pc As (hI D vwCl (tyL t) EX A g)) Qc rm.cells rm.slots A)
    (hlink : Cond.methodLink own index y ∈ TB) (hst : Cond.static y ∈ TB) (hini : Cond.initialized y.cls ∈ TB) (hcode : Cond.code y bytes maxL ret ∈ TB)
    (hd : y.cls ≠ "java/lang/invoke/MethodHandle" ∧ y.cls ≠ "java/lang/invoke/VarHandle" ∧ (parseMethodDescriptor y.desc).map (fun d => d.parameters.length) = some n) (hR : rm.frames + 1 ≤ R.frames ∧ 8 + (maxL + 11) + rm.locals ≤ R.locals) (hf : cells + rm.cells ≤ R.cells ∧ slots + rm.slots ≤ R.slots)
    (hP : hw D vwCl A g H) (hS : va_S A s.heap H locs) (hls : ls.size = nL) (hn : As.length = n) (hst0 : st0 = As.reverse ++ rest) (hW : (rest.map fun v => v.category).sum ≤ 8) (hdg : decode cc pc = .ok (.invokestatic index, 3)) :
    va_Run p l e R s m args below meth c H locs cells slots rm.cells rm.slots (F0 m pc ls st0) rest (Qc As.toArray) A := by
  obtain ⟨hx, hb, hml, hr, hts, hown, hlocks, hK, hEs, hA, hnm⟩ := X
  exact va_runS ⟨hx, hb, hml, hown, hts⟩ hM ⟨callB_of n hts (tb_cons hcode) rfl rfl rfl (hts _ hini) (hts _ hlink) hd hR, hts _ hst⟩ (h_preS hEX hK hEs hP hS hA) rfl hn hls hst0 (lv_room hW) hdg hf
theorem runV (X : Cx p s m args meth c own cc nL ret0 TB D vwCl (tyL t) EX A nm) (hM : Met l y (Cond.code y bytes maxL ret :: TB) rm (va_Pc (.ref b :: As) (hI D vwCl (tyL t) EX A g)) Qc rm.cells rm.slots A)
    (hlink : Cond.methodLink own index y ∈ TB) (hin : Cond.instanceMethod y ∈ TB) (hsel : Cond.selects C y y ∈ TB) (hini : Cond.initialized y.cls ∈ TB) (hcode : Cond.code y bytes maxL ret ∈ TB) (hc : vwCl[ci]? = some (C, T, N))
    (hd : y.cls ≠ "java/lang/invoke/MethodHandle" ∧ y.cls ≠ "java/lang/invoke/VarHandle" ∧ (parseMethodDescriptor y.desc).map (fun d => d.parameters.length) = some n) (hR : rm.frames + 1 ≤ R.frames ∧ 8 + (maxL + 11) + rm.locals ≤ R.locals) (hf : cells + rm.cells ≤ R.cells ∧ slots + rm.slots ≤ R.slots)
    (hP : hw D vwCl A g H) (he : g b = some (.inr (ci, fs))) (hS : va_S A s.heap H locs) (hls : ls.size = nL) (hn : As.length = n) (hst0 : st0 = As.reverse ++ .ref b :: rest) (hW : (rest.map fun v => v.category).sum ≤ 8) (hdg : decode cc pc = .ok (.invokevirtual index, 3)) :
    va_Run p l e R s m args below meth c H locs cells slots rm.cells rm.slots (F0 m pc ls st0) rest (Qc (Value.ref b :: As).toArray) A := by
  obtain ⟨hx, hb, hml, hr, hts, hown, hlocks, hK, hEs, hA, hnm⟩ := X
  exact va_runV ⟨hx, hb, hml, hown, hts⟩ hM ⟨callB_of n hts (tb_cons hcode) rfl rfl rfl (hts _ hini) (hts _ hlink) hd hR, hts _ hin, hts _ hsel⟩ (h_preV hEX hK hEs hP hS hA he hc) rfl hn hls hst0 (lv_room hW) hdg hf
theorem runI (X : Cx p s m args meth c own cc nL ret0 TB D vwCl (tyL t) EX A nm) (hM : Met l y (Cond.code y bytes maxL none :: TB) rm (va_Pc (.ref b :: As) (hI D vwCl (tyL t) EX A g)) Qc rm.cells rm.slots A)
    (hlink : Cond.methodLink own index y ∈ TB) (hin : Cond.instanceMethod y ∈ TB) (hini : Cond.initialized y.cls ∈ TB) (hcode : Cond.code y bytes maxL none ∈ TB) (hy1 : y.name = "<init>")
    (hd : y.cls ≠ "java/lang/invoke/MethodHandle" ∧ y.cls ≠ "java/lang/invoke/VarHandle" ∧ (parseMethodDescriptor y.desc).map (fun d => d.parameters.length) = some n) (hR : rm.frames + 1 ≤ R.frames ∧ 8 + (maxL + 11) + rm.locals ≤ R.locals) (hf : cells + rm.cells ≤ R.cells ∧ slots + rm.slots ≤ R.slots)
    (hP : hw D vwCl A g H) (hS : va_S A s.heap H locs) (hls : ls.size = nL) (hn : As.length = n) (hst0 : st0 = As.reverse ++ .ref b :: rest) (hW : (rest.map fun v => v.category).sum ≤ 8) (hdg : decode cc pc = .ok (.invokespecial index, 3)) :
    va_Run p l e R s m args below meth c H locs cells slots rm.cells rm.slots (F0 m pc ls st0) rest (Qc (Value.ref b :: As).toArray) A := by
  obtain ⟨hx, hb, hml, hr, hts, hown, hlocks, hK, hEs, hA, hnm⟩ := X
  exact va_runI ⟨hx, hb, hml, hown, hts⟩ hM ⟨callB_of n hts (tb_cons hcode) rfl rfl rfl (hts _ hini) (hts _ hlink) hd hR, hy1, hts _ hin⟩ (h_preS (As := .ref b :: As) hEX hK hEs hP hS hA) rfl hn hls hst0 (lv_room hW) hdg hf
theorem runSN (host : String) (X : Cx p s m args meth c own cc nL ret0 TB D vwCl (tyL t) EX A nm) (hM : Met l y (Cond.code y bytes maxL ret :: TB) rm (va_Pc As (hI D vwCl (tyL t) EX A g)) Qc rm.cells rm.slots A)
    (hlink : va_Nw (.methodLinkNest own index y host) s) (hst : Cond.static y ∈ TB) (hini : Cond.initialized y.cls ∈ TB) (hcode : Cond.code y bytes maxL ret ∈ TB)
    (hd : y.cls ≠ "java/lang/invoke/MethodHandle" ∧ y.cls ≠ "java/lang/invoke/VarHandle" ∧ (parseMethodDescriptor y.desc).map (fun d => d.parameters.length) = some n) (hR : rm.frames + 1 ≤ R.frames ∧ 8 + (maxL + 11) + rm.locals ≤ R.locals) (hf : cells + rm.cells ≤ R.cells ∧ slots + rm.slots ≤ R.slots)
    (hP : hw D vwCl A g H) (hS : va_S A s.heap H locs) (hls : ls.size = nL) (hn : As.length = n) (hst0 : st0 = As.reverse ++ rest) (hW : (rest.map fun v => v.category).sum ≤ 8) (hdg : decode cc pc = .ok (.invokestatic index, 3)) :
    va_Run p l e R s m args below meth c H locs cells slots rm.cells rm.slots (F0 m pc ls st0) rest (Qc As.toArray) A := by
  obtain ⟨hx, hb, hml, hr, hts, hown, hlocks, hK, hEs, hA, hnm⟩ := X
  exact va_runSN ⟨hx, hb, hml, hown, hts⟩ hM ⟨va_cnB n hts (tb_cons hcode) rfl rfl rfl hlink (hts _ hini) hd hR, hts _ hst, trivial⟩ (h_preS hEX hK hEs hP hS hA) rfl hn hls hst0 (lv_room hW) hdg hf
theorem runIN (host : String) (X : Cx p s m args meth c own cc nL ret0 TB D vwCl (tyL t) EX A nm) (hM : Met l y (Cond.code y bytes maxL none :: TB) rm (va_Pc (.ref b :: As) (hI D vwCl (tyL t) EX A g)) Qc rm.cells rm.slots A)
    (hlink : va_Nw (.methodLinkNest own index y host) s) (hin : Cond.instanceMethod y ∈ TB) (hini : Cond.initialized y.cls ∈ TB) (hcode : Cond.code y bytes maxL none ∈ TB) (hy1 : y.name = "<init>")
    (hd : y.cls ≠ "java/lang/invoke/MethodHandle" ∧ y.cls ≠ "java/lang/invoke/VarHandle" ∧ (parseMethodDescriptor y.desc).map (fun d => d.parameters.length) = some n) (hR : rm.frames + 1 ≤ R.frames ∧ 8 + (maxL + 11) + rm.locals ≤ R.locals) (hf : cells + rm.cells ≤ R.cells ∧ slots + rm.slots ≤ R.slots)
    (hP : hw D vwCl A g H) (hS : va_S A s.heap H locs) (hls : ls.size = nL) (hn : As.length = n) (hst0 : st0 = As.reverse ++ .ref b :: rest) (hW : (rest.map fun v => v.category).sum ≤ 8) (hdg : decode cc pc = .ok (.invokespecial index, 3)) :
    va_Run p l e R s m args below meth c H locs cells slots rm.cells rm.slots (F0 m pc ls st0) rest (Qc (Value.ref b :: As).toArray) A := by
  obtain ⟨hx, hb, hml, hr, hts, hown, hlocks, hK, hEs, hA, hnm⟩ := X
  exact va_runIN ⟨hx, hb, hml, hown, hts⟩ hM ⟨va_cnB n hts (tb_cons hcode) rfl rfl rfl hlink (hts _ hini) hd hR, hy1, hts _ hin⟩ (h_preS (As := .ref b :: As) hEX hK hEs hP hS hA) rfl hn hls hst0 (lv_room hW) hdg hf
end HRUN
end
section
theorem g_F_11 {p : Program} {l : Launch} {e : Env} {R : Room} {s : State} {m : MethodId} {args : Array Value} {below : List Frame} {meth : Method} {c : Code} {H : Heap} {locs : List Loc} {cells slots : Nat} {Q : State → Prop} {cc : ByteArray} {pc : Nat} {ls : Array Slot} {rest : List Value} {D : va_G} {A : Nat → Prop} {t : Nat → ClassId} {g : hG} {nL : Nat} {ret0 : Option FieldType} {nm : String} {a : Nat} (X : Cx p s m args meth c R_F cc nL ret0 TB D vwCl (tyL t) EX A nm) (hb : c.code = cc) (hP : hw D vwCl A g H) {fs : List Value} (he : g a = some (.inr (0, fs))) {v : Value} (hv : fs[0]? = some v) (hdg : decode cc pc = .ok (.getfield 11, 3)) (kk : W p l e R s m args below meth c H locs cells slots Q (F0 m (pc + 3) ls (v :: rest))) : W p l e R s m args below meth c H locs cells slots Q (F0 m pc ls (.ref a :: rest)) :=
  h_get (C := R_F) (T := F_F) (N := 9) (ref := R_F) (own := R_F) X.1 hb X.2.2.2.2.1 i_F X.2.2.2.2.2.1 X.2.2.2.2.2.2.2.1 hP he rfl 0 (by decide) (X.2.2.2.2.1 _ (tbm 78 (by decide +kernel))) (fun _ h => h) hv hdg kk
theorem p_F_11 {p : Program} {l : Launch} {e : Env} {R : Room} {s : State} {m : MethodId} {args : Array Value} {below : List Frame} {meth : Method} {c : Code} {H : Heap} {locs : List Loc} {cells slots : Nat} {Q : State → Prop} {cc : ByteArray} {pc : Nat} {ls : Array Slot} {rest : List Value} {D : va_G} {A : Nat → Prop} {t : Nat → ClassId} {g : hG} {nL : Nat} {ret0 : Option FieldType} {nm : String} {a : Nat} (X : Cx p s m args meth c R_F cc nL ret0 TB D vwCl (tyL t) EX A nm) (hb : c.code = cc) (hP : hw D vwCl A g H) (hS : va_S A s.heap H locs) {fs : List Value} (he : g a = some (.inr (0, fs))) (hl : 0 < fs.length) {x : Nat} (hin : nm = "<init>") (hdg : decode cc pc = .ok (.putfield 11, 3)) (kk : ∀ (H1 : Heap) (locs1 : List Loc), hw D vwCl A (va_up g a (some (.inr (0, fs.set 0 (.ref x))))) H1 → va_S A s.heap H1 locs1 → W p l e R s m args below meth c H1 locs1 cells slots Q (F0 m (pc + 3) ls rest)) : W p l e R s m args below meth c H locs cells slots Q (F0 m pc ls (.ref x :: .ref a :: rest)) :=
  h_putF (C := R_F) (T := F_F) (N := 9) (ref := R_F) (own := R_F) X.1 hb X.2.2.2.2.1 i_F t_F t_F_ok n_F X.2.2.2.2.2.1 X.2.2.2.2.2.2.2.1 hP hS he rfl 0 (by decide) (X.2.2.2.2.1 _ (tbm 78 (by decide +kernel))) (fun _ h => h) rfl (X.2.2.2.2.2.2.2.2.2.2.trans hin) rfl (t_F_ok 0 (by decide)) rfl rfl hl hdg kk
theorem g_F_17 {p : Program} {l : Launch} {e : Env} {R : Room} {s : State} {m : MethodId} {args : Array Value} {below : List Frame} {meth : Method} {c : Code} {H : Heap} {locs : List Loc} {cells slots : Nat} {Q : State → Prop} {cc : ByteArray} {pc : Nat} {ls : Array Slot} {rest : List Value} {D : va_G} {A : Nat → Prop} {t : Nat → ClassId} {g : hG} {nL : Nat} {ret0 : Option FieldType} {nm : String} {a : Nat} (X : Cx p s m args meth c R_F cc nL ret0 TB D vwCl (tyL t) EX A nm) (hb : c.code = cc) (hP : hw D vwCl A g H) {fs : List Value} (he : g a = some (.inr (0, fs))) {v : Value} (hv : fs[2]? = some v) (hdg : decode cc pc = .ok (.getfield 17, 3)) (kk : W p l e R s m args below meth c H locs cells slots Q (F0 m (pc + 3) ls (v :: rest))) : W p l e R s m args below meth c H locs cells slots Q (F0 m pc ls (.ref a :: rest)) :=
  h_get (C := R_F) (T := F_F) (N := 9) (ref := R_F) (own := R_F) X.1 hb X.2.2.2.2.1 i_F X.2.2.2.2.2.1 X.2.2.2.2.2.2.2.1 hP he rfl 2 (by decide) (X.2.2.2.2.1 _ (tbm 80 (by decide +kernel))) (fun _ h => h) hv hdg kk
theorem p_F_17 {p : Program} {l : Launch} {e : Env} {R : Room} {s : State} {m : MethodId} {args : Array Value} {below : List Frame} {meth : Method} {c : Code} {H : Heap} {locs : List Loc} {cells slots : Nat} {Q : State → Prop} {cc : ByteArray} {pc : Nat} {ls : Array Slot} {rest : List Value} {D : va_G} {A : Nat → Prop} {t : Nat → ClassId} {g : hG} {nL : Nat} {ret0 : Option FieldType} {nm : String} {a : Nat} (X : Cx p s m args meth c R_F cc nL ret0 TB D vwCl (tyL t) EX A nm) (hb : c.code = cc) (hP : hw D vwCl A g H) (hS : va_S A s.heap H locs) {fs : List Value} (he : g a = some (.inr (0, fs))) (hl : 2 < fs.length) {x : Nat} (hin : nm = "<init>") (hdg : decode cc pc = .ok (.putfield 17, 3)) (kk : ∀ (H1 : Heap) (locs1 : List Loc), hw D vwCl A (va_up g a (some (.inr (0, fs.set 2 (.ref x))))) H1 → va_S A s.heap H1 locs1 → W p l e R s m args below meth c H1 locs1 cells slots Q (F0 m (pc + 3) ls rest)) : W p l e R s m args below meth c H locs cells slots Q (F0 m pc ls (.ref x :: .ref a :: rest)) :=
  h_putF (C := R_F) (T := F_F) (N := 9) (ref := R_F) (own := R_F) X.1 hb X.2.2.2.2.1 i_F t_F t_F_ok n_F X.2.2.2.2.2.1 X.2.2.2.2.2.2.2.1 hP hS he rfl 2 (by decide) (X.2.2.2.2.1 _ (tbm 80 (by decide +kernel))) (fun _ h => h) rfl (X.2.2.2.2.2.2.2.2.2.2.trans hin) rfl (t_F_ok 2 (by decide)) rfl rfl hl hdg kk
theorem g_F_21 {p : Program} {l : Launch} {e : Env} {R : Room} {s : State} {m : MethodId} {args : Array Value} {below : List Frame} {meth : Method} {c : Code} {H : Heap} {locs : List Loc} {cells slots : Nat} {Q : State → Prop} {cc : ByteArray} {pc : Nat} {ls : Array Slot} {rest : List Value} {D : va_G} {A : Nat → Prop} {t : Nat → ClassId} {g : hG} {nL : Nat} {ret0 : Option FieldType} {nm : String} {a : Nat} (X : Cx p s m args meth c R_F cc nL ret0 TB D vwCl (tyL t) EX A nm) (hb : c.code = cc) (hP : hw D vwCl A g H) {fs : List Value} (he : g a = some (.inr (0, fs))) {v : Value} (hv : fs[4]? = some v) (hdg : decode cc pc = .ok (.getfield 21, 3)) (kk : W p l e R s m args below meth c H locs cells slots Q (F0 m (pc + 3) ls (v :: rest))) : W p l e R s m args below meth c H locs cells slots Q (F0 m pc ls (.ref a :: rest)) :=
  h_get (C := R_F) (T := F_F) (N := 9) (ref := R_F) (own := R_F) X.1 hb X.2.2.2.2.1 i_F X.2.2.2.2.2.1 X.2.2.2.2.2.2.2.1 hP he rfl 4 (by decide) (X.2.2.2.2.1 _ (tbm 82 (by decide +kernel))) (fun _ h => h) hv hdg kk
theorem p_F_21 {p : Program} {l : Launch} {e : Env} {R : Room} {s : State} {m : MethodId} {args : Array Value} {below : List Frame} {meth : Method} {c : Code} {H : Heap} {locs : List Loc} {cells slots : Nat} {Q : State → Prop} {cc : ByteArray} {pc : Nat} {ls : Array Slot} {rest : List Value} {D : va_G} {A : Nat → Prop} {t : Nat → ClassId} {g : hG} {nL : Nat} {ret0 : Option FieldType} {nm : String} {a : Nat} (X : Cx p s m args meth c R_F cc nL ret0 TB D vwCl (tyL t) EX A nm) (hb : c.code = cc) (hP : hw D vwCl A g H) (hS : va_S A s.heap H locs) {fs : List Value} (he : g a = some (.inr (0, fs))) (hl : 4 < fs.length) {x : Nat} (hin : nm = "<init>") (hdg : decode cc pc = .ok (.putfield 21, 3)) (kk : ∀ (H1 : Heap) (locs1 : List Loc), hw D vwCl A (va_up g a (some (.inr (0, fs.set 4 (.ref x))))) H1 → va_S A s.heap H1 locs1 → W p l e R s m args below meth c H1 locs1 cells slots Q (F0 m (pc + 3) ls rest)) : W p l e R s m args below meth c H locs cells slots Q (F0 m pc ls (.ref x :: .ref a :: rest)) :=
  h_putF (C := R_F) (T := F_F) (N := 9) (ref := R_F) (own := R_F) X.1 hb X.2.2.2.2.1 i_F t_F t_F_ok n_F X.2.2.2.2.2.1 X.2.2.2.2.2.2.2.1 hP hS he rfl 4 (by decide) (X.2.2.2.2.1 _ (tbm 82 (by decide +kernel))) (fun _ h => h) rfl (X.2.2.2.2.2.2.2.2.2.2.trans hin) rfl (t_F_ok 4 (by decide)) rfl rfl hl hdg kk
theorem g_F_27 {p : Program} {l : Launch} {e : Env} {R : Room} {s : State} {m : MethodId} {args : Array Value} {below : List Frame} {meth : Method} {c : Code} {H : Heap} {locs : List Loc} {cells slots : Nat} {Q : State → Prop} {cc : ByteArray} {pc : Nat} {ls : Array Slot} {rest : List Value} {D : va_G} {A : Nat → Prop} {t : Nat → ClassId} {g : hG} {nL : Nat} {ret0 : Option FieldType} {nm : String} {a : Nat} (X : Cx p s m args meth c R_F cc nL ret0 TB D vwCl (tyL t) EX A nm) (hb : c.code = cc) (hP : hw D vwCl A g H) {fs : List Value} (he : g a = some (.inr (0, fs))) {v : Value} (hv : fs[5]? = some v) (hdg : decode cc pc = .ok (.getfield 27, 3)) (kk : W p l e R s m args below meth c H locs cells slots Q (F0 m (pc + 3) ls (v :: rest))) : W p l e R s m args below meth c H locs cells slots Q (F0 m pc ls (.ref a :: rest)) :=
  h_get (C := R_F) (T := F_F) (N := 9) (ref := R_F) (own := R_F) X.1 hb X.2.2.2.2.1 i_F X.2.2.2.2.2.1 X.2.2.2.2.2.2.2.1 hP he rfl 5 (by decide) (X.2.2.2.2.1 _ (tbm 83 (by decide +kernel))) (fun _ h => h) hv hdg kk
theorem p_F_27 {p : Program} {l : Launch} {e : Env} {R : Room} {s : State} {m : MethodId} {args : Array Value} {below : List Frame} {meth : Method} {c : Code} {H : Heap} {locs : List Loc} {cells slots : Nat} {Q : State → Prop} {cc : ByteArray} {pc : Nat} {ls : Array Slot} {rest : List Value} {D : va_G} {A : Nat → Prop} {t : Nat → ClassId} {g : hG} {nL : Nat} {ret0 : Option FieldType} {nm : String} {a : Nat} (X : Cx p s m args meth c R_F cc nL ret0 TB D vwCl (tyL t) EX A nm) (hb : c.code = cc) (hP : hw D vwCl A g H) (hS : va_S A s.heap H locs) {fs : List Value} (he : g a = some (.inr (0, fs))) (hl : 5 < fs.length) {x : Value} (hn : narrow (t_F 5) (x) = x) (hfit : fits (t_F 5) (x) = true) (hin : nm = "<init>") (hdg : decode cc pc = .ok (.putfield 27, 3)) (kk : ∀ (H1 : Heap) (locs1 : List Loc), hw D vwCl A (va_up g a (some (.inr (0, fs.set 5 (x))))) H1 → va_S A s.heap H1 locs1 → W p l e R s m args below meth c H1 locs1 cells slots Q (F0 m (pc + 3) ls rest)) : W p l e R s m args below meth c H locs cells slots Q (F0 m pc ls (x :: .ref a :: rest)) :=
  h_putF (C := R_F) (T := F_F) (N := 9) (ref := R_F) (own := R_F) X.1 hb X.2.2.2.2.1 i_F t_F t_F_ok n_F X.2.2.2.2.2.1 X.2.2.2.2.2.2.2.1 hP hS he rfl 5 (by decide) (X.2.2.2.2.1 _ (tbm 83 (by decide +kernel))) (fun _ h => h) rfl (X.2.2.2.2.2.2.2.2.2.2.trans hin) rfl (t_F_ok 5 (by decide)) hn hfit hl hdg kk
theorem g_F_34 {p : Program} {l : Launch} {e : Env} {R : Room} {s : State} {m : MethodId} {args : Array Value} {below : List Frame} {meth : Method} {c : Code} {H : Heap} {locs : List Loc} {cells slots : Nat} {Q : State → Prop} {cc : ByteArray} {pc : Nat} {ls : Array Slot} {rest : List Value} {D : va_G} {A : Nat → Prop} {t : Nat → ClassId} {g : hG} {nL : Nat} {ret0 : Option FieldType} {nm : String} {a : Nat} (X : Cx p s m args meth c R_F cc nL ret0 TB D vwCl (tyL t) EX A nm) (hb : c.code = cc) (hP : hw D vwCl A g H) {fs : List Value} (he : g a = some (.inr (0, fs))) {v : Value} (hv : fs[6]? = some v) (hdg : decode cc pc = .ok (.getfield 34, 3)) (kk : W p l e R s m args below meth c H locs cells slots Q (F0 m (pc + 3) ls (v :: rest))) : W p l e R s m args below meth c H locs cells slots Q (F0 m pc ls (.ref a :: rest)) :=
  h_get (C := R_F) (T := F_F) (N := 9) (ref := R_F) (own := R_F) X.1 hb X.2.2.2.2.1 i_F X.2.2.2.2.2.1 X.2.2.2.2.2.2.2.1 hP he rfl 6 (by decide) (X.2.2.2.2.1 _ (tbm 84 (by decide +kernel))) (fun _ h => h) hv hdg kk
theorem p_F_34 {p : Program} {l : Launch} {e : Env} {R : Room} {s : State} {m : MethodId} {args : Array Value} {below : List Frame} {meth : Method} {c : Code} {H : Heap} {locs : List Loc} {cells slots : Nat} {Q : State → Prop} {cc : ByteArray} {pc : Nat} {ls : Array Slot} {rest : List Value} {D : va_G} {A : Nat → Prop} {t : Nat → ClassId} {g : hG} {nL : Nat} {ret0 : Option FieldType} {nm : String} {a : Nat} (X : Cx p s m args meth c R_F cc nL ret0 TB D vwCl (tyL t) EX A nm) (hb : c.code = cc) (hP : hw D vwCl A g H) (hS : va_S A s.heap H locs) {fs : List Value} (he : g a = some (.inr (0, fs))) (hl : 6 < fs.length) {x : Value} (hn : narrow (t_F 6) (x) = x) (hfit : fits (t_F 6) (x) = true) (hin : nm = "<init>") (hdg : decode cc pc = .ok (.putfield 34, 3)) (kk : ∀ (H1 : Heap) (locs1 : List Loc), hw D vwCl A (va_up g a (some (.inr (0, fs.set 6 (x))))) H1 → va_S A s.heap H1 locs1 → W p l e R s m args below meth c H1 locs1 cells slots Q (F0 m (pc + 3) ls rest)) : W p l e R s m args below meth c H locs cells slots Q (F0 m pc ls (x :: .ref a :: rest)) :=
  h_putF (C := R_F) (T := F_F) (N := 9) (ref := R_F) (own := R_F) X.1 hb X.2.2.2.2.1 i_F t_F t_F_ok n_F X.2.2.2.2.2.1 X.2.2.2.2.2.2.2.1 hP hS he rfl 6 (by decide) (X.2.2.2.2.1 _ (tbm 84 (by decide +kernel))) (fun _ h => h) rfl (X.2.2.2.2.2.2.2.2.2.2.trans hin) rfl (t_F_ok 6 (by decide)) hn hfit hl hdg kk
theorem g_F_38 {p : Program} {l : Launch} {e : Env} {R : Room} {s : State} {m : MethodId} {args : Array Value} {below : List Frame} {meth : Method} {c : Code} {H : Heap} {locs : List Loc} {cells slots : Nat} {Q : State → Prop} {cc : ByteArray} {pc : Nat} {ls : Array Slot} {rest : List Value} {D : va_G} {A : Nat → Prop} {t : Nat → ClassId} {g : hG} {nL : Nat} {ret0 : Option FieldType} {nm : String} {a : Nat} (X : Cx p s m args meth c R_F cc nL ret0 TB D vwCl (tyL t) EX A nm) (hb : c.code = cc) (hP : hw D vwCl A g H) {fs : List Value} (he : g a = some (.inr (0, fs))) {v : Value} (hv : fs[7]? = some v) (hdg : decode cc pc = .ok (.getfield 38, 3)) (kk : W p l e R s m args below meth c H locs cells slots Q (F0 m (pc + 3) ls (v :: rest))) : W p l e R s m args below meth c H locs cells slots Q (F0 m pc ls (.ref a :: rest)) :=
  h_get (C := R_F) (T := F_F) (N := 9) (ref := R_F) (own := R_F) X.1 hb X.2.2.2.2.1 i_F X.2.2.2.2.2.1 X.2.2.2.2.2.2.2.1 hP he rfl 7 (by decide) (X.2.2.2.2.1 _ (tbm 85 (by decide +kernel))) (fun _ h => h) hv hdg kk
theorem p_F_38 {p : Program} {l : Launch} {e : Env} {R : Room} {s : State} {m : MethodId} {args : Array Value} {below : List Frame} {meth : Method} {c : Code} {H : Heap} {locs : List Loc} {cells slots : Nat} {Q : State → Prop} {cc : ByteArray} {pc : Nat} {ls : Array Slot} {rest : List Value} {D : va_G} {A : Nat → Prop} {t : Nat → ClassId} {g : hG} {nL : Nat} {ret0 : Option FieldType} {nm : String} {a : Nat} (X : Cx p s m args meth c R_F cc nL ret0 TB D vwCl (tyL t) EX A nm) (hb : c.code = cc) (hP : hw D vwCl A g H) (hS : va_S A s.heap H locs) {fs : List Value} (he : g a = some (.inr (0, fs))) (hl : 7 < fs.length) {x : Nat} (hin : nm = "<init>") (hdg : decode cc pc = .ok (.putfield 38, 3)) (kk : ∀ (H1 : Heap) (locs1 : List Loc), hw D vwCl A (va_up g a (some (.inr (0, fs.set 7 (.ref x))))) H1 → va_S A s.heap H1 locs1 → W p l e R s m args below meth c H1 locs1 cells slots Q (F0 m (pc + 3) ls rest)) : W p l e R s m args below meth c H locs cells slots Q (F0 m pc ls (.ref x :: .ref a :: rest)) :=
  h_putF (C := R_F) (T := F_F) (N := 9) (ref := R_F) (own := R_F) X.1 hb X.2.2.2.2.1 i_F t_F t_F_ok n_F X.2.2.2.2.2.1 X.2.2.2.2.2.2.2.1 hP hS he rfl 7 (by decide) (X.2.2.2.2.1 _ (tbm 85 (by decide +kernel))) (fun _ h => h) rfl (X.2.2.2.2.2.2.2.2.2.2.trans hin) rfl (t_F_ok 7 (by decide)) rfl rfl hl hdg kk
theorem g_F_42 {p : Program} {l : Launch} {e : Env} {R : Room} {s : State} {m : MethodId} {args : Array Value} {below : List Frame} {meth : Method} {c : Code} {H : Heap} {locs : List Loc} {cells slots : Nat} {Q : State → Prop} {cc : ByteArray} {pc : Nat} {ls : Array Slot} {rest : List Value} {D : va_G} {A : Nat → Prop} {t : Nat → ClassId} {g : hG} {nL : Nat} {ret0 : Option FieldType} {nm : String} {a : Nat} (X : Cx p s m args meth c R_F cc nL ret0 TB D vwCl (tyL t) EX A nm) (hb : c.code = cc) (hP : hw D vwCl A g H) {fs : List Value} (he : g a = some (.inr (0, fs))) {v : Value} (hv : fs[8]? = some v) (hdg : decode cc pc = .ok (.getfield 42, 3)) (kk : W p l e R s m args below meth c H locs cells slots Q (F0 m (pc + 3) ls (v :: rest))) : W p l e R s m args below meth c H locs cells slots Q (F0 m pc ls (.ref a :: rest)) :=
  h_get (C := R_F) (T := F_F) (N := 9) (ref := R_F) (own := R_F) X.1 hb X.2.2.2.2.1 i_F X.2.2.2.2.2.1 X.2.2.2.2.2.2.2.1 hP he rfl 8 (by decide) (X.2.2.2.2.1 _ (tbm 86 (by decide +kernel))) (fun _ h => h) hv hdg kk
theorem p_F_42 {p : Program} {l : Launch} {e : Env} {R : Room} {s : State} {m : MethodId} {args : Array Value} {below : List Frame} {meth : Method} {c : Code} {H : Heap} {locs : List Loc} {cells slots : Nat} {Q : State → Prop} {cc : ByteArray} {pc : Nat} {ls : Array Slot} {rest : List Value} {D : va_G} {A : Nat → Prop} {t : Nat → ClassId} {g : hG} {nL : Nat} {ret0 : Option FieldType} {nm : String} {a : Nat} (X : Cx p s m args meth c R_F cc nL ret0 TB D vwCl (tyL t) EX A nm) (hb : c.code = cc) (hP : hw D vwCl A g H) (hS : va_S A s.heap H locs) {fs : List Value} (he : g a = some (.inr (0, fs))) (hl : 8 < fs.length) {x : Int32} (hdg : decode cc pc = .ok (.putfield 42, 3)) (kk : ∀ (H1 : Heap) (locs1 : List Loc), hw D vwCl A (va_up g a (some (.inr (0, fs.set 8 (.int x))))) H1 → va_S A s.heap H1 locs1 → W p l e R s m args below meth c H1 locs1 cells slots Q (F0 m (pc + 3) ls rest)) : W p l e R s m args below meth c H locs cells slots Q (F0 m pc ls (.int x :: .ref a :: rest)) :=
  h_put (C := R_F) (T := F_F) (N := 9) (ref := R_F) (own := R_F) X.1 hb X.2.2.2.2.1 i_F t_F t_F_ok n_F X.2.2.2.2.2.1 X.2.2.2.2.2.2.2.1 hP hS he rfl 8 (by decide) (X.2.2.2.2.1 _ (tbm 86 (by decide +kernel))) (fun _ h => h) rfl (t_F_ok 8 (by decide)) rfl rfl hl hdg kk
theorem g_F_52 {p : Program} {l : Launch} {e : Env} {R : Room} {s : State} {m : MethodId} {args : Array Value} {below : List Frame} {meth : Method} {c : Code} {H : Heap} {locs : List Loc} {cells slots : Nat} {Q : State → Prop} {cc : ByteArray} {pc : Nat} {ls : Array Slot} {rest : List Value} {D : va_G} {A : Nat → Prop} {t : Nat → ClassId} {g : hG} {nL : Nat} {ret0 : Option FieldType} {nm : String} {a : Nat} (X : Cx p s m args meth c R_F cc nL ret0 TB D vwCl (tyL t) EX A nm) (hb : c.code = cc) (hP : hw D vwCl A g H) {fs : List Value} (he : g a = some (.inr (0, fs))) {v : Value} (hv : fs[1]? = some v) (hdg : decode cc pc = .ok (.getfield 52, 3)) (kk : W p l e R s m args below meth c H locs cells slots Q (F0 m (pc + 3) ls (v :: rest))) : W p l e R s m args below meth c H locs cells slots Q (F0 m pc ls (.ref a :: rest)) :=
  h_get (C := R_F) (T := F_F) (N := 9) (ref := R_F) (own := R_F) X.1 hb X.2.2.2.2.1 i_F X.2.2.2.2.2.1 X.2.2.2.2.2.2.2.1 hP he rfl 1 (by decide) (X.2.2.2.2.1 _ (tbm 79 (by decide +kernel))) (fun _ h => h) hv hdg kk
theorem p_F_52 {p : Program} {l : Launch} {e : Env} {R : Room} {s : State} {m : MethodId} {args : Array Value} {below : List Frame} {meth : Method} {c : Code} {H : Heap} {locs : List Loc} {cells slots : Nat} {Q : State → Prop} {cc : ByteArray} {pc : Nat} {ls : Array Slot} {rest : List Value} {D : va_G} {A : Nat → Prop} {t : Nat → ClassId} {g : hG} {nL : Nat} {ret0 : Option FieldType} {nm : String} {a : Nat} (X : Cx p s m args meth c R_F cc nL ret0 TB D vwCl (tyL t) EX A nm) (hb : c.code = cc) (hP : hw D vwCl A g H) (hS : va_S A s.heap H locs) {fs : List Value} (he : g a = some (.inr (0, fs))) (hl : 1 < fs.length) {x : Int32} (hdg : decode cc pc = .ok (.putfield 52, 3)) (kk : ∀ (H1 : Heap) (locs1 : List Loc), hw D vwCl A (va_up g a (some (.inr (0, fs.set 1 (.int x))))) H1 → va_S A s.heap H1 locs1 → W p l e R s m args below meth c H1 locs1 cells slots Q (F0 m (pc + 3) ls rest)) : W p l e R s m args below meth c H locs cells slots Q (F0 m pc ls (.int x :: .ref a :: rest)) :=
  h_put (C := R_F) (T := F_F) (N := 9) (ref := R_F) (own := R_F) X.1 hb X.2.2.2.2.1 i_F t_F t_F_ok n_F X.2.2.2.2.2.1 X.2.2.2.2.2.2.2.1 hP hS he rfl 1 (by decide) (X.2.2.2.2.1 _ (tbm 79 (by decide +kernel))) (fun _ h => h) rfl (t_F_ok 1 (by decide)) rfl rfl hl hdg kk
theorem p_F_70 {p : Program} {l : Launch} {e : Env} {R : Room} {s : State} {m : MethodId} {args : Array Value} {below : List Frame} {meth : Method} {c : Code} {H : Heap} {locs : List Loc} {cells slots : Nat} {Q : State → Prop} {cc : ByteArray} {pc : Nat} {ls : Array Slot} {rest : List Value} {D : va_G} {A : Nat → Prop} {t : Nat → ClassId} {g : hG} {nL : Nat} {ret0 : Option FieldType} {nm : String} {a : Nat} (X : Cx p s m args meth c R_F cc nL ret0 TB D vwCl (tyL t) EX A nm) (hb : c.code = cc) (hP : hw D vwCl A g H) (hS : va_S A s.heap H locs) {fs : List Value} (he : g a = some (.inr (5, fs))) (hl : 3 < fs.length) {x : Int32} (hdg : decode cc pc = .ok (.putfield 70, 3)) (kk : ∀ (H1 : Heap) (locs1 : List Loc), hw D vwCl A (va_up g a (some (.inr (5, fs.set 3 (.int x))))) H1 → va_S A s.heap H1 locs1 → W p l e R s m args below meth c H1 locs1 cells slots Q (F0 m (pc + 3) ls rest)) : W p l e R s m args below meth c H locs cells slots Q (F0 m pc ls (.int x :: .ref a :: rest)) :=
  h_put (C := R_R) (T := F_R) (N := 5) (ref := R_R) (own := R_F) X.1 hb X.2.2.2.2.1 i_R t_R t_R_ok n_R X.2.2.2.2.2.1 X.2.2.2.2.2.2.2.1 hP hS he rfl 3 (by decide) (X.2.2.2.2.1 _ (tbm 124 (by decide +kernel))) (fun _ h => h) rfl (t_R_ok 3 (by decide)) rfl rfl hl hdg kk
theorem p_F_73 {p : Program} {l : Launch} {e : Env} {R : Room} {s : State} {m : MethodId} {args : Array Value} {below : List Frame} {meth : Method} {c : Code} {H : Heap} {locs : List Loc} {cells slots : Nat} {Q : State → Prop} {cc : ByteArray} {pc : Nat} {ls : Array Slot} {rest : List Value} {D : va_G} {A : Nat → Prop} {t : Nat → ClassId} {g : hG} {nL : Nat} {ret0 : Option FieldType} {nm : String} {a : Nat} (X : Cx p s m args meth c R_F cc nL ret0 TB D vwCl (tyL t) EX A nm) (hb : c.code = cc) (hP : hw D vwCl A g H) (hS : va_S A s.heap H locs) {fs : List Value} (he : g a = some (.inr (5, fs))) (hl : 4 < fs.length) {x : Int32} (hdg : decode cc pc = .ok (.putfield 73, 3)) (kk : ∀ (H1 : Heap) (locs1 : List Loc), hw D vwCl A (va_up g a (some (.inr (5, fs.set 4 (.int x))))) H1 → va_S A s.heap H1 locs1 → W p l e R s m args below meth c H1 locs1 cells slots Q (F0 m (pc + 3) ls rest)) : W p l e R s m args below meth c H locs cells slots Q (F0 m pc ls (.int x :: .ref a :: rest)) :=
  h_put (C := R_R) (T := F_R) (N := 5) (ref := R_R) (own := R_F) X.1 hb X.2.2.2.2.1 i_R t_R t_R_ok n_R X.2.2.2.2.2.1 X.2.2.2.2.2.2.2.1 hP hS he rfl 4 (by decide) (X.2.2.2.2.1 _ (tbm 126 (by decide +kernel))) (fun _ h => h) rfl (t_R_ok 4 (by decide)) rfl rfl hl hdg kk
theorem g_F_83 {p : Program} {l : Launch} {e : Env} {R : Room} {s : State} {m : MethodId} {args : Array Value} {below : List Frame} {meth : Method} {c : Code} {H : Heap} {locs : List Loc} {cells slots : Nat} {Q : State → Prop} {cc : ByteArray} {pc : Nat} {ls : Array Slot} {rest : List Value} {D : va_G} {A : Nat → Prop} {t : Nat → ClassId} {g : hG} {nL : Nat} {ret0 : Option FieldType} {nm : String} {a : Nat} (X : Cx p s m args meth c R_F cc nL ret0 TB D vwCl (tyL t) EX A nm) (hb : c.code = cc) (hP : hw D vwCl A g H) {fs : List Value} (he : g a = some (.inr (1, fs))) {v : Value} (hv : fs[1]? = some v) (hdg : decode cc pc = .ok (.getfield 83, 3)) (kk : W p l e R s m args below meth c H locs cells slots Q (F0 m (pc + 3) ls (v :: rest))) : W p l e R s m args below meth c H locs cells slots Q (F0 m pc ls (.ref a :: rest)) :=
  h_get (C := R_C) (T := F_C) (N := 2) (ref := R_C) (own := R_F) X.1 hb X.2.2.2.2.1 i_C X.2.2.2.2.2.1 X.2.2.2.2.2.2.2.1 hP he rfl 1 (by decide) (X.2.2.2.2.1 _ (tbm 71 (by decide +kernel))) (fun _ h => h) hv hdg kk
theorem g_F_93 {p : Program} {l : Launch} {e : Env} {R : Room} {s : State} {m : MethodId} {args : Array Value} {below : List Frame} {meth : Method} {c : Code} {H : Heap} {locs : List Loc} {cells slots : Nat} {Q : State → Prop} {cc : ByteArray} {pc : Nat} {ls : Array Slot} {rest : List Value} {D : va_G} {A : Nat → Prop} {t : Nat → ClassId} {g : hG} {nL : Nat} {ret0 : Option FieldType} {nm : String} {a : Nat} (X : Cx p s m args meth c R_F cc nL ret0 TB D vwCl (tyL t) EX A nm) (hb : c.code = cc) (hP : hw D vwCl A g H) {fs : List Value} (he : g a = some (.inr (0, fs))) {v : Value} (hv : fs[3]? = some v) (hdg : decode cc pc = .ok (.getfield 93, 3)) (kk : W p l e R s m args below meth c H locs cells slots Q (F0 m (pc + 3) ls (v :: rest))) : W p l e R s m args below meth c H locs cells slots Q (F0 m pc ls (.ref a :: rest)) :=
  h_get (C := R_F) (T := F_F) (N := 9) (ref := R_F) (own := R_F) X.1 hb X.2.2.2.2.1 i_F X.2.2.2.2.2.1 X.2.2.2.2.2.2.2.1 hP he rfl 3 (by decide) (X.2.2.2.2.1 _ (tbm 81 (by decide +kernel))) (fun _ h => h) hv hdg kk
theorem p_F_93 {p : Program} {l : Launch} {e : Env} {R : Room} {s : State} {m : MethodId} {args : Array Value} {below : List Frame} {meth : Method} {c : Code} {H : Heap} {locs : List Loc} {cells slots : Nat} {Q : State → Prop} {cc : ByteArray} {pc : Nat} {ls : Array Slot} {rest : List Value} {D : va_G} {A : Nat → Prop} {t : Nat → ClassId} {g : hG} {nL : Nat} {ret0 : Option FieldType} {nm : String} {a : Nat} (X : Cx p s m args meth c R_F cc nL ret0 TB D vwCl (tyL t) EX A nm) (hb : c.code = cc) (hP : hw D vwCl A g H) (hS : va_S A s.heap H locs) {fs : List Value} (he : g a = some (.inr (0, fs))) (hl : 3 < fs.length) {x : Int32} (hdg : decode cc pc = .ok (.putfield 93, 3)) (kk : ∀ (H1 : Heap) (locs1 : List Loc), hw D vwCl A (va_up g a (some (.inr (0, fs.set 3 (.int x))))) H1 → va_S A s.heap H1 locs1 → W p l e R s m args below meth c H1 locs1 cells slots Q (F0 m (pc + 3) ls rest)) : W p l e R s m args below meth c H locs cells slots Q (F0 m pc ls (.int x :: .ref a :: rest)) :=
  h_put (C := R_F) (T := F_F) (N := 9) (ref := R_F) (own := R_F) X.1 hb X.2.2.2.2.1 i_F t_F t_F_ok n_F X.2.2.2.2.2.1 X.2.2.2.2.2.2.2.1 hP hS he rfl 3 (by decide) (X.2.2.2.2.1 _ (tbm 81 (by decide +kernel))) (fun _ h => h) rfl (t_F_ok 3 (by decide)) rfl rfl hl hdg kk
theorem g_F_128 {p : Program} {l : Launch} {e : Env} {R : Room} {s : State} {m : MethodId} {args : Array Value} {below : List Frame} {meth : Method} {c : Code} {H : Heap} {locs : List Loc} {cells slots : Nat} {Q : State → Prop} {cc : ByteArray} {pc : Nat} {ls : Array Slot} {rest : List Value} {D : va_G} {A : Nat → Prop} {t : Nat → ClassId} {g : hG} {nL : Nat} {ret0 : Option FieldType} {nm : String} {a : Nat} (X : Cx p s m args meth c R_F cc nL ret0 TB D vwCl (tyL t) EX A nm) (hb : c.code = cc) (hP : hw D vwCl A g H) {fs : List Value} (he : g a = some (.inr (4, fs))) {v : Value} (hv : fs[4]? = some v) (hdg : decode cc pc = .ok (.getfield 128, 3)) (kk : W p l e R s m args below meth c H locs cells slots Q (F0 m (pc + 3) ls (v :: rest))) : W p l e R s m args below meth c H locs cells slots Q (F0 m pc ls (.ref a :: rest)) :=
  h_get (C := R_L) (T := F_L) (N := 6) (ref := R_L) (own := R_F) X.1 hb X.2.2.2.2.1 i_L X.2.2.2.2.2.1 X.2.2.2.2.2.2.2.1 hP he rfl 4 (by decide) (X.2.2.2.2.1 _ (tbm 184 (by decide +kernel))) (fun _ h => h) hv hdg kk
theorem p_F_128 {p : Program} {l : Launch} {e : Env} {R : Room} {s : State} {m : MethodId} {args : Array Value} {below : List Frame} {meth : Method} {c : Code} {H : Heap} {locs : List Loc} {cells slots : Nat} {Q : State → Prop} {cc : ByteArray} {pc : Nat} {ls : Array Slot} {rest : List Value} {D : va_G} {A : Nat → Prop} {t : Nat → ClassId} {g : hG} {nL : Nat} {ret0 : Option FieldType} {nm : String} {a : Nat} (X : Cx p s m args meth c R_F cc nL ret0 TB D vwCl (tyL t) EX A nm) (hb : c.code = cc) (hP : hw D vwCl A g H) (hS : va_S A s.heap H locs) {fs : List Value} (he : g a = some (.inr (4, fs))) (hl : 4 < fs.length) {x : Value} (hn : narrow (t_L 4) (x) = x) (hfit : fits (t_L 4) (x) = true) (hdg : decode cc pc = .ok (.putfield 128, 3)) (kk : ∀ (H1 : Heap) (locs1 : List Loc), hw D vwCl A (va_up g a (some (.inr (4, fs.set 4 (x))))) H1 → va_S A s.heap H1 locs1 → W p l e R s m args below meth c H1 locs1 cells slots Q (F0 m (pc + 3) ls rest)) : W p l e R s m args below meth c H locs cells slots Q (F0 m pc ls (x :: .ref a :: rest)) :=
  h_put (C := R_L) (T := F_L) (N := 6) (ref := R_L) (own := R_F) X.1 hb X.2.2.2.2.1 i_L t_L t_L_ok n_L X.2.2.2.2.2.1 X.2.2.2.2.2.2.2.1 hP hS he rfl 4 (by decide) (X.2.2.2.2.1 _ (tbm 184 (by decide +kernel))) (fun _ h => h) rfl (t_L_ok 4 (by decide)) hn hfit hl hdg kk
theorem g_F_132 {p : Program} {l : Launch} {e : Env} {R : Room} {s : State} {m : MethodId} {args : Array Value} {below : List Frame} {meth : Method} {c : Code} {H : Heap} {locs : List Loc} {cells slots : Nat} {Q : State → Prop} {cc : ByteArray} {pc : Nat} {ls : Array Slot} {rest : List Value} {D : va_G} {A : Nat → Prop} {t : Nat → ClassId} {g : hG} {nL : Nat} {ret0 : Option FieldType} {nm : String} {a : Nat} (X : Cx p s m args meth c R_F cc nL ret0 TB D vwCl (tyL t) EX A nm) (hb : c.code = cc) (hP : hw D vwCl A g H) {fs : List Value} (he : g a = some (.inr (2, fs))) {v : Value} (hv : fs[6]? = some v) (hdg : decode cc pc = .ok (.getfield 132, 3)) (kk : W p l e R s m args below meth c H locs cells slots Q (F0 m (pc + 3) ls (v :: rest))) : W p l e R s m args below meth c H locs cells slots Q (F0 m pc ls (.ref a :: rest)) :=
  h_get (C := R_D) (T := F_D) (N := 7) (ref := R_D) (own := R_F) X.1 hb X.2.2.2.2.1 i_D X.2.2.2.2.2.1 X.2.2.2.2.2.2.2.1 hP he rfl 6 (by decide) (X.2.2.2.2.1 _ (tbm 269 (by decide +kernel))) (fun _ h => h) hv hdg kk
theorem g_F_138 {p : Program} {l : Launch} {e : Env} {R : Room} {s : State} {m : MethodId} {args : Array Value} {below : List Frame} {meth : Method} {c : Code} {H : Heap} {locs : List Loc} {cells slots : Nat} {Q : State → Prop} {cc : ByteArray} {pc : Nat} {ls : Array Slot} {rest : List Value} {D : va_G} {A : Nat → Prop} {t : Nat → ClassId} {g : hG} {nL : Nat} {ret0 : Option FieldType} {nm : String} {a : Nat} (X : Cx p s m args meth c R_F cc nL ret0 TB D vwCl (tyL t) EX A nm) (hb : c.code = cc) (hP : hw D vwCl A g H) {fs : List Value} (he : g a = some (.inr (2, fs))) {v : Value} (hv : fs[5]? = some v) (hdg : decode cc pc = .ok (.getfield 138, 3)) (kk : W p l e R s m args below meth c H locs cells slots Q (F0 m (pc + 3) ls (v :: rest))) : W p l e R s m args below meth c H locs cells slots Q (F0 m pc ls (.ref a :: rest)) :=
  h_get (C := R_D) (T := F_D) (N := 7) (ref := R_D) (own := R_F) X.1 hb X.2.2.2.2.1 i_D X.2.2.2.2.2.1 X.2.2.2.2.2.2.2.1 hP he rfl 5 (by decide) (X.2.2.2.2.1 _ (tbm 267 (by decide +kernel))) (fun _ h => h) hv hdg kk
theorem p_F_138 {p : Program} {l : Launch} {e : Env} {R : Room} {s : State} {m : MethodId} {args : Array Value} {below : List Frame} {meth : Method} {c : Code} {H : Heap} {locs : List Loc} {cells slots : Nat} {Q : State → Prop} {cc : ByteArray} {pc : Nat} {ls : Array Slot} {rest : List Value} {D : va_G} {A : Nat → Prop} {t : Nat → ClassId} {g : hG} {nL : Nat} {ret0 : Option FieldType} {nm : String} {a : Nat} (X : Cx p s m args meth c R_F cc nL ret0 TB D vwCl (tyL t) EX A nm) (hb : c.code = cc) (hP : hw D vwCl A g H) (hS : va_S A s.heap H locs) {fs : List Value} (he : g a = some (.inr (2, fs))) (hl : 5 < fs.length) {x : Int64} (hdg : decode cc pc = .ok (.putfield 138, 3)) (kk : ∀ (H1 : Heap) (locs1 : List Loc), hw D vwCl A (va_up g a (some (.inr (2, fs.set 5 (.long x))))) H1 → va_S A s.heap H1 locs1 → W p l e R s m args below meth c H1 locs1 cells slots Q (F0 m (pc + 3) ls rest)) : W p l e R s m args below meth c H locs cells slots Q (F0 m pc ls (.long x :: .ref a :: rest)) :=
  h_put (C := R_D) (T := F_D) (N := 7) (ref := R_D) (own := R_F) X.1 hb X.2.2.2.2.1 i_D t_D t_D_ok n_D X.2.2.2.2.2.1 X.2.2.2.2.2.2.2.1 hP hS he rfl 5 (by decide) (X.2.2.2.2.1 _ (tbm 267 (by decide +kernel))) (fun _ h => h) rfl (t_D_ok 5 (by decide)) rfl rfl hl hdg kk
theorem g_F_141 {p : Program} {l : Launch} {e : Env} {R : Room} {s : State} {m : MethodId} {args : Array Value} {below : List Frame} {meth : Method} {c : Code} {H : Heap} {locs : List Loc} {cells slots : Nat} {Q : State → Prop} {cc : ByteArray} {pc : Nat} {ls : Array Slot} {rest : List Value} {D : va_G} {A : Nat → Prop} {t : Nat → ClassId} {g : hG} {nL : Nat} {ret0 : Option FieldType} {nm : String} {a : Nat} (X : Cx p s m args meth c R_F cc nL ret0 TB D vwCl (tyL t) EX A nm) (hb : c.code = cc) (hP : hw D vwCl A g H) {fs : List Value} (he : g a = some (.inr (4, fs))) {v : Value} (hv : fs[1]? = some v) (hdg : decode cc pc = .ok (.getfield 141, 3)) (kk : W p l e R s m args below meth c H locs cells slots Q (F0 m (pc + 3) ls (v :: rest))) : W p l e R s m args below meth c H locs cells slots Q (F0 m pc ls (.ref a :: rest)) :=
  h_get (C := R_L) (T := F_L) (N := 6) (ref := R_L) (own := R_F) X.1 hb X.2.2.2.2.1 i_L X.2.2.2.2.2.1 X.2.2.2.2.2.2.2.1 hP he rfl 1 (by decide) (X.2.2.2.2.1 _ (tbm 177 (by decide +kernel))) (fun _ h => h) hv hdg kk
theorem g_F_148 {p : Program} {l : Launch} {e : Env} {R : Room} {s : State} {m : MethodId} {args : Array Value} {below : List Frame} {meth : Method} {c : Code} {H : Heap} {locs : List Loc} {cells slots : Nat} {Q : State → Prop} {cc : ByteArray} {pc : Nat} {ls : Array Slot} {rest : List Value} {D : va_G} {A : Nat → Prop} {t : Nat → ClassId} {g : hG} {nL : Nat} {ret0 : Option FieldType} {nm : String} {a : Nat} (X : Cx p s m args meth c R_F cc nL ret0 TB D vwCl (tyL t) EX A nm) (hb : c.code = cc) (hP : hw D vwCl A g H) {fs : List Value} (he : g a = some (.inr (3, fs))) {v : Value} (hv : fs[2]? = some v) (hdg : decode cc pc = .ok (.getfield 148, 3)) (kk : W p l e R s m args below meth c H locs cells slots Q (F0 m (pc + 3) ls (v :: rest))) : W p l e R s m args below meth c H locs cells slots Q (F0 m pc ls (.ref a :: rest)) :=
  h_get (C := R_B) (T := F_B) (N := 3) (ref := R_B) (own := R_F) X.1 hb X.2.2.2.2.1 i_B X.2.2.2.2.2.1 X.2.2.2.2.2.2.2.1 hP he rfl 2 (by decide) (X.2.2.2.2.1 _ (tbm 55 (by decide +kernel))) (fun _ h => h) hv hdg kk
theorem g_F_152 {p : Program} {l : Launch} {e : Env} {R : Room} {s : State} {m : MethodId} {args : Array Value} {below : List Frame} {meth : Method} {c : Code} {H : Heap} {locs : List Loc} {cells slots : Nat} {Q : State → Prop} {cc : ByteArray} {pc : Nat} {ls : Array Slot} {rest : List Value} {D : va_G} {A : Nat → Prop} {t : Nat → ClassId} {g : hG} {nL : Nat} {ret0 : Option FieldType} {nm : String} {a : Nat} (X : Cx p s m args meth c R_F cc nL ret0 TB D vwCl (tyL t) EX A nm) (hb : c.code = cc) (hP : hw D vwCl A g H) {fs : List Value} (he : g a = some (.inr (2, fs))) {v : Value} (hv : fs[0]? = some v) (hdg : decode cc pc = .ok (.getfield 152, 3)) (kk : W p l e R s m args below meth c H locs cells slots Q (F0 m (pc + 3) ls (v :: rest))) : W p l e R s m args below meth c H locs cells slots Q (F0 m pc ls (.ref a :: rest)) :=
  h_get (C := R_D) (T := F_D) (N := 7) (ref := R_D) (own := R_F) X.1 hb X.2.2.2.2.1 i_D X.2.2.2.2.2.1 X.2.2.2.2.2.2.2.1 hP he rfl 0 (by decide) (X.2.2.2.2.1 _ (tbm 256 (by decide +kernel))) (fun _ h => h) hv hdg kk
theorem g_F_178 {p : Program} {l : Launch} {e : Env} {R : Room} {s : State} {m : MethodId} {args : Array Value} {below : List Frame} {meth : Method} {c : Code} {H : Heap} {locs : List Loc} {cells slots : Nat} {Q : State → Prop} {cc : ByteArray} {pc : Nat} {ls : Array Slot} {rest : List Value} {D : va_G} {A : Nat → Prop} {t : Nat → ClassId} {g : hG} {nL : Nat} {ret0 : Option FieldType} {nm : String} {a : Nat} (X : Cx p s m args meth c R_F cc nL ret0 TB D vwCl (tyL t) EX A nm) (hb : c.code = cc) (hP : hw D vwCl A g H) {fs : List Value} (he : g a = some (.inr (2, fs))) {v : Value} (hv : fs[3]? = some v) (hdg : decode cc pc = .ok (.getfield 178, 3)) (kk : W p l e R s m args below meth c H locs cells slots Q (F0 m (pc + 3) ls (v :: rest))) : W p l e R s m args below meth c H locs cells slots Q (F0 m pc ls (.ref a :: rest)) :=
  h_get (C := R_D) (T := F_D) (N := 7) (ref := R_D) (own := R_F) X.1 hb X.2.2.2.2.1 i_D X.2.2.2.2.2.1 X.2.2.2.2.2.2.2.1 hP he rfl 3 (by decide) (X.2.2.2.2.1 _ (tbm 261 (by decide +kernel))) (fun _ h => h) hv hdg kk
theorem g_F_181 {p : Program} {l : Launch} {e : Env} {R : Room} {s : State} {m : MethodId} {args : Array Value} {below : List Frame} {meth : Method} {c : Code} {H : Heap} {locs : List Loc} {cells slots : Nat} {Q : State → Prop} {cc : ByteArray} {pc : Nat} {ls : Array Slot} {rest : List Value} {D : va_G} {A : Nat → Prop} {t : Nat → ClassId} {g : hG} {nL : Nat} {ret0 : Option FieldType} {nm : String} {a : Nat} (X : Cx p s m args meth c R_F cc nL ret0 TB D vwCl (tyL t) EX A nm) (hb : c.code = cc) (hP : hw D vwCl A g H) {fs : List Value} (he : g a = some (.inr (2, fs))) {v : Value} (hv : fs[4]? = some v) (hdg : decode cc pc = .ok (.getfield 181, 3)) (kk : W p l e R s m args below meth c H locs cells slots Q (F0 m (pc + 3) ls (v :: rest))) : W p l e R s m args below meth c H locs cells slots Q (F0 m pc ls (.ref a :: rest)) :=
  h_get (C := R_D) (T := F_D) (N := 7) (ref := R_D) (own := R_F) X.1 hb X.2.2.2.2.1 i_D X.2.2.2.2.2.1 X.2.2.2.2.2.2.2.1 hP he rfl 4 (by decide) (X.2.2.2.2.1 _ (tbm 264 (by decide +kernel))) (fun _ h => h) hv hdg kk
theorem g_F_184 {p : Program} {l : Launch} {e : Env} {R : Room} {s : State} {m : MethodId} {args : Array Value} {below : List Frame} {meth : Method} {c : Code} {H : Heap} {locs : List Loc} {cells slots : Nat} {Q : State → Prop} {cc : ByteArray} {pc : Nat} {ls : Array Slot} {rest : List Value} {D : va_G} {A : Nat → Prop} {t : Nat → ClassId} {g : hG} {nL : Nat} {ret0 : Option FieldType} {nm : String} {a : Nat} (X : Cx p s m args meth c R_F cc nL ret0 TB D vwCl (tyL t) EX A nm) (hb : c.code = cc) (hP : hw D vwCl A g H) {fs : List Value} (he : g a = some (.inr (2, fs))) {v : Value} (hv : fs[2]? = some v) (hdg : decode cc pc = .ok (.getfield 184, 3)) (kk : W p l e R s m args below meth c H locs cells slots Q (F0 m (pc + 3) ls (v :: rest))) : W p l e R s m args below meth c H locs cells slots Q (F0 m pc ls (.ref a :: rest)) :=
  h_get (C := R_D) (T := F_D) (N := 7) (ref := R_D) (own := R_F) X.1 hb X.2.2.2.2.1 i_D X.2.2.2.2.2.1 X.2.2.2.2.2.2.2.1 hP he rfl 2 (by decide) (X.2.2.2.2.1 _ (tbm 259 (by decide +kernel))) (fun _ h => h) hv hdg kk
theorem g_F_195 {p : Program} {l : Launch} {e : Env} {R : Room} {s : State} {m : MethodId} {args : Array Value} {below : List Frame} {meth : Method} {c : Code} {H : Heap} {locs : List Loc} {cells slots : Nat} {Q : State → Prop} {cc : ByteArray} {pc : Nat} {ls : Array Slot} {rest : List Value} {D : va_G} {A : Nat → Prop} {t : Nat → ClassId} {g : hG} {nL : Nat} {ret0 : Option FieldType} {nm : String} {a : Nat} (X : Cx p s m args meth c R_F cc nL ret0 TB D vwCl (tyL t) EX A nm) (hb : c.code = cc) (hP : hw D vwCl A g H) {fs : List Value} (he : g a = some (.inr (4, fs))) {v : Value} (hv : fs[2]? = some v) (hdg : decode cc pc = .ok (.getfield 195, 3)) (kk : W p l e R s m args below meth c H locs cells slots Q (F0 m (pc + 3) ls (v :: rest))) : W p l e R s m args below meth c H locs cells slots Q (F0 m pc ls (.ref a :: rest)) :=
  h_get (C := R_L) (T := F_L) (N := 6) (ref := R_L) (own := R_F) X.1 hb X.2.2.2.2.1 i_L X.2.2.2.2.2.1 X.2.2.2.2.2.2.2.1 hP he rfl 2 (by decide) (X.2.2.2.2.1 _ (tbm 180 (by decide +kernel))) (fun _ h => h) hv hdg kk
theorem g_F_199 {p : Program} {l : Launch} {e : Env} {R : Room} {s : State} {m : MethodId} {args : Array Value} {below : List Frame} {meth : Method} {c : Code} {H : Heap} {locs : List Loc} {cells slots : Nat} {Q : State → Prop} {cc : ByteArray} {pc : Nat} {ls : Array Slot} {rest : List Value} {D : va_G} {A : Nat → Prop} {t : Nat → ClassId} {g : hG} {nL : Nat} {ret0 : Option FieldType} {nm : String} {a : Nat} (X : Cx p s m args meth c R_F cc nL ret0 TB D vwCl (tyL t) EX A nm) (hb : c.code = cc) (hP : hw D vwCl A g H) {fs : List Value} (he : g a = some (.inr (4, fs))) {v : Value} (hv : fs[3]? = some v) (hdg : decode cc pc = .ok (.getfield 199, 3)) (kk : W p l e R s m args below meth c H locs cells slots Q (F0 m (pc + 3) ls (v :: rest))) : W p l e R s m args below meth c H locs cells slots Q (F0 m pc ls (.ref a :: rest)) :=
  h_get (C := R_L) (T := F_L) (N := 6) (ref := R_L) (own := R_F) X.1 hb X.2.2.2.2.1 i_L X.2.2.2.2.2.1 X.2.2.2.2.2.2.2.1 hP he rfl 3 (by decide) (X.2.2.2.2.1 _ (tbm 182 (by decide +kernel))) (fun _ h => h) hv hdg kk
theorem p_F_208 {p : Program} {l : Launch} {e : Env} {R : Room} {s : State} {m : MethodId} {args : Array Value} {below : List Frame} {meth : Method} {c : Code} {H : Heap} {locs : List Loc} {cells slots : Nat} {Q : State → Prop} {cc : ByteArray} {pc : Nat} {ls : Array Slot} {rest : List Value} {D : va_G} {A : Nat → Prop} {t : Nat → ClassId} {g : hG} {nL : Nat} {ret0 : Option FieldType} {nm : String} {a : Nat} (X : Cx p s m args meth c R_F cc nL ret0 TB D vwCl (tyL t) EX A nm) (hb : c.code = cc) (hP : hw D vwCl A g H) (hS : va_S A s.heap H locs) {fs : List Value} (he : g a = some (.inr (4, fs))) (hl : 5 < fs.length) {x : Int32} (hn : narrow (t_L 5) (.int x) = .int x) (hfit : fits (t_L 5) (.int x) = true) (hdg : decode cc pc = .ok (.putfield 208, 3)) (kk : ∀ (H1 : Heap) (locs1 : List Loc), hw D vwCl A (va_up g a (some (.inr (4, fs.set 5 (.int x))))) H1 → va_S A s.heap H1 locs1 → W p l e R s m args below meth c H1 locs1 cells slots Q (F0 m (pc + 3) ls rest)) : W p l e R s m args below meth c H locs cells slots Q (F0 m pc ls (.int x :: .ref a :: rest)) :=
  h_put (C := R_L) (T := F_L) (N := 6) (ref := R_L) (own := R_F) X.1 hb X.2.2.2.2.1 i_L t_L t_L_ok n_L X.2.2.2.2.2.1 X.2.2.2.2.2.2.2.1 hP hS he rfl 5 (by decide) (X.2.2.2.2.1 _ (tbm 186 (by decide +kernel))) (fun _ h => h) rfl (t_L_ok 5 (by decide)) hn hfit hl hdg kk
theorem g_F_212 {p : Program} {l : Launch} {e : Env} {R : Room} {s : State} {m : MethodId} {args : Array Value} {below : List Frame} {meth : Method} {c : Code} {H : Heap} {locs : List Loc} {cells slots : Nat} {Q : State → Prop} {cc : ByteArray} {pc : Nat} {ls : Array Slot} {rest : List Value} {D : va_G} {A : Nat → Prop} {t : Nat → ClassId} {g : hG} {nL : Nat} {ret0 : Option FieldType} {nm : String} {a : Nat} (X : Cx p s m args meth c R_F cc nL ret0 TB D vwCl (tyL t) EX A nm) (hb : c.code = cc) (hP : hw D vwCl A g H) {fs : List Value} (he : g a = some (.inr (4, fs))) {v : Value} (hv : fs[0]? = some v) (hdg : decode cc pc = .ok (.getfield 212, 3)) (kk : W p l e R s m args below meth c H locs cells slots Q (F0 m (pc + 3) ls (v :: rest))) : W p l e R s m args below meth c H locs cells slots Q (F0 m pc ls (.ref a :: rest)) :=
  h_get (C := R_L) (T := F_L) (N := 6) (ref := R_L) (own := R_F) X.1 hb X.2.2.2.2.1 i_L X.2.2.2.2.2.1 X.2.2.2.2.2.2.2.1 hP he rfl 0 (by decide) (X.2.2.2.2.1 _ (tbm 174 (by decide +kernel))) (fun _ h => h) hv hdg kk
theorem g_C_9 {p : Program} {l : Launch} {e : Env} {R : Room} {s : State} {m : MethodId} {args : Array Value} {below : List Frame} {meth : Method} {c : Code} {H : Heap} {locs : List Loc} {cells slots : Nat} {Q : State → Prop} {cc : ByteArray} {pc : Nat} {ls : Array Slot} {rest : List Value} {D : va_G} {A : Nat → Prop} {t : Nat → ClassId} {g : hG} {nL : Nat} {ret0 : Option FieldType} {nm : String} {a : Nat} (X : Cx p s m args meth c R_C cc nL ret0 TB D vwCl (tyL t) EX A nm) (hb : c.code = cc) (hP : hw D vwCl A g H) {fs : List Value} (he : g a = some (.inr (1, fs))) {v : Value} (hv : fs[0]? = some v) (hdg : decode cc pc = .ok (.getfield 9, 3)) (kk : W p l e R s m args below meth c H locs cells slots Q (F0 m (pc + 3) ls (v :: rest))) : W p l e R s m args below meth c H locs cells slots Q (F0 m pc ls (.ref a :: rest)) :=
  h_get (C := R_C) (T := F_C) (N := 2) (ref := R_C) (own := R_C) X.1 hb X.2.2.2.2.1 i_C X.2.2.2.2.2.1 X.2.2.2.2.2.2.2.1 hP he rfl 0 (by decide) (X.2.2.2.2.1 _ (tbm 69 (by decide +kernel))) (fun _ h => h) hv hdg kk
theorem p_C_9 {p : Program} {l : Launch} {e : Env} {R : Room} {s : State} {m : MethodId} {args : Array Value} {below : List Frame} {meth : Method} {c : Code} {H : Heap} {locs : List Loc} {cells slots : Nat} {Q : State → Prop} {cc : ByteArray} {pc : Nat} {ls : Array Slot} {rest : List Value} {D : va_G} {A : Nat → Prop} {t : Nat → ClassId} {g : hG} {nL : Nat} {ret0 : Option FieldType} {nm : String} {a : Nat} (X : Cx p s m args meth c R_C cc nL ret0 TB D vwCl (tyL t) EX A nm) (hb : c.code = cc) (hP : hw D vwCl A g H) (hS : va_S A s.heap H locs) {fs : List Value} (he : g a = some (.inr (1, fs))) (hl : 0 < fs.length) {x : Nat} (hin : nm = "<init>") (hdg : decode cc pc = .ok (.putfield 9, 3)) (kk : ∀ (H1 : Heap) (locs1 : List Loc), hw D vwCl A (va_up g a (some (.inr (1, fs.set 0 (.ref x))))) H1 → va_S A s.heap H1 locs1 → W p l e R s m args below meth c H1 locs1 cells slots Q (F0 m (pc + 3) ls rest)) : W p l e R s m args below meth c H locs cells slots Q (F0 m pc ls (.ref x :: .ref a :: rest)) :=
  h_putF (C := R_C) (T := F_C) (N := 2) (ref := R_C) (own := R_C) X.1 hb X.2.2.2.2.1 i_C t_C t_C_ok n_C X.2.2.2.2.2.1 X.2.2.2.2.2.2.2.1 hP hS he rfl 0 (by decide) (X.2.2.2.2.1 _ (tbm 69 (by decide +kernel))) (fun _ h => h) rfl (X.2.2.2.2.2.2.2.2.2.2.trans hin) rfl (t_C_ok 0 (by decide)) rfl rfl hl hdg kk
theorem g_C_15 {p : Program} {l : Launch} {e : Env} {R : Room} {s : State} {m : MethodId} {args : Array Value} {below : List Frame} {meth : Method} {c : Code} {H : Heap} {locs : List Loc} {cells slots : Nat} {Q : State → Prop} {cc : ByteArray} {pc : Nat} {ls : Array Slot} {rest : List Value} {D : va_G} {A : Nat → Prop} {t : Nat → ClassId} {g : hG} {nL : Nat} {ret0 : Option FieldType} {nm : String} {a : Nat} (X : Cx p s m args meth c R_C cc nL ret0 TB D vwCl (tyL t) EX A nm) (hb : c.code = cc) (hP : hw D vwCl A g H) {fs : List Value} (he : g a = some (.inr (1, fs))) {v : Value} (hv : fs[1]? = some v) (hdg : decode cc pc = .ok (.getfield 15, 3)) (kk : W p l e R s m args below meth c H locs cells slots Q (F0 m (pc + 3) ls (v :: rest))) : W p l e R s m args below meth c H locs cells slots Q (F0 m pc ls (.ref a :: rest)) :=
  h_get (C := R_C) (T := F_C) (N := 2) (ref := R_C) (own := R_C) X.1 hb X.2.2.2.2.1 i_C X.2.2.2.2.2.1 X.2.2.2.2.2.2.2.1 hP he rfl 1 (by decide) (X.2.2.2.2.1 _ (tbm 70 (by decide +kernel))) (fun _ h => h) hv hdg kk
theorem p_C_15 {p : Program} {l : Launch} {e : Env} {R : Room} {s : State} {m : MethodId} {args : Array Value} {below : List Frame} {meth : Method} {c : Code} {H : Heap} {locs : List Loc} {cells slots : Nat} {Q : State → Prop} {cc : ByteArray} {pc : Nat} {ls : Array Slot} {rest : List Value} {D : va_G} {A : Nat → Prop} {t : Nat → ClassId} {g : hG} {nL : Nat} {ret0 : Option FieldType} {nm : String} {a : Nat} (X : Cx p s m args meth c R_C cc nL ret0 TB D vwCl (tyL t) EX A nm) (hb : c.code = cc) (hP : hw D vwCl A g H) (hS : va_S A s.heap H locs) {fs : List Value} (he : g a = some (.inr (1, fs))) (hl : 1 < fs.length) {x : Int32} (hdg : decode cc pc = .ok (.putfield 15, 3)) (kk : ∀ (H1 : Heap) (locs1 : List Loc), hw D vwCl A (va_up g a (some (.inr (1, fs.set 1 (.int x))))) H1 → va_S A s.heap H1 locs1 → W p l e R s m args below meth c H1 locs1 cells slots Q (F0 m (pc + 3) ls rest)) : W p l e R s m args below meth c H locs cells slots Q (F0 m pc ls (.int x :: .ref a :: rest)) :=
  h_put (C := R_C) (T := F_C) (N := 2) (ref := R_C) (own := R_C) X.1 hb X.2.2.2.2.1 i_C t_C t_C_ok n_C X.2.2.2.2.2.1 X.2.2.2.2.2.2.2.1 hP hS he rfl 1 (by decide) (X.2.2.2.2.1 _ (tbm 70 (by decide +kernel))) (fun _ h => h) rfl (t_C_ok 1 (by decide)) rfl rfl hl hdg kk
theorem g_D_9 {p : Program} {l : Launch} {e : Env} {R : Room} {s : State} {m : MethodId} {args : Array Value} {below : List Frame} {meth : Method} {c : Code} {H : Heap} {locs : List Loc} {cells slots : Nat} {Q : State → Prop} {cc : ByteArray} {pc : Nat} {ls : Array Slot} {rest : List Value} {D : va_G} {A : Nat → Prop} {t : Nat → ClassId} {g : hG} {nL : Nat} {ret0 : Option FieldType} {nm : String} {a : Nat} (X : Cx p s m args meth c R_D cc nL ret0 TB D vwCl (tyL t) EX A nm) (hb : c.code = cc) (hP : hw D vwCl A g H) {fs : List Value} (he : g a = some (.inr (4, fs))) {v : Value} (hv : fs[1]? = some v) (hdg : decode cc pc = .ok (.getfield 9, 3)) (kk : W p l e R s m args below meth c H locs cells slots Q (F0 m (pc + 3) ls (v :: rest))) : W p l e R s m args below meth c H locs cells slots Q (F0 m pc ls (.ref a :: rest)) :=
  h_get (C := R_L) (T := F_L) (N := 6) (ref := R_L) (own := R_D) X.1 hb X.2.2.2.2.1 i_L X.2.2.2.2.2.1 X.2.2.2.2.2.2.2.1 hP he rfl 1 (by decide) (X.2.2.2.2.1 _ (tbm 175 (by decide +kernel))) (fun _ h => h) hv hdg kk
theorem p_D_15 {p : Program} {l : Launch} {e : Env} {R : Room} {s : State} {m : MethodId} {args : Array Value} {below : List Frame} {meth : Method} {c : Code} {H : Heap} {locs : List Loc} {cells slots : Nat} {Q : State → Prop} {cc : ByteArray} {pc : Nat} {ls : Array Slot} {rest : List Value} {D : va_G} {A : Nat → Prop} {t : Nat → ClassId} {g : hG} {nL : Nat} {ret0 : Option FieldType} {nm : String} {a : Nat} (X : Cx p s m args meth c R_D cc nL ret0 TB D vwCl (tyL t) EX A nm) (hb : c.code = cc) (hP : hw D vwCl A g H) (hS : va_S A s.heap H locs) {fs : List Value} (he : g a = some (.inr (2, fs))) (hl : 0 < fs.length) {x : Int32} (hin : nm = "<init>") (hdg : decode cc pc = .ok (.putfield 15, 3)) (kk : ∀ (H1 : Heap) (locs1 : List Loc), hw D vwCl A (va_up g a (some (.inr (2, fs.set 0 (.int x))))) H1 → va_S A s.heap H1 locs1 → W p l e R s m args below meth c H1 locs1 cells slots Q (F0 m (pc + 3) ls rest)) : W p l e R s m args below meth c H locs cells slots Q (F0 m pc ls (.int x :: .ref a :: rest)) :=
  h_putF (C := R_D) (T := F_D) (N := 7) (ref := R_D) (own := R_D) X.1 hb X.2.2.2.2.1 i_D t_D t_D_ok n_D X.2.2.2.2.2.1 X.2.2.2.2.2.2.2.1 hP hS he rfl 0 (by decide) (X.2.2.2.2.1 _ (tbm 254 (by decide +kernel))) (fun _ h => h) rfl (X.2.2.2.2.2.2.2.2.2.2.trans hin) rfl (t_D_ok 0 (by decide)) rfl rfl hl hdg kk
theorem g_D_18 {p : Program} {l : Launch} {e : Env} {R : Room} {s : State} {m : MethodId} {args : Array Value} {below : List Frame} {meth : Method} {c : Code} {H : Heap} {locs : List Loc} {cells slots : Nat} {Q : State → Prop} {cc : ByteArray} {pc : Nat} {ls : Array Slot} {rest : List Value} {D : va_G} {A : Nat → Prop} {t : Nat → ClassId} {g : hG} {nL : Nat} {ret0 : Option FieldType} {nm : String} {a : Nat} (X : Cx p s m args meth c R_D cc nL ret0 TB D vwCl (tyL t) EX A nm) (hb : c.code = cc) (hP : hw D vwCl A g H) {fs : List Value} (he : g a = some (.inr (4, fs))) {v : Value} (hv : fs[2]? = some v) (hdg : decode cc pc = .ok (.getfield 18, 3)) (kk : W p l e R s m args below meth c H locs cells slots Q (F0 m (pc + 3) ls (v :: rest))) : W p l e R s m args below meth c H locs cells slots Q (F0 m pc ls (.ref a :: rest)) :=
  h_get (C := R_L) (T := F_L) (N := 6) (ref := R_L) (own := R_D) X.1 hb X.2.2.2.2.1 i_L X.2.2.2.2.2.1 X.2.2.2.2.2.2.2.1 hP he rfl 2 (by decide) (X.2.2.2.2.1 _ (tbm 178 (by decide +kernel))) (fun _ h => h) hv hdg kk
theorem g_D_22 {p : Program} {l : Launch} {e : Env} {R : Room} {s : State} {m : MethodId} {args : Array Value} {below : List Frame} {meth : Method} {c : Code} {H : Heap} {locs : List Loc} {cells slots : Nat} {Q : State → Prop} {cc : ByteArray} {pc : Nat} {ls : Array Slot} {rest : List Value} {D : va_G} {A : Nat → Prop} {t : Nat → ClassId} {g : hG} {nL : Nat} {ret0 : Option FieldType} {nm : String} {a : Nat} (X : Cx p s m args meth c R_D cc nL ret0 TB D vwCl (tyL t) EX A nm) (hb : c.code = cc) (hP : hw D vwCl A g H) {fs : List Value} (he : g a = some (.inr (2, fs))) {v : Value} (hv : fs[1]? = some v) (hdg : decode cc pc = .ok (.getfield 22, 3)) (kk : W p l e R s m args below meth c H locs cells slots Q (F0 m (pc + 3) ls (v :: rest))) : W p l e R s m args below meth c H locs cells slots Q (F0 m pc ls (.ref a :: rest)) :=
  h_get (C := R_D) (T := F_D) (N := 7) (ref := R_D) (own := R_D) X.1 hb X.2.2.2.2.1 i_D X.2.2.2.2.2.1 X.2.2.2.2.2.2.2.1 hP he rfl 1 (by decide) (X.2.2.2.2.1 _ (tbm 257 (by decide +kernel))) (fun _ h => h) hv hdg kk
theorem p_D_22 {p : Program} {l : Launch} {e : Env} {R : Room} {s : State} {m : MethodId} {args : Array Value} {below : List Frame} {meth : Method} {c : Code} {H : Heap} {locs : List Loc} {cells slots : Nat} {Q : State → Prop} {cc : ByteArray} {pc : Nat} {ls : Array Slot} {rest : List Value} {D : va_G} {A : Nat → Prop} {t : Nat → ClassId} {g : hG} {nL : Nat} {ret0 : Option FieldType} {nm : String} {a : Nat} (X : Cx p s m args meth c R_D cc nL ret0 TB D vwCl (tyL t) EX A nm) (hb : c.code = cc) (hP : hw D vwCl A g H) (hS : va_S A s.heap H locs) {fs : List Value} (he : g a = some (.inr (2, fs))) (hl : 1 < fs.length) {x : Value} (hn : narrow (t_D 1) (x) = x) (hfit : fits (t_D 1) (x) = true) (hin : nm = "<init>") (hdg : decode cc pc = .ok (.putfield 22, 3)) (kk : ∀ (H1 : Heap) (locs1 : List Loc), hw D vwCl A (va_up g a (some (.inr (2, fs.set 1 (x))))) H1 → va_S A s.heap H1 locs1 → W p l e R s m args below meth c H1 locs1 cells slots Q (F0 m (pc + 3) ls rest)) : W p l e R s m args below meth c H locs cells slots Q (F0 m pc ls (x :: .ref a :: rest)) :=
  h_putF (C := R_D) (T := F_D) (N := 7) (ref := R_D) (own := R_D) X.1 hb X.2.2.2.2.1 i_D t_D t_D_ok n_D X.2.2.2.2.2.1 X.2.2.2.2.2.2.2.1 hP hS he rfl 1 (by decide) (X.2.2.2.2.1 _ (tbm 257 (by decide +kernel))) (fun _ h => h) rfl (X.2.2.2.2.2.2.2.2.2.2.trans hin) rfl (t_D_ok 1 (by decide)) hn hfit hl hdg kk
theorem p_D_23 {p : Program} {l : Launch} {e : Env} {R : Room} {s : State} {m : MethodId} {args : Array Value} {below : List Frame} {meth : Method} {c : Code} {H : Heap} {locs : List Loc} {cells slots : Nat} {Q : State → Prop} {cc : ByteArray} {pc : Nat} {ls : Array Slot} {rest : List Value} {D : va_G} {A : Nat → Prop} {t : Nat → ClassId} {g : hG} {nL : Nat} {ret0 : Option FieldType} {nm : String} {a : Nat} (X : Cx p s m args meth c R_D cc nL ret0 TB D vwCl (tyL t) EX A nm) (hb : c.code = cc) (hP : hw D vwCl A g H) (hS : va_S A s.heap H locs) {fs : List Value} (he : g a = some (.inr (2, fs))) (hl : 2 < fs.length) {x : Int32} (hin : nm = "<init>") (hdg : decode cc pc = .ok (.putfield 23, 3)) (kk : ∀ (H1 : Heap) (locs1 : List Loc), hw D vwCl A (va_up g a (some (.inr (2, fs.set 2 (.int x))))) H1 → va_S A s.heap H1 locs1 → W p l e R s m args below meth c H1 locs1 cells slots Q (F0 m (pc + 3) ls rest)) : W p l e R s m args below meth c H locs cells slots Q (F0 m pc ls (.int x :: .ref a :: rest)) :=
  h_putF (C := R_D) (T := F_D) (N := 7) (ref := R_D) (own := R_D) X.1 hb X.2.2.2.2.1 i_D t_D t_D_ok n_D X.2.2.2.2.2.1 X.2.2.2.2.2.2.2.1 hP hS he rfl 2 (by decide) (X.2.2.2.2.1 _ (tbm 258 (by decide +kernel))) (fun _ h => h) rfl (X.2.2.2.2.2.2.2.2.2.2.trans hin) rfl (t_D_ok 2 (by decide)) rfl rfl hl hdg kk
theorem p_D_26 {p : Program} {l : Launch} {e : Env} {R : Room} {s : State} {m : MethodId} {args : Array Value} {below : List Frame} {meth : Method} {c : Code} {H : Heap} {locs : List Loc} {cells slots : Nat} {Q : State → Prop} {cc : ByteArray} {pc : Nat} {ls : Array Slot} {rest : List Value} {D : va_G} {A : Nat → Prop} {t : Nat → ClassId} {g : hG} {nL : Nat} {ret0 : Option FieldType} {nm : String} {a : Nat} (X : Cx p s m args meth c R_D cc nL ret0 TB D vwCl (tyL t) EX A nm) (hb : c.code = cc) (hP : hw D vwCl A g H) (hS : va_S A s.heap H locs) {fs : List Value} (he : g a = some (.inr (2, fs))) (hl : 3 < fs.length) {x : Int64} (hin : nm = "<init>") (hdg : decode cc pc = .ok (.putfield 26, 3)) (kk : ∀ (H1 : Heap) (locs1 : List Loc), hw D vwCl A (va_up g a (some (.inr (2, fs.set 3 (.long x))))) H1 → va_S A s.heap H1 locs1 → W p l e R s m args below meth c H1 locs1 cells slots Q (F0 m (pc + 3) ls rest)) : W p l e R s m args below meth c H locs cells slots Q (F0 m pc ls (.long x :: .ref a :: rest)) :=
  h_putF (C := R_D) (T := F_D) (N := 7) (ref := R_D) (own := R_D) X.1 hb X.2.2.2.2.1 i_D t_D t_D_ok n_D X.2.2.2.2.2.1 X.2.2.2.2.2.2.2.1 hP hS he rfl 3 (by decide) (X.2.2.2.2.1 _ (tbm 260 (by decide +kernel))) (fun _ h => h) rfl (X.2.2.2.2.2.2.2.2.2.2.trans hin) rfl (t_D_ok 3 (by decide)) rfl rfl hl hdg kk
theorem g_D_30 {p : Program} {l : Launch} {e : Env} {R : Room} {s : State} {m : MethodId} {args : Array Value} {below : List Frame} {meth : Method} {c : Code} {H : Heap} {locs : List Loc} {cells slots : Nat} {Q : State → Prop} {cc : ByteArray} {pc : Nat} {ls : Array Slot} {rest : List Value} {D : va_G} {A : Nat → Prop} {t : Nat → ClassId} {g : hG} {nL : Nat} {ret0 : Option FieldType} {nm : String} {a : Nat} (X : Cx p s m args meth c R_D cc nL ret0 TB D vwCl (tyL t) EX A nm) (hb : c.code = cc) (hP : hw D vwCl A g H) {fs : List Value} (he : g a = some (.inr (2, fs))) {v : Value} (hv : fs[4]? = some v) (hdg : decode cc pc = .ok (.getfield 30, 3)) (kk : W p l e R s m args below meth c H locs cells slots Q (F0 m (pc + 3) ls (v :: rest))) : W p l e R s m args below meth c H locs cells slots Q (F0 m pc ls (.ref a :: rest)) :=
  h_get (C := R_D) (T := F_D) (N := 7) (ref := R_D) (own := R_D) X.1 hb X.2.2.2.2.1 i_D X.2.2.2.2.2.1 X.2.2.2.2.2.2.2.1 hP he rfl 4 (by decide) (X.2.2.2.2.1 _ (tbm 262 (by decide +kernel))) (fun _ h => h) hv hdg kk
theorem p_D_30 {p : Program} {l : Launch} {e : Env} {R : Room} {s : State} {m : MethodId} {args : Array Value} {below : List Frame} {meth : Method} {c : Code} {H : Heap} {locs : List Loc} {cells slots : Nat} {Q : State → Prop} {cc : ByteArray} {pc : Nat} {ls : Array Slot} {rest : List Value} {D : va_G} {A : Nat → Prop} {t : Nat → ClassId} {g : hG} {nL : Nat} {ret0 : Option FieldType} {nm : String} {a : Nat} (X : Cx p s m args meth c R_D cc nL ret0 TB D vwCl (tyL t) EX A nm) (hb : c.code = cc) (hP : hw D vwCl A g H) (hS : va_S A s.heap H locs) {fs : List Value} (he : g a = some (.inr (2, fs))) (hl : 4 < fs.length) {x : Int64} (hin : nm = "<init>") (hdg : decode cc pc = .ok (.putfield 30, 3)) (kk : ∀ (H1 : Heap) (locs1 : List Loc), hw D vwCl A (va_up g a (some (.inr (2, fs.set 4 (.long x))))) H1 → va_S A s.heap H1 locs1 → W p l e R s m args below meth c H1 locs1 cells slots Q (F0 m (pc + 3) ls rest)) : W p l e R s m args below meth c H locs cells slots Q (F0 m pc ls (.long x :: .ref a :: rest)) :=
  h_putF (C := R_D) (T := F_D) (N := 7) (ref := R_D) (own := R_D) X.1 hb X.2.2.2.2.1 i_D t_D t_D_ok n_D X.2.2.2.2.2.1 X.2.2.2.2.2.2.2.1 hP hS he rfl 4 (by decide) (X.2.2.2.2.1 _ (tbm 262 (by decide +kernel))) (fun _ h => h) rfl (X.2.2.2.2.2.2.2.2.2.2.trans hin) rfl (t_D_ok 4 (by decide)) rfl rfl hl hdg kk
theorem g_D_33 {p : Program} {l : Launch} {e : Env} {R : Room} {s : State} {m : MethodId} {args : Array Value} {below : List Frame} {meth : Method} {c : Code} {H : Heap} {locs : List Loc} {cells slots : Nat} {Q : State → Prop} {cc : ByteArray} {pc : Nat} {ls : Array Slot} {rest : List Value} {D : va_G} {A : Nat → Prop} {t : Nat → ClassId} {g : hG} {nL : Nat} {ret0 : Option FieldType} {nm : String} {a : Nat} (X : Cx p s m args meth c R_D cc nL ret0 TB D vwCl (tyL t) EX A nm) (hb : c.code = cc) (hP : hw D vwCl A g H) {fs : List Value} (he : g a = some (.inr (2, fs))) {v : Value} (hv : fs[5]? = some v) (hdg : decode cc pc = .ok (.getfield 33, 3)) (kk : W p l e R s m args below meth c H locs cells slots Q (F0 m (pc + 3) ls (v :: rest))) : W p l e R s m args below meth c H locs cells slots Q (F0 m pc ls (.ref a :: rest)) :=
  h_get (C := R_D) (T := F_D) (N := 7) (ref := R_D) (own := R_D) X.1 hb X.2.2.2.2.1 i_D X.2.2.2.2.2.1 X.2.2.2.2.2.2.2.1 hP he rfl 5 (by decide) (X.2.2.2.2.1 _ (tbm 265 (by decide +kernel))) (fun _ h => h) hv hdg kk
theorem p_D_33 {p : Program} {l : Launch} {e : Env} {R : Room} {s : State} {m : MethodId} {args : Array Value} {below : List Frame} {meth : Method} {c : Code} {H : Heap} {locs : List Loc} {cells slots : Nat} {Q : State → Prop} {cc : ByteArray} {pc : Nat} {ls : Array Slot} {rest : List Value} {D : va_G} {A : Nat → Prop} {t : Nat → ClassId} {g : hG} {nL : Nat} {ret0 : Option FieldType} {nm : String} {a : Nat} (X : Cx p s m args meth c R_D cc nL ret0 TB D vwCl (tyL t) EX A nm) (hb : c.code = cc) (hP : hw D vwCl A g H) (hS : va_S A s.heap H locs) {fs : List Value} (he : g a = some (.inr (2, fs))) (hl : 5 < fs.length) {x : Int64} (hdg : decode cc pc = .ok (.putfield 33, 3)) (kk : ∀ (H1 : Heap) (locs1 : List Loc), hw D vwCl A (va_up g a (some (.inr (2, fs.set 5 (.long x))))) H1 → va_S A s.heap H1 locs1 → W p l e R s m args below meth c H1 locs1 cells slots Q (F0 m (pc + 3) ls rest)) : W p l e R s m args below meth c H locs cells slots Q (F0 m pc ls (.long x :: .ref a :: rest)) :=
  h_put (C := R_D) (T := F_D) (N := 7) (ref := R_D) (own := R_D) X.1 hb X.2.2.2.2.1 i_D t_D t_D_ok n_D X.2.2.2.2.2.1 X.2.2.2.2.2.2.2.1 hP hS he rfl 5 (by decide) (X.2.2.2.2.1 _ (tbm 265 (by decide +kernel))) (fun _ h => h) rfl (t_D_ok 5 (by decide)) rfl rfl hl hdg kk
theorem g_D_42 {p : Program} {l : Launch} {e : Env} {R : Room} {s : State} {m : MethodId} {args : Array Value} {below : List Frame} {meth : Method} {c : Code} {H : Heap} {locs : List Loc} {cells slots : Nat} {Q : State → Prop} {cc : ByteArray} {pc : Nat} {ls : Array Slot} {rest : List Value} {D : va_G} {A : Nat → Prop} {t : Nat → ClassId} {g : hG} {nL : Nat} {ret0 : Option FieldType} {nm : String} {a : Nat} (X : Cx p s m args meth c R_D cc nL ret0 TB D vwCl (tyL t) EX A nm) (hb : c.code = cc) (hP : hw D vwCl A g H) {fs : List Value} (he : g a = some (.inr (2, fs))) {v : Value} (hv : fs[6]? = some v) (hdg : decode cc pc = .ok (.getfield 42, 3)) (kk : W p l e R s m args below meth c H locs cells slots Q (F0 m (pc + 3) ls (v :: rest))) : W p l e R s m args below meth c H locs cells slots Q (F0 m pc ls (.ref a :: rest)) :=
  h_get (C := R_D) (T := F_D) (N := 7) (ref := R_D) (own := R_D) X.1 hb X.2.2.2.2.1 i_D X.2.2.2.2.2.1 X.2.2.2.2.2.2.2.1 hP he rfl 6 (by decide) (X.2.2.2.2.1 _ (tbm 268 (by decide +kernel))) (fun _ h => h) hv hdg kk
theorem p_D_42 {p : Program} {l : Launch} {e : Env} {R : Room} {s : State} {m : MethodId} {args : Array Value} {below : List Frame} {meth : Method} {c : Code} {H : Heap} {locs : List Loc} {cells slots : Nat} {Q : State → Prop} {cc : ByteArray} {pc : Nat} {ls : Array Slot} {rest : List Value} {D : va_G} {A : Nat → Prop} {t : Nat → ClassId} {g : hG} {nL : Nat} {ret0 : Option FieldType} {nm : String} {a : Nat} (X : Cx p s m args meth c R_D cc nL ret0 TB D vwCl (tyL t) EX A nm) (hb : c.code = cc) (hP : hw D vwCl A g H) (hS : va_S A s.heap H locs) {fs : List Value} (he : g a = some (.inr (2, fs))) (hl : 6 < fs.length) {x : Int64} (hdg : decode cc pc = .ok (.putfield 42, 3)) (kk : ∀ (H1 : Heap) (locs1 : List Loc), hw D vwCl A (va_up g a (some (.inr (2, fs.set 6 (.long x))))) H1 → va_S A s.heap H1 locs1 → W p l e R s m args below meth c H1 locs1 cells slots Q (F0 m (pc + 3) ls rest)) : W p l e R s m args below meth c H locs cells slots Q (F0 m pc ls (.long x :: .ref a :: rest)) :=
  h_put (C := R_D) (T := F_D) (N := 7) (ref := R_D) (own := R_D) X.1 hb X.2.2.2.2.1 i_D t_D t_D_ok n_D X.2.2.2.2.2.1 X.2.2.2.2.2.2.2.1 hP hS he rfl 6 (by decide) (X.2.2.2.2.1 _ (tbm 268 (by decide +kernel))) (fun _ h => h) rfl (t_D_ok 6 (by decide)) rfl rfl hl hdg kk
theorem g_B_11 {p : Program} {l : Launch} {e : Env} {R : Room} {s : State} {m : MethodId} {args : Array Value} {below : List Frame} {meth : Method} {c : Code} {H : Heap} {locs : List Loc} {cells slots : Nat} {Q : State → Prop} {cc : ByteArray} {pc : Nat} {ls : Array Slot} {rest : List Value} {D : va_G} {A : Nat → Prop} {t : Nat → ClassId} {g : hG} {nL : Nat} {ret0 : Option FieldType} {nm : String} {a : Nat} (X : Cx p s m args meth c R_B cc nL ret0 TB D vwCl (tyL t) EX A nm) (hb : c.code = cc) (hP : hw D vwCl A g H) {fs : List Value} (he : g a = some (.inr (3, fs))) {v : Value} (hv : fs[0]? = some v) (hdg : decode cc pc = .ok (.getfield 11, 3)) (kk : W p l e R s m args below meth c H locs cells slots Q (F0 m (pc + 3) ls (v :: rest))) : W p l e R s m args below meth c H locs cells slots Q (F0 m pc ls (.ref a :: rest)) :=
  h_get (C := R_B) (T := F_B) (N := 3) (ref := R_B) (own := R_B) X.1 hb X.2.2.2.2.1 i_B X.2.2.2.2.2.1 X.2.2.2.2.2.2.2.1 hP he rfl 0 (by decide) (X.2.2.2.2.1 _ (tbm 52 (by decide +kernel))) (fun _ h => h) hv hdg kk
theorem p_B_11 {p : Program} {l : Launch} {e : Env} {R : Room} {s : State} {m : MethodId} {args : Array Value} {below : List Frame} {meth : Method} {c : Code} {H : Heap} {locs : List Loc} {cells slots : Nat} {Q : State → Prop} {cc : ByteArray} {pc : Nat} {ls : Array Slot} {rest : List Value} {D : va_G} {A : Nat → Prop} {t : Nat → ClassId} {g : hG} {nL : Nat} {ret0 : Option FieldType} {nm : String} {a : Nat} (X : Cx p s m args meth c R_B cc nL ret0 TB D vwCl (tyL t) EX A nm) (hb : c.code = cc) (hP : hw D vwCl A g H) (hS : va_S A s.heap H locs) {fs : List Value} (he : g a = some (.inr (3, fs))) (hl : 0 < fs.length) {x : Nat} (hin : nm = "<init>") (hdg : decode cc pc = .ok (.putfield 11, 3)) (kk : ∀ (H1 : Heap) (locs1 : List Loc), hw D vwCl A (va_up g a (some (.inr (3, fs.set 0 (.ref x))))) H1 → va_S A s.heap H1 locs1 → W p l e R s m args below meth c H1 locs1 cells slots Q (F0 m (pc + 3) ls rest)) : W p l e R s m args below meth c H locs cells slots Q (F0 m pc ls (.ref x :: .ref a :: rest)) :=
  h_putF (C := R_B) (T := F_B) (N := 3) (ref := R_B) (own := R_B) X.1 hb X.2.2.2.2.1 i_B t_B t_B_ok n_B X.2.2.2.2.2.1 X.2.2.2.2.2.2.2.1 hP hS he rfl 0 (by decide) (X.2.2.2.2.1 _ (tbm 52 (by decide +kernel))) (fun _ h => h) rfl (X.2.2.2.2.2.2.2.2.2.2.trans hin) rfl (t_B_ok 0 (by decide)) rfl rfl hl hdg kk
theorem g_B_17 {p : Program} {l : Launch} {e : Env} {R : Room} {s : State} {m : MethodId} {args : Array Value} {below : List Frame} {meth : Method} {c : Code} {H : Heap} {locs : List Loc} {cells slots : Nat} {Q : State → Prop} {cc : ByteArray} {pc : Nat} {ls : Array Slot} {rest : List Value} {D : va_G} {A : Nat → Prop} {t : Nat → ClassId} {g : hG} {nL : Nat} {ret0 : Option FieldType} {nm : String} {a : Nat} (X : Cx p s m args meth c R_B cc nL ret0 TB D vwCl (tyL t) EX A nm) (hb : c.code = cc) (hP : hw D vwCl A g H) {fs : List Value} (he : g a = some (.inr (3, fs))) {v : Value} (hv : fs[1]? = some v) (hdg : decode cc pc = .ok (.getfield 17, 3)) (kk : W p l e R s m args below meth c H locs cells slots Q (F0 m (pc + 3) ls (v :: rest))) : W p l e R s m args below meth c H locs cells slots Q (F0 m pc ls (.ref a :: rest)) :=
  h_get (C := R_B) (T := F_B) (N := 3) (ref := R_B) (own := R_B) X.1 hb X.2.2.2.2.1 i_B X.2.2.2.2.2.1 X.2.2.2.2.2.2.2.1 hP he rfl 1 (by decide) (X.2.2.2.2.1 _ (tbm 53 (by decide +kernel))) (fun _ h => h) hv hdg kk
theorem p_B_17 {p : Program} {l : Launch} {e : Env} {R : Room} {s : State} {m : MethodId} {args : Array Value} {below : List Frame} {meth : Method} {c : Code} {H : Heap} {locs : List Loc} {cells slots : Nat} {Q : State → Prop} {cc : ByteArray} {pc : Nat} {ls : Array Slot} {rest : List Value} {D : va_G} {A : Nat → Prop} {t : Nat → ClassId} {g : hG} {nL : Nat} {ret0 : Option FieldType} {nm : String} {a : Nat} (X : Cx p s m args meth c R_B cc nL ret0 TB D vwCl (tyL t) EX A nm) (hb : c.code = cc) (hP : hw D vwCl A g H) (hS : va_S A s.heap H locs) {fs : List Value} (he : g a = some (.inr (3, fs))) (hl : 1 < fs.length) {x : Nat} (hin : nm = "<init>") (hdg : decode cc pc = .ok (.putfield 17, 3)) (kk : ∀ (H1 : Heap) (locs1 : List Loc), hw D vwCl A (va_up g a (some (.inr (3, fs.set 1 (.ref x))))) H1 → va_S A s.heap H1 locs1 → W p l e R s m args below meth c H1 locs1 cells slots Q (F0 m (pc + 3) ls rest)) : W p l e R s m args below meth c H locs cells slots Q (F0 m pc ls (.ref x :: .ref a :: rest)) :=
  h_putF (C := R_B) (T := F_B) (N := 3) (ref := R_B) (own := R_B) X.1 hb X.2.2.2.2.1 i_B t_B t_B_ok n_B X.2.2.2.2.2.1 X.2.2.2.2.2.2.2.1 hP hS he rfl 1 (by decide) (X.2.2.2.2.1 _ (tbm 53 (by decide +kernel))) (fun _ h => h) rfl (X.2.2.2.2.2.2.2.2.2.2.trans hin) rfl (t_B_ok 1 (by decide)) rfl rfl hl hdg kk
theorem g_B_20 {p : Program} {l : Launch} {e : Env} {R : Room} {s : State} {m : MethodId} {args : Array Value} {below : List Frame} {meth : Method} {c : Code} {H : Heap} {locs : List Loc} {cells slots : Nat} {Q : State → Prop} {cc : ByteArray} {pc : Nat} {ls : Array Slot} {rest : List Value} {D : va_G} {A : Nat → Prop} {t : Nat → ClassId} {g : hG} {nL : Nat} {ret0 : Option FieldType} {nm : String} {a : Nat} (X : Cx p s m args meth c R_B cc nL ret0 TB D vwCl (tyL t) EX A nm) (hb : c.code = cc) (hP : hw D vwCl A g H) {fs : List Value} (he : g a = some (.inr (3, fs))) {v : Value} (hv : fs[2]? = some v) (hdg : decode cc pc = .ok (.getfield 20, 3)) (kk : W p l e R s m args below meth c H locs cells slots Q (F0 m (pc + 3) ls (v :: rest))) : W p l e R s m args below meth c H locs cells slots Q (F0 m pc ls (.ref a :: rest)) :=
  h_get (C := R_B) (T := F_B) (N := 3) (ref := R_B) (own := R_B) X.1 hb X.2.2.2.2.1 i_B X.2.2.2.2.2.1 X.2.2.2.2.2.2.2.1 hP he rfl 2 (by decide) (X.2.2.2.2.1 _ (tbm 54 (by decide +kernel))) (fun _ h => h) hv hdg kk
theorem p_B_20 {p : Program} {l : Launch} {e : Env} {R : Room} {s : State} {m : MethodId} {args : Array Value} {below : List Frame} {meth : Method} {c : Code} {H : Heap} {locs : List Loc} {cells slots : Nat} {Q : State → Prop} {cc : ByteArray} {pc : Nat} {ls : Array Slot} {rest : List Value} {D : va_G} {A : Nat → Prop} {t : Nat → ClassId} {g : hG} {nL : Nat} {ret0 : Option FieldType} {nm : String} {a : Nat} (X : Cx p s m args meth c R_B cc nL ret0 TB D vwCl (tyL t) EX A nm) (hb : c.code = cc) (hP : hw D vwCl A g H) (hS : va_S A s.heap H locs) {fs : List Value} (he : g a = some (.inr (3, fs))) (hl : 2 < fs.length) {x : Int32} (hdg : decode cc pc = .ok (.putfield 20, 3)) (kk : ∀ (H1 : Heap) (locs1 : List Loc), hw D vwCl A (va_up g a (some (.inr (3, fs.set 2 (.int x))))) H1 → va_S A s.heap H1 locs1 → W p l e R s m args below meth c H1 locs1 cells slots Q (F0 m (pc + 3) ls rest)) : W p l e R s m args below meth c H locs cells slots Q (F0 m pc ls (.int x :: .ref a :: rest)) :=
  h_put (C := R_B) (T := F_B) (N := 3) (ref := R_B) (own := R_B) X.1 hb X.2.2.2.2.1 i_B t_B t_B_ok n_B X.2.2.2.2.2.1 X.2.2.2.2.2.2.2.1 hP hS he rfl 2 (by decide) (X.2.2.2.2.1 _ (tbm 54 (by decide +kernel))) (fun _ h => h) rfl (t_B_ok 2 (by decide)) rfl rfl hl hdg kk
theorem g_B_39 {p : Program} {l : Launch} {e : Env} {R : Room} {s : State} {m : MethodId} {args : Array Value} {below : List Frame} {meth : Method} {c : Code} {H : Heap} {locs : List Loc} {cells slots : Nat} {Q : State → Prop} {cc : ByteArray} {pc : Nat} {ls : Array Slot} {rest : List Value} {D : va_G} {A : Nat → Prop} {t : Nat → ClassId} {g : hG} {nL : Nat} {ret0 : Option FieldType} {nm : String} {a : Nat} (X : Cx p s m args meth c R_B cc nL ret0 TB D vwCl (tyL t) EX A nm) (hb : c.code = cc) (hP : hw D vwCl A g H) {fs : List Value} (he : g a = some (.inr (2, fs))) {v : Value} (hv : fs[4]? = some v) (hdg : decode cc pc = .ok (.getfield 39, 3)) (kk : W p l e R s m args below meth c H locs cells slots Q (F0 m (pc + 3) ls (v :: rest))) : W p l e R s m args below meth c H locs cells slots Q (F0 m pc ls (.ref a :: rest)) :=
  h_get (C := R_D) (T := F_D) (N := 7) (ref := R_D) (own := R_B) X.1 hb X.2.2.2.2.1 i_D X.2.2.2.2.2.1 X.2.2.2.2.2.2.2.1 hP he rfl 4 (by decide) (X.2.2.2.2.1 _ (tbm 263 (by decide +kernel))) (fun _ h => h) hv hdg kk
theorem g_B_43 {p : Program} {l : Launch} {e : Env} {R : Room} {s : State} {m : MethodId} {args : Array Value} {below : List Frame} {meth : Method} {c : Code} {H : Heap} {locs : List Loc} {cells slots : Nat} {Q : State → Prop} {cc : ByteArray} {pc : Nat} {ls : Array Slot} {rest : List Value} {D : va_G} {A : Nat → Prop} {t : Nat → ClassId} {g : hG} {nL : Nat} {ret0 : Option FieldType} {nm : String} {a : Nat} (X : Cx p s m args meth c R_B cc nL ret0 TB D vwCl (tyL t) EX A nm) (hb : c.code = cc) (hP : hw D vwCl A g H) {fs : List Value} (he : g a = some (.inr (2, fs))) {v : Value} (hv : fs[0]? = some v) (hdg : decode cc pc = .ok (.getfield 43, 3)) (kk : W p l e R s m args below meth c H locs cells slots Q (F0 m (pc + 3) ls (v :: rest))) : W p l e R s m args below meth c H locs cells slots Q (F0 m pc ls (.ref a :: rest)) :=
  h_get (C := R_D) (T := F_D) (N := 7) (ref := R_D) (own := R_B) X.1 hb X.2.2.2.2.1 i_D X.2.2.2.2.2.1 X.2.2.2.2.2.2.2.1 hP he rfl 0 (by decide) (X.2.2.2.2.1 _ (tbm 255 (by decide +kernel))) (fun _ h => h) hv hdg kk
theorem g_B_46 {p : Program} {l : Launch} {e : Env} {R : Room} {s : State} {m : MethodId} {args : Array Value} {below : List Frame} {meth : Method} {c : Code} {H : Heap} {locs : List Loc} {cells slots : Nat} {Q : State → Prop} {cc : ByteArray} {pc : Nat} {ls : Array Slot} {rest : List Value} {D : va_G} {A : Nat → Prop} {t : Nat → ClassId} {g : hG} {nL : Nat} {ret0 : Option FieldType} {nm : String} {a : Nat} (X : Cx p s m args meth c R_B cc nL ret0 TB D vwCl (tyL t) EX A nm) (hb : c.code = cc) (hP : hw D vwCl A g H) {fs : List Value} (he : g a = some (.inr (2, fs))) {v : Value} (hv : fs[5]? = some v) (hdg : decode cc pc = .ok (.getfield 46, 3)) (kk : W p l e R s m args below meth c H locs cells slots Q (F0 m (pc + 3) ls (v :: rest))) : W p l e R s m args below meth c H locs cells slots Q (F0 m pc ls (.ref a :: rest)) :=
  h_get (C := R_D) (T := F_D) (N := 7) (ref := R_D) (own := R_B) X.1 hb X.2.2.2.2.1 i_D X.2.2.2.2.2.1 X.2.2.2.2.2.2.2.1 hP he rfl 5 (by decide) (X.2.2.2.2.1 _ (tbm 266 (by decide +kernel))) (fun _ h => h) hv hdg kk
theorem p_L_7 {p : Program} {l : Launch} {e : Env} {R : Room} {s : State} {m : MethodId} {args : Array Value} {below : List Frame} {meth : Method} {c : Code} {H : Heap} {locs : List Loc} {cells slots : Nat} {Q : State → Prop} {cc : ByteArray} {pc : Nat} {ls : Array Slot} {rest : List Value} {D : va_G} {A : Nat → Prop} {t : Nat → ClassId} {g : hG} {nL : Nat} {ret0 : Option FieldType} {nm : String} {a : Nat} (X : Cx p s m args meth c R_L cc nL ret0 TB D vwCl (tyL t) EX A nm) (hb : c.code = cc) (hP : hw D vwCl A g H) (hS : va_S A s.heap H locs) {fs : List Value} (he : g a = some (.inr (4, fs))) (hl : 0 < fs.length) {x : Int32} (hin : nm = "<init>") (hdg : decode cc pc = .ok (.putfield 7, 3)) (kk : ∀ (H1 : Heap) (locs1 : List Loc), hw D vwCl A (va_up g a (some (.inr (4, fs.set 0 (.int x))))) H1 → va_S A s.heap H1 locs1 → W p l e R s m args below meth c H1 locs1 cells slots Q (F0 m (pc + 3) ls rest)) : W p l e R s m args below meth c H locs cells slots Q (F0 m pc ls (.int x :: .ref a :: rest)) :=
  h_putF (C := R_L) (T := F_L) (N := 6) (ref := R_L) (own := R_L) X.1 hb X.2.2.2.2.1 i_L t_L t_L_ok n_L X.2.2.2.2.2.1 X.2.2.2.2.2.2.2.1 hP hS he rfl 0 (by decide) (X.2.2.2.2.1 _ (tbm 173 (by decide +kernel))) (fun _ h => h) rfl (X.2.2.2.2.2.2.2.2.2.2.trans hin) rfl (t_L_ok 0 (by decide)) rfl rfl hl hdg kk
theorem p_L_13 {p : Program} {l : Launch} {e : Env} {R : Room} {s : State} {m : MethodId} {args : Array Value} {below : List Frame} {meth : Method} {c : Code} {H : Heap} {locs : List Loc} {cells slots : Nat} {Q : State → Prop} {cc : ByteArray} {pc : Nat} {ls : Array Slot} {rest : List Value} {D : va_G} {A : Nat → Prop} {t : Nat → ClassId} {g : hG} {nL : Nat} {ret0 : Option FieldType} {nm : String} {a : Nat} (X : Cx p s m args meth c R_L cc nL ret0 TB D vwCl (tyL t) EX A nm) (hb : c.code = cc) (hP : hw D vwCl A g H) (hS : va_S A s.heap H locs) {fs : List Value} (he : g a = some (.inr (4, fs))) (hl : 1 < fs.length) {x : Int32} (hin : nm = "<init>") (hdg : decode cc pc = .ok (.putfield 13, 3)) (kk : ∀ (H1 : Heap) (locs1 : List Loc), hw D vwCl A (va_up g a (some (.inr (4, fs.set 1 (.int x))))) H1 → va_S A s.heap H1 locs1 → W p l e R s m args below meth c H1 locs1 cells slots Q (F0 m (pc + 3) ls rest)) : W p l e R s m args below meth c H locs cells slots Q (F0 m pc ls (.int x :: .ref a :: rest)) :=
  h_putF (C := R_L) (T := F_L) (N := 6) (ref := R_L) (own := R_L) X.1 hb X.2.2.2.2.1 i_L t_L t_L_ok n_L X.2.2.2.2.2.1 X.2.2.2.2.2.2.2.1 hP hS he rfl 1 (by decide) (X.2.2.2.2.1 _ (tbm 176 (by decide +kernel))) (fun _ h => h) rfl (X.2.2.2.2.2.2.2.2.2.2.trans hin) rfl (t_L_ok 1 (by decide)) rfl rfl hl hdg kk
theorem p_L_16 {p : Program} {l : Launch} {e : Env} {R : Room} {s : State} {m : MethodId} {args : Array Value} {below : List Frame} {meth : Method} {c : Code} {H : Heap} {locs : List Loc} {cells slots : Nat} {Q : State → Prop} {cc : ByteArray} {pc : Nat} {ls : Array Slot} {rest : List Value} {D : va_G} {A : Nat → Prop} {t : Nat → ClassId} {g : hG} {nL : Nat} {ret0 : Option FieldType} {nm : String} {a : Nat} (X : Cx p s m args meth c R_L cc nL ret0 TB D vwCl (tyL t) EX A nm) (hb : c.code = cc) (hP : hw D vwCl A g H) (hS : va_S A s.heap H locs) {fs : List Value} (he : g a = some (.inr (4, fs))) (hl : 2 < fs.length) {x : Value} (hn : narrow (t_L 2) (x) = x) (hfit : fits (t_L 2) (x) = true) (hin : nm = "<init>") (hdg : decode cc pc = .ok (.putfield 16, 3)) (kk : ∀ (H1 : Heap) (locs1 : List Loc), hw D vwCl A (va_up g a (some (.inr (4, fs.set 2 (x))))) H1 → va_S A s.heap H1 locs1 → W p l e R s m args below meth c H1 locs1 cells slots Q (F0 m (pc + 3) ls rest)) : W p l e R s m args below meth c H locs cells slots Q (F0 m pc ls (x :: .ref a :: rest)) :=
  h_putF (C := R_L) (T := F_L) (N := 6) (ref := R_L) (own := R_L) X.1 hb X.2.2.2.2.1 i_L t_L t_L_ok n_L X.2.2.2.2.2.1 X.2.2.2.2.2.2.2.1 hP hS he rfl 2 (by decide) (X.2.2.2.2.1 _ (tbm 179 (by decide +kernel))) (fun _ h => h) rfl (X.2.2.2.2.2.2.2.2.2.2.trans hin) rfl (t_L_ok 2 (by decide)) hn hfit hl hdg kk
theorem p_L_20 {p : Program} {l : Launch} {e : Env} {R : Room} {s : State} {m : MethodId} {args : Array Value} {below : List Frame} {meth : Method} {c : Code} {H : Heap} {locs : List Loc} {cells slots : Nat} {Q : State → Prop} {cc : ByteArray} {pc : Nat} {ls : Array Slot} {rest : List Value} {D : va_G} {A : Nat → Prop} {t : Nat → ClassId} {g : hG} {nL : Nat} {ret0 : Option FieldType} {nm : String} {a : Nat} (X : Cx p s m args meth c R_L cc nL ret0 TB D vwCl (tyL t) EX A nm) (hb : c.code = cc) (hP : hw D vwCl A g H) (hS : va_S A s.heap H locs) {fs : List Value} (he : g a = some (.inr (4, fs))) (hl : 3 < fs.length) {x : Int64} (hin : nm = "<init>") (hdg : decode cc pc = .ok (.putfield 20, 3)) (kk : ∀ (H1 : Heap) (locs1 : List Loc), hw D vwCl A (va_up g a (some (.inr (4, fs.set 3 (.long x))))) H1 → va_S A s.heap H1 locs1 → W p l e R s m args below meth c H1 locs1 cells slots Q (F0 m (pc + 3) ls rest)) : W p l e R s m args below meth c H locs cells slots Q (F0 m pc ls (.long x :: .ref a :: rest)) :=
  h_putF (C := R_L) (T := F_L) (N := 6) (ref := R_L) (own := R_L) X.1 hb X.2.2.2.2.1 i_L t_L t_L_ok n_L X.2.2.2.2.2.1 X.2.2.2.2.2.2.2.1 hP hS he rfl 3 (by decide) (X.2.2.2.2.1 _ (tbm 181 (by decide +kernel))) (fun _ h => h) rfl (X.2.2.2.2.2.2.2.2.2.2.trans hin) rfl (t_L_ok 3 (by decide)) rfl rfl hl hdg kk
theorem g_L_24 {p : Program} {l : Launch} {e : Env} {R : Room} {s : State} {m : MethodId} {args : Array Value} {below : List Frame} {meth : Method} {c : Code} {H : Heap} {locs : List Loc} {cells slots : Nat} {Q : State → Prop} {cc : ByteArray} {pc : Nat} {ls : Array Slot} {rest : List Value} {D : va_G} {A : Nat → Prop} {t : Nat → ClassId} {g : hG} {nL : Nat} {ret0 : Option FieldType} {nm : String} {a : Nat} (X : Cx p s m args meth c R_L cc nL ret0 TB D vwCl (tyL t) EX A nm) (hb : c.code = cc) (hP : hw D vwCl A g H) {fs : List Value} (he : g a = some (.inr (4, fs))) {v : Value} (hv : fs[5]? = some v) (hdg : decode cc pc = .ok (.getfield 24, 3)) (kk : W p l e R s m args below meth c H locs cells slots Q (F0 m (pc + 3) ls (v :: rest))) : W p l e R s m args below meth c H locs cells slots Q (F0 m pc ls (.ref a :: rest)) :=
  h_get (C := R_L) (T := F_L) (N := 6) (ref := R_L) (own := R_L) X.1 hb X.2.2.2.2.1 i_L X.2.2.2.2.2.1 X.2.2.2.2.2.2.2.1 hP he rfl 5 (by decide) (X.2.2.2.2.1 _ (tbm 185 (by decide +kernel))) (fun _ h => h) hv hdg kk
theorem g_L_28 {p : Program} {l : Launch} {e : Env} {R : Room} {s : State} {m : MethodId} {args : Array Value} {below : List Frame} {meth : Method} {c : Code} {H : Heap} {locs : List Loc} {cells slots : Nat} {Q : State → Prop} {cc : ByteArray} {pc : Nat} {ls : Array Slot} {rest : List Value} {D : va_G} {A : Nat → Prop} {t : Nat → ClassId} {g : hG} {nL : Nat} {ret0 : Option FieldType} {nm : String} {a : Nat} (X : Cx p s m args meth c R_L cc nL ret0 TB D vwCl (tyL t) EX A nm) (hb : c.code = cc) (hP : hw D vwCl A g H) {fs : List Value} (he : g a = some (.inr (4, fs))) {v : Value} (hv : fs[4]? = some v) (hdg : decode cc pc = .ok (.getfield 28, 3)) (kk : W p l e R s m args below meth c H locs cells slots Q (F0 m (pc + 3) ls (v :: rest))) : W p l e R s m args below meth c H locs cells slots Q (F0 m pc ls (.ref a :: rest)) :=
  h_get (C := R_L) (T := F_L) (N := 6) (ref := R_L) (own := R_L) X.1 hb X.2.2.2.2.1 i_L X.2.2.2.2.2.1 X.2.2.2.2.2.2.2.1 hP he rfl 4 (by decide) (X.2.2.2.2.1 _ (tbm 183 (by decide +kernel))) (fun _ h => h) hv hdg kk
theorem g_R_7 {p : Program} {l : Launch} {e : Env} {R : Room} {s : State} {m : MethodId} {args : Array Value} {below : List Frame} {meth : Method} {c : Code} {H : Heap} {locs : List Loc} {cells slots : Nat} {Q : State → Prop} {cc : ByteArray} {pc : Nat} {ls : Array Slot} {rest : List Value} {D : va_G} {A : Nat → Prop} {t : Nat → ClassId} {g : hG} {nL : Nat} {ret0 : Option FieldType} {nm : String} {a : Nat} (X : Cx p s m args meth c R_R cc nL ret0 TB D vwCl (tyL t) EX A nm) (hb : c.code = cc) (hP : hw D vwCl A g H) {fs : List Value} (he : g a = some (.inr (5, fs))) {v : Value} (hv : fs[0]? = some v) (hdg : decode cc pc = .ok (.getfield 7, 3)) (kk : W p l e R s m args below meth c H locs cells slots Q (F0 m (pc + 3) ls (v :: rest))) : W p l e R s m args below meth c H locs cells slots Q (F0 m pc ls (.ref a :: rest)) :=
  h_get (C := R_R) (T := F_R) (N := 5) (ref := R_R) (own := R_R) X.1 hb X.2.2.2.2.1 i_R X.2.2.2.2.2.1 X.2.2.2.2.2.2.2.1 hP he rfl 0 (by decide) (X.2.2.2.2.1 _ (tbm 120 (by decide +kernel))) (fun _ h => h) hv hdg kk
theorem p_R_7 {p : Program} {l : Launch} {e : Env} {R : Room} {s : State} {m : MethodId} {args : Array Value} {below : List Frame} {meth : Method} {c : Code} {H : Heap} {locs : List Loc} {cells slots : Nat} {Q : State → Prop} {cc : ByteArray} {pc : Nat} {ls : Array Slot} {rest : List Value} {D : va_G} {A : Nat → Prop} {t : Nat → ClassId} {g : hG} {nL : Nat} {ret0 : Option FieldType} {nm : String} {a : Nat} (X : Cx p s m args meth c R_R cc nL ret0 TB D vwCl (tyL t) EX A nm) (hb : c.code = cc) (hP : hw D vwCl A g H) (hS : va_S A s.heap H locs) {fs : List Value} (he : g a = some (.inr (5, fs))) (hl : 0 < fs.length) {x : Int32} (hin : nm = "<init>") (hdg : decode cc pc = .ok (.putfield 7, 3)) (kk : ∀ (H1 : Heap) (locs1 : List Loc), hw D vwCl A (va_up g a (some (.inr (5, fs.set 0 (.int x))))) H1 → va_S A s.heap H1 locs1 → W p l e R s m args below meth c H1 locs1 cells slots Q (F0 m (pc + 3) ls rest)) : W p l e R s m args below meth c H locs cells slots Q (F0 m pc ls (.int x :: .ref a :: rest)) :=
  h_putF (C := R_R) (T := F_R) (N := 5) (ref := R_R) (own := R_R) X.1 hb X.2.2.2.2.1 i_R t_R t_R_ok n_R X.2.2.2.2.2.1 X.2.2.2.2.2.2.2.1 hP hS he rfl 0 (by decide) (X.2.2.2.2.1 _ (tbm 120 (by decide +kernel))) (fun _ h => h) rfl (X.2.2.2.2.2.2.2.2.2.2.trans hin) rfl (t_R_ok 0 (by decide)) rfl rfl hl hdg kk
theorem g_R_13 {p : Program} {l : Launch} {e : Env} {R : Room} {s : State} {m : MethodId} {args : Array Value} {below : List Frame} {meth : Method} {c : Code} {H : Heap} {locs : List Loc} {cells slots : Nat} {Q : State → Prop} {cc : ByteArray} {pc : Nat} {ls : Array Slot} {rest : List Value} {D : va_G} {A : Nat → Prop} {t : Nat → ClassId} {g : hG} {nL : Nat} {ret0 : Option FieldType} {nm : String} {a : Nat} (X : Cx p s m args meth c R_R cc nL ret0 TB D vwCl (tyL t) EX A nm) (hb : c.code = cc) (hP : hw D vwCl A g H) {fs : List Value} (he : g a = some (.inr (5, fs))) {v : Value} (hv : fs[1]? = some v) (hdg : decode cc pc = .ok (.getfield 13, 3)) (kk : W p l e R s m args below meth c H locs cells slots Q (F0 m (pc + 3) ls (v :: rest))) : W p l e R s m args below meth c H locs cells slots Q (F0 m pc ls (.ref a :: rest)) :=
  h_get (C := R_R) (T := F_R) (N := 5) (ref := R_R) (own := R_R) X.1 hb X.2.2.2.2.1 i_R X.2.2.2.2.2.1 X.2.2.2.2.2.2.2.1 hP he rfl 1 (by decide) (X.2.2.2.2.1 _ (tbm 121 (by decide +kernel))) (fun _ h => h) hv hdg kk
theorem p_R_13 {p : Program} {l : Launch} {e : Env} {R : Room} {s : State} {m : MethodId} {args : Array Value} {below : List Frame} {meth : Method} {c : Code} {H : Heap} {locs : List Loc} {cells slots : Nat} {Q : State → Prop} {cc : ByteArray} {pc : Nat} {ls : Array Slot} {rest : List Value} {D : va_G} {A : Nat → Prop} {t : Nat → ClassId} {g : hG} {nL : Nat} {ret0 : Option FieldType} {nm : String} {a : Nat} (X : Cx p s m args meth c R_R cc nL ret0 TB D vwCl (tyL t) EX A nm) (hb : c.code = cc) (hP : hw D vwCl A g H) (hS : va_S A s.heap H locs) {fs : List Value} (he : g a = some (.inr (5, fs))) (hl : 1 < fs.length) {x : Int32} (hin : nm = "<init>") (hdg : decode cc pc = .ok (.putfield 13, 3)) (kk : ∀ (H1 : Heap) (locs1 : List Loc), hw D vwCl A (va_up g a (some (.inr (5, fs.set 1 (.int x))))) H1 → va_S A s.heap H1 locs1 → W p l e R s m args below meth c H1 locs1 cells slots Q (F0 m (pc + 3) ls rest)) : W p l e R s m args below meth c H locs cells slots Q (F0 m pc ls (.int x :: .ref a :: rest)) :=
  h_putF (C := R_R) (T := F_R) (N := 5) (ref := R_R) (own := R_R) X.1 hb X.2.2.2.2.1 i_R t_R t_R_ok n_R X.2.2.2.2.2.1 X.2.2.2.2.2.2.2.1 hP hS he rfl 1 (by decide) (X.2.2.2.2.1 _ (tbm 121 (by decide +kernel))) (fun _ h => h) rfl (X.2.2.2.2.2.2.2.2.2.2.trans hin) rfl (t_R_ok 1 (by decide)) rfl rfl hl hdg kk
theorem g_R_16 {p : Program} {l : Launch} {e : Env} {R : Room} {s : State} {m : MethodId} {args : Array Value} {below : List Frame} {meth : Method} {c : Code} {H : Heap} {locs : List Loc} {cells slots : Nat} {Q : State → Prop} {cc : ByteArray} {pc : Nat} {ls : Array Slot} {rest : List Value} {D : va_G} {A : Nat → Prop} {t : Nat → ClassId} {g : hG} {nL : Nat} {ret0 : Option FieldType} {nm : String} {a : Nat} (X : Cx p s m args meth c R_R cc nL ret0 TB D vwCl (tyL t) EX A nm) (hb : c.code = cc) (hP : hw D vwCl A g H) {fs : List Value} (he : g a = some (.inr (5, fs))) {v : Value} (hv : fs[2]? = some v) (hdg : decode cc pc = .ok (.getfield 16, 3)) (kk : W p l e R s m args below meth c H locs cells slots Q (F0 m (pc + 3) ls (v :: rest))) : W p l e R s m args below meth c H locs cells slots Q (F0 m pc ls (.ref a :: rest)) :=
  h_get (C := R_R) (T := F_R) (N := 5) (ref := R_R) (own := R_R) X.1 hb X.2.2.2.2.1 i_R X.2.2.2.2.2.1 X.2.2.2.2.2.2.2.1 hP he rfl 2 (by decide) (X.2.2.2.2.1 _ (tbm 122 (by decide +kernel))) (fun _ h => h) hv hdg kk
theorem p_R_16 {p : Program} {l : Launch} {e : Env} {R : Room} {s : State} {m : MethodId} {args : Array Value} {below : List Frame} {meth : Method} {c : Code} {H : Heap} {locs : List Loc} {cells slots : Nat} {Q : State → Prop} {cc : ByteArray} {pc : Nat} {ls : Array Slot} {rest : List Value} {D : va_G} {A : Nat → Prop} {t : Nat → ClassId} {g : hG} {nL : Nat} {ret0 : Option FieldType} {nm : String} {a : Nat} (X : Cx p s m args meth c R_R cc nL ret0 TB D vwCl (tyL t) EX A nm) (hb : c.code = cc) (hP : hw D vwCl A g H) (hS : va_S A s.heap H locs) {fs : List Value} (he : g a = some (.inr (5, fs))) (hl : 2 < fs.length) {x : Int32} (hin : nm = "<init>") (hdg : decode cc pc = .ok (.putfield 16, 3)) (kk : ∀ (H1 : Heap) (locs1 : List Loc), hw D vwCl A (va_up g a (some (.inr (5, fs.set 2 (.int x))))) H1 → va_S A s.heap H1 locs1 → W p l e R s m args below meth c H1 locs1 cells slots Q (F0 m (pc + 3) ls rest)) : W p l e R s m args below meth c H locs cells slots Q (F0 m pc ls (.int x :: .ref a :: rest)) :=
  h_putF (C := R_R) (T := F_R) (N := 5) (ref := R_R) (own := R_R) X.1 hb X.2.2.2.2.1 i_R t_R t_R_ok n_R X.2.2.2.2.2.1 X.2.2.2.2.2.2.2.1 hP hS he rfl 2 (by decide) (X.2.2.2.2.1 _ (tbm 122 (by decide +kernel))) (fun _ h => h) rfl (X.2.2.2.2.2.2.2.2.2.2.trans hin) rfl (t_R_ok 2 (by decide)) rfl rfl hl hdg kk
theorem g_R_25 {p : Program} {l : Launch} {e : Env} {R : Room} {s : State} {m : MethodId} {args : Array Value} {below : List Frame} {meth : Method} {c : Code} {H : Heap} {locs : List Loc} {cells slots : Nat} {Q : State → Prop} {cc : ByteArray} {pc : Nat} {ls : Array Slot} {rest : List Value} {D : va_G} {A : Nat → Prop} {t : Nat → ClassId} {g : hG} {nL : Nat} {ret0 : Option FieldType} {nm : String} {a : Nat} (X : Cx p s m args meth c R_R cc nL ret0 TB D vwCl (tyL t) EX A nm) (hb : c.code = cc) (hP : hw D vwCl A g H) {fs : List Value} (he : g a = some (.inr (5, fs))) {v : Value} (hv : fs[4]? = some v) (hdg : decode cc pc = .ok (.getfield 25, 3)) (kk : W p l e R s m args below meth c H locs cells slots Q (F0 m (pc + 3) ls (v :: rest))) : W p l e R s m args below meth c H locs cells slots Q (F0 m pc ls (.ref a :: rest)) :=
  h_get (C := R_R) (T := F_R) (N := 5) (ref := R_R) (own := R_R) X.1 hb X.2.2.2.2.1 i_R X.2.2.2.2.2.1 X.2.2.2.2.2.2.2.1 hP he rfl 4 (by decide) (X.2.2.2.2.1 _ (tbm 125 (by decide +kernel))) (fun _ h => h) hv hdg kk
theorem g_R_28 {p : Program} {l : Launch} {e : Env} {R : Room} {s : State} {m : MethodId} {args : Array Value} {below : List Frame} {meth : Method} {c : Code} {H : Heap} {locs : List Loc} {cells slots : Nat} {Q : State → Prop} {cc : ByteArray} {pc : Nat} {ls : Array Slot} {rest : List Value} {D : va_G} {A : Nat → Prop} {t : Nat → ClassId} {g : hG} {nL : Nat} {ret0 : Option FieldType} {nm : String} {a : Nat} (X : Cx p s m args meth c R_R cc nL ret0 TB D vwCl (tyL t) EX A nm) (hb : c.code = cc) (hP : hw D vwCl A g H) {fs : List Value} (he : g a = some (.inr (5, fs))) {v : Value} (hv : fs[3]? = some v) (hdg : decode cc pc = .ok (.getfield 28, 3)) (kk : W p l e R s m args below meth c H locs cells slots Q (F0 m (pc + 3) ls (v :: rest))) : W p l e R s m args below meth c H locs cells slots Q (F0 m pc ls (.ref a :: rest)) :=
  h_get (C := R_R) (T := F_R) (N := 5) (ref := R_R) (own := R_R) X.1 hb X.2.2.2.2.1 i_R X.2.2.2.2.2.1 X.2.2.2.2.2.2.2.1 hP he rfl 3 (by decide) (X.2.2.2.2.1 _ (tbm 123 (by decide +kernel))) (fun _ h => h) hv hdg kk
theorem nw_F_9 {p : Program} {l : Launch} {e : Env} {R : Room} {s : State} {m : MethodId} {args : Array Value} {below : List Frame} {meth : Method} {c : Code} {H : Heap} {locs : List Loc} {cells slots : Nat} {Q : State → Prop} {cc : ByteArray} {pc : Nat} {ls : Array Slot} {rest : List Value} {D : va_G} {A : Nat → Prop} {t : Nat → ClassId} {g : hG} {nL : Nat} {ret0 : Option FieldType} {nm : String} (X : Cx p s m args meth c R_F cc nL ret0 TB D vwCl (tyL t) EX A nm) (hb : c.code = cc) (hP : hw D vwCl A g H) (hS : va_S A s.heap H locs) (hf : cells + 1 ≤ R.cells ∧ slots + 5 ≤ R.slots) (hdg : decode cc pc = .ok (.new 9, 3)) (kk : ∀ (q : Nat) (H1 : Heap), g q = none → hw D vwCl A (va_up g q (some (.inr (5, [.int 0, .int 0, .int 0, .int 0, .int 0])))) H1 → va_S A s.heap H1 locs → W p l e R s m args below meth c H1 locs (cells + 1) (slots + 5) Q (F0 m (pc + 3) ls (.ref q :: rest))) : W p l e R s m args below meth c H locs cells slots Q (F0 m pc ls rest) :=
  h_new (C := R_R) (T := F_R) (N := 5) (ci := 5) (own := R_F) X.1 hb X.2.2.2.2.1 i_R t_R t_R_ok X.2.2.2.2.2.1 (X.2.2.2.2.1 _ (tbm 40 (by decide +kernel))) (X.2.2.2.2.1 _ (tbm 115 (by decide +kernel))) (X.2.2.2.2.1 _ (tbm 24 (by decide +kernel))) X.2.2.2.2.2.2.2.1 hP hS X.2.2.2.2.2.2.2.2.2.1 rfl (by decide +kernel) hf.1 hf.2 hdg kk
theorem nw_F_15 {p : Program} {l : Launch} {e : Env} {R : Room} {s : State} {m : MethodId} {args : Array Value} {below : List Frame} {meth : Method} {c : Code} {H : Heap} {locs : List Loc} {cells slots : Nat} {Q : State → Prop} {cc : ByteArray} {pc : Nat} {ls : Array Slot} {rest : List Value} {D : va_G} {A : Nat → Prop} {t : Nat → ClassId} {g : hG} {nL : Nat} {ret0 : Option FieldType} {nm : String} (X : Cx p s m args meth c R_F cc nL ret0 TB D vwCl (tyL t) EX A nm) (hb : c.code = cc) (hP : hw D vwCl A g H) (hS : va_S A s.heap H locs) (hf : cells + 1 ≤ R.cells ∧ slots + 6 ≤ R.slots) (hdg : decode cc pc = .ok (.new 15, 3)) (kk : ∀ (q : Nat) (H1 : Heap), g q = none → hw D vwCl A (va_up g q (some (.inr (4, [.int 0, .int 0, .null, .long 0, .null, .int 0])))) H1 → va_S A s.heap H1 locs → W p l e R s m args below meth c H1 locs (cells + 1) (slots + 6) Q (F0 m (pc + 3) ls (.ref q :: rest))) : W p l e R s m args below meth c H locs cells slots Q (F0 m pc ls rest) :=
  h_new (C := R_L) (T := F_L) (N := 6) (ci := 4) (own := R_F) X.1 hb X.2.2.2.2.1 i_L t_L t_L_ok X.2.2.2.2.2.1 (X.2.2.2.2.1 _ (tbm 42 (by decide +kernel))) (X.2.2.2.2.1 _ (tbm 168 (by decide +kernel))) (X.2.2.2.2.1 _ (tbm 29 (by decide +kernel))) X.2.2.2.2.2.2.2.1 hP hS X.2.2.2.2.2.2.2.2.2.1 rfl (by decide +kernel) hf.1 hf.2 hdg kk
theorem nw_F_24 {p : Program} {l : Launch} {e : Env} {R : Room} {s : State} {m : MethodId} {args : Array Value} {below : List Frame} {meth : Method} {c : Code} {H : Heap} {locs : List Loc} {cells slots : Nat} {Q : State → Prop} {cc : ByteArray} {pc : Nat} {ls : Array Slot} {rest : List Value} {D : va_G} {A : Nat → Prop} {t : Nat → ClassId} {g : hG} {nL : Nat} {ret0 : Option FieldType} {nm : String} (X : Cx p s m args meth c R_F cc nL ret0 TB D vwCl (tyL t) EX A nm) (hb : c.code = cc) (hP : hw D vwCl A g H) (hS : va_S A s.heap H locs) (hf : cells + 1 ≤ R.cells ∧ slots + 3 ≤ R.slots) (hdg : decode cc pc = .ok (.new 24, 3)) (kk : ∀ (q : Nat) (H1 : Heap), g q = none → hw D vwCl A (va_up g q (some (.inr (3, [.null, .null, .int 0])))) H1 → va_S A s.heap H1 locs → W p l e R s m args below meth c H1 locs (cells + 1) (slots + 3) Q (F0 m (pc + 3) ls (.ref q :: rest))) : W p l e R s m args below meth c H locs cells slots Q (F0 m pc ls rest) :=
  h_new (C := R_B) (T := F_B) (N := 3) (ci := 3) (own := R_F) X.1 hb X.2.2.2.2.1 i_B t_B t_B_ok X.2.2.2.2.2.1 (X.2.2.2.2.1 _ (tbm 44 (by decide +kernel))) (X.2.2.2.2.1 _ (tbm 45 (by decide +kernel))) (X.2.2.2.2.1 _ (tbm 21 (by decide +kernel))) X.2.2.2.2.2.2.2.1 hP hS X.2.2.2.2.2.2.2.2.2.1 rfl (by decide +kernel) hf.1 hf.2 hdg kk
theorem nw_F_31 {p : Program} {l : Launch} {e : Env} {R : Room} {s : State} {m : MethodId} {args : Array Value} {below : List Frame} {meth : Method} {c : Code} {H : Heap} {locs : List Loc} {cells slots : Nat} {Q : State → Prop} {cc : ByteArray} {pc : Nat} {ls : Array Slot} {rest : List Value} {D : va_G} {A : Nat → Prop} {t : Nat → ClassId} {g : hG} {nL : Nat} {ret0 : Option FieldType} {nm : String} (X : Cx p s m args meth c R_F cc nL ret0 TB D vwCl (tyL t) EX A nm) (hb : c.code = cc) (hP : hw D vwCl A g H) (hS : va_S A s.heap H locs) (hf : cells + 1 ≤ R.cells ∧ slots + 2 ≤ R.slots) (hdg : decode cc pc = .ok (.new 31, 3)) (kk : ∀ (q : Nat) (H1 : Heap), g q = none → hw D vwCl A (va_up g q (some (.inr (1, [.null, .int 0])))) H1 → va_S A s.heap H1 locs → W p l e R s m args below meth c H1 locs (cells + 1) (slots + 2) Q (F0 m (pc + 3) ls (.ref q :: rest))) : W p l e R s m args below meth c H locs cells slots Q (F0 m pc ls rest) :=
  h_new (C := R_C) (T := F_C) (N := 2) (ci := 1) (own := R_F) X.1 hb X.2.2.2.2.1 i_C t_C t_C_ok X.2.2.2.2.2.1 (X.2.2.2.2.1 _ (tbm 63 (by decide +kernel))) (X.2.2.2.2.1 _ (tbm 64 (by decide +kernel))) (X.2.2.2.2.1 _ (tbm 22 (by decide +kernel))) X.2.2.2.2.2.2.2.1 hP hS X.2.2.2.2.2.2.2.2.2.1 rfl (by decide +kernel) hf.1 hf.2 hdg kk
theorem nw_B_9 {p : Program} {l : Launch} {e : Env} {R : Room} {s : State} {m : MethodId} {args : Array Value} {below : List Frame} {meth : Method} {c : Code} {H : Heap} {locs : List Loc} {cells slots : Nat} {Q : State → Prop} {cc : ByteArray} {pc : Nat} {ls : Array Slot} {rest : List Value} {D : va_G} {A : Nat → Prop} {t : Nat → ClassId} {g : hG} {nL : Nat} {ret0 : Option FieldType} {nm : String} (X : Cx p s m args meth c R_B cc nL ret0 TB D vwCl (tyL t) EX A nm) (hb : c.code = cc) (hP : hw D vwCl A g H) (hS : va_S A s.heap H locs) (hf : cells + 1 ≤ R.cells ∧ slots + 7 ≤ R.slots) (hdg : decode cc pc = .ok (.new 9, 3)) (kk : ∀ (q : Nat) (H1 : Heap), g q = none → hw D vwCl A (va_up g q (some (.inr (2, [.int 0, .null, .int 0, .long 0, .long 0, .long 0, .long 0])))) H1 → va_S A s.heap H1 locs → W p l e R s m args below meth c H1 locs (cells + 1) (slots + 7) Q (F0 m (pc + 3) ls (.ref q :: rest))) : W p l e R s m args below meth c H locs cells slots Q (F0 m pc ls rest) :=
  h_new (C := R_D) (T := F_D) (N := 7) (ci := 2) (own := R_B) X.1 hb X.2.2.2.2.1 i_D t_D t_D_ok X.2.2.2.2.2.1 (X.2.2.2.2.1 _ (tbm 50 (by decide +kernel))) (X.2.2.2.2.1 _ (tbm 249 (by decide +kernel))) (X.2.2.2.2.1 _ (tbm 31 (by decide +kernel))) X.2.2.2.2.2.2.2.1 hP hS X.2.2.2.2.2.2.2.2.2.1 rfl (by decide +kernel) hf.1 hf.2 hdg kk
end
section
/-! Array rows at a place that is a number. -/
section HRN
variable {p : Program} {l : Launch} {e : Env} {R : Room} {s : State} {m : MethodId} {args : Array Value} {below : List Frame} {meth : Method} {c : Code} {H : Heap} {locs : List Loc} {cells slots : Nat} {Q : State → Prop}
variable {cc : ByteArray} {pc : Nat} {ls : Array Slot} {rest : List Value} {D : va_G} {A : Nat → Prop} {a : Nat} {t : Nat → ClassId} {g : hG} {nL : Nat} {ret0 : Option FieldType} {nm own : String} {n k : Nat}
theorem n_lald (X : Cx p s m args meth c own cc nL ret0 TB D vwCl (tyL t) EX A nm) (hb : c.code = cc) (hP : hw D vwCl A g H) {f : Nat → Int64} (ha : g a = some (arJ t n f)) (hk : k < n ∧ n < 2147483648) (hdg : decode cc pc = .ok (.laload, 1))
    (kk : W p l e R s m args below meth c H locs cells slots Q (F0 m (pc + 1) ls (.long (f k) :: rest))) : W p l e R s m args below meth c H locs cells slots Q (F0 m pc ls (.int (nI k) :: .ref a :: rest)) := by
  refine h_lald X.1 hb X.2.2.2.2.2.2.2.1 hP 1 ha rfl (vp_in_nI hk.1 hk.2) hdg ?_
  rw [nI_clamp (Nat.lt_trans hk.1 hk.2)]; exact kk
theorem n_iald (X : Cx p s m args meth c own cc nL ret0 TB D vwCl (tyL t) EX A nm) (hb : c.code = cc) (hP : hw D vwCl A g H) {f : Nat → Int32} (ha : g a = some (arI t n f)) (hk : k < n ∧ n < 2147483648) (hdg : decode cc pc = .ok (.iaload, 1))
    (kk : W p l e R s m args below meth c H locs cells slots Q (F0 m (pc + 1) ls (.int (f k) :: rest))) : W p l e R s m args below meth c H locs cells slots Q (F0 m pc ls (.int (nI k) :: .ref a :: rest)) := by
  refine h_iald X.1 hb X.2.2.2.2.2.2.2.1 hP 0 ha rfl (vp_in_nI hk.1 hk.2) hdg ?_
  rw [nI_clamp (Nat.lt_trans hk.1 hk.2)]; exact kk
theorem n_zald (X : Cx p s m args meth c own cc nL ret0 TB D vwCl (tyL t) EX A nm) (hb : c.code = cc) (hP : hw D vwCl A g H) {f : Nat → Int32} (ha : g a = some (arZ t n f)) (hk : k < n ∧ n < 2147483648) (hdg : decode cc pc = .ok (.baload, 1))
    (kk : W p l e R s m args below meth c H locs cells slots Q (F0 m (pc + 1) ls (.int (f k) :: rest))) : W p l e R s m args below meth c H locs cells slots Q (F0 m pc ls (.int (nI k) :: .ref a :: rest)) := by
  refine h_zald X.1 hb X.2.2.2.2.2.2.2.1 hP 2 ha rfl (vp_in_nI hk.1 hk.2) hdg ?_
  rw [nI_clamp (Nat.lt_trans hk.1 hk.2)]; exact kk
theorem n_aald (X : Cx p s m args meth c own cc nL ret0 TB D vwCl (tyL t) EX A nm) (hb : c.code = cc) (hP : hw D vwCl A g H) (t0 : Nat) {C : String} {f : Nat → Option Nat} (ha : g a = some (arQ t t0 n f)) (ht : (tyL t)[t0]? = some (t t0, .object C)) (hk : k < n ∧ n < 2147483648) (hdg : decode cc pc = .ok (.aaload, 1))
    (kk : W p l e R s m args below meth c H locs cells slots Q (F0 m (pc + 1) ls (va_rf (f k) :: rest))) : W p l e R s m args below meth c H locs cells slots Q (F0 m pc ls (.int (nI k) :: .ref a :: rest)) := by
  refine h_aald X.1 hb X.2.2.2.2.2.2.2.1 hP t0 ha ht (vp_in_nI hk.1 hk.2) hdg ?_
  rw [nI_clamp (Nat.lt_trans hk.1 hk.2)]; exact kk
theorem n_last (X : Cx p s m args meth c own cc nL ret0 TB D vwCl (tyL t) EX A nm) (hb : c.code = cc) (hP : hw D vwCl A g H) (hS : va_S A s.heap H locs) {f : Nat → Int64} (ha : g a = some (arJ t n f)) (hk : k < n ∧ n < 2147483648) {x : Int64} (hdg : decode cc pc = .ok (.lastore, 1))
    (kk : ∀ (H1 : Heap) (locs1 : List Loc), hw D vwCl A (va_up g a (some (arJ t n (va_up f k x)))) H1 → va_S A s.heap H1 locs1 → W p l e R s m args below meth c H1 locs1 cells slots Q (F0 m (pc + 1) ls rest)) : W p l e R s m args below meth c H locs cells slots Q (F0 m pc ls (.long x :: .int (nI k) :: .ref a :: rest)) := by
  refine h_last X.1 hb X.2.2.2.2.2.2.2.1 hP hS 1 ha rfl (vp_in_nI hk.1 hk.2) hdg ?_
  rw [nI_clamp (Nat.lt_trans hk.1 hk.2)]; exact kk
theorem n_iast (X : Cx p s m args meth c own cc nL ret0 TB D vwCl (tyL t) EX A nm) (hb : c.code = cc) (hP : hw D vwCl A g H) (hS : va_S A s.heap H locs) {f : Nat → Int32} (ha : g a = some (arI t n f)) (hk : k < n ∧ n < 2147483648) {x : Int32} (hdg : decode cc pc = .ok (.iastore, 1))
    (kk : ∀ (H1 : Heap) (locs1 : List Loc), hw D vwCl A (va_up g a (some (arI t n (va_up f k x)))) H1 → va_S A s.heap H1 locs1 → W p l e R s m args below meth c H1 locs1 cells slots Q (F0 m (pc + 1) ls rest)) : W p l e R s m args below meth c H locs cells slots Q (F0 m pc ls (.int x :: .int (nI k) :: .ref a :: rest)) := by
  refine h_iast X.1 hb X.2.2.2.2.2.2.2.1 hP hS 0 ha rfl (vp_in_nI hk.1 hk.2) hdg ?_
  rw [nI_clamp (Nat.lt_trans hk.1 hk.2)]; exact kk
theorem n_zast (X : Cx p s m args meth c own cc nL ret0 TB D vwCl (tyL t) EX A nm) (hb : c.code = cc) (hP : hw D vwCl A g H) (hS : va_S A s.heap H locs) {f : Nat → Int32} (ha : g a = some (arZ t n f)) (hk : k < n ∧ n < 2147483648) {x : Int32} (hx : vp_nar .boolean x = x) (hdg : decode cc pc = .ok (.bastore, 1))
    (kk : ∀ (H1 : Heap) (locs1 : List Loc), hw D vwCl A (va_up g a (some (arZ t n (va_up f k x)))) H1 → va_S A s.heap H1 locs1 → W p l e R s m args below meth c H1 locs1 cells slots Q (F0 m (pc + 1) ls rest)) : W p l e R s m args below meth c H locs cells slots Q (F0 m pc ls (.int x :: .int (nI k) :: .ref a :: rest)) := by
  refine h_zast X.1 hb X.2.2.2.2.2.2.2.1 hP hS 2 ha rfl (vp_in_nI hk.1 hk.2) hdg ?_
  rw [nI_clamp (Nat.lt_trans hk.1 hk.2), hx]; exact kk
theorem n_aast (X : Cx p s m args meth c own cc nL ret0 TB D vwCl (tyL t) EX A nm) (hb : c.code = cc) (hP : hw D vwCl A g H) (hS : va_S A s.heap H locs) (t0 ci : Nat) {r : vw_C} {f : Nat → Option Nat} {v : Nat} {vs : List Value} (ha : g a = some (arQ t t0 n f)) (ht : (tyL t)[t0]? = some (t t0, .object r.1)) (hv : g v = some (.inr (ci, vs))) (hc : vwCl[ci]? = some r) (hk : k < n ∧ n < 2147483648) (hdg : decode cc pc = .ok (.aastore, 1))
    (kk : ∀ (H1 : Heap) (locs1 : List Loc), hw D vwCl A (va_up g a (some (arQ t t0 n (va_up f k (some v))))) H1 → va_S A s.heap H1 locs1 → W p l e R s m args below meth c H1 locs1 cells slots Q (F0 m (pc + 1) ls rest)) : W p l e R s m args below meth c H locs cells slots Q (F0 m pc ls (.ref v :: .int (nI k) :: .ref a :: rest)) := by
  refine h_aast X.1 hb X.2.2.2.2.2.2.2.1 hP hS t0 ci ha ht hv hc (vp_in_nI hk.1 hk.2) hdg ?_
  rw [nI_clamp (Nat.lt_trans hk.1 hk.2)]; exact kk
theorem n_aastN (X : Cx p s m args meth c own cc nL ret0 TB D vwCl (tyL t) EX A nm) (hb : c.code = cc) (hP : hw D vwCl A g H) (hS : va_S A s.heap H locs) (t0 : Nat) {C : String} {f : Nat → Option Nat} (ha : g a = some (arQ t t0 n f)) (ht : (tyL t)[t0]? = some (t t0, .object C)) (hk : k < n ∧ n < 2147483648) (hdg : decode cc pc = .ok (.aastore, 1))
    (kk : ∀ (H1 : Heap) (locs1 : List Loc), hw D vwCl A (va_up g a (some (arQ t t0 n (va_up f k none)))) H1 → va_S A s.heap H1 locs1 → W p l e R s m args below meth c H1 locs1 cells slots Q (F0 m (pc + 1) ls rest)) : W p l e R s m args below meth c H locs cells slots Q (F0 m pc ls (.null :: .int (nI k) :: .ref a :: rest)) := by
  refine h_aastN X.1 hb X.2.2.2.2.2.2.2.1 hP hS t0 ha ht (vp_in_nI hk.1 hk.2) hdg ?_
  rw [nI_clamp (Nat.lt_trans hk.1 hk.2)]; exact kk
end HRN
end
section
/-! Pure words of the leaves. -/
def bi (b : Bool) : Int32 := cond b 1 0
theorem bi_t : bi true = 1 := rfl
theorem bi_f : bi false = 0 := rfl
theorem bi_0 {b : Bool} : bi b = 0 ↔ b = false := by cases b <;> decide
theorem bi_n0 {b : Bool} : ¬ bi b = 0 ↔ b = true := by cases b <;> decide
theorem bi_le {b : Bool} : bi b ≤ 0 ↔ b = false := by cases b <;> decide
theorem bi_nar (b : Bool) : narrow .boolean (.int (bi b)) = .int (bi b) := by cases b <;> rfl
theorem lg_cmp_ne (x y : Int64) : (lg_cmp x y ≠ 0) ↔ x ≠ y := not_congr (lg_cmp_eq x y)
/-- y to z holds x -/
def wi (x y z : Int32) : Bool := decide (y ≤ x) && decide (x ≤ z)
def wd (d : Int64) : Bool := decide (0 ≤ d) && decide (d ≤ 1000000)
def wl (x y z : Int64) : Bool := decide (y ≤ x) && decide (x ≤ z)
theorem wi_t {x y z : Int32} (h1 : y ≤ x) (h2 : x ≤ z) : wi x y z = true := by simp [wi, h1, h2]
theorem wi_f1 {x y z : Int32} (h : x < y) : wi x y z = false := by simp [wi, Int32.not_le.mpr h]
theorem wi_f2 {x y z : Int32} (h : z < x) : wi x y z = false := by simp [wi, Int32.not_le.mpr h]
theorem wi_iff {x y z : Int32} : wi x y z = true ↔ y ≤ x ∧ x ≤ z := by simp [wi]
theorem wd_t {d : Int64} (h1 : 0 ≤ d) (h2 : d ≤ 1000000) : wd d = true := by simp [wd, h1, h2]
theorem wd_f1 {d : Int64} (h : d < 0) : wd d = false := by simp [wd, Int64.not_le.mpr h]
theorem wd_f2 {d : Int64} (h : 1000000 < d) : wd d = false := by simp [wd, Int64.not_le.mpr h]
theorem wl_t {x y z : Int64} (h1 : y ≤ x) (h2 : x ≤ z) : wl x y z = true := by simp [wl, h1, h2]
theorem wl_f1 {x y z : Int64} (h : x < y) : wl x y z = false := by simp [wl, Int64.not_le.mpr h]
theorem wl_f2 {x y z : Int64} (h : z < x) : wl x y z = false := by simp [wl, Int64.not_le.mpr h]
def mnJ (x y : Int64) : Int64 := if y < x then y else x
/-- rules: cents, cap, grace, up, down (0 until it has an interest) -/
abbrev RV : Type := Int32 × Int32 × Int32 × Int32 × Int32
abbrev cRu (v : RV) : va_E := .inr (5, [.int v.1, .int v.2.1, .int v.2.2.1, .int v.2.2.2.1, .int v.2.2.2.2])
def rvCents (v : RV) (d : Int64) : Int64 := if d ≤ v.2.2.1.toInt64 then 0 else mnJ (d * v.1.toInt64) v.2.1.toInt64
def rvInt (v : RV) (left n : Int64) : Int64 := if v.2.2.2.2 ≤ 0 then 0 else left * v.2.2.2.1.toInt64 * n / v.2.2.2.2.toInt64
/-- how many of the first n of the days lie behind x, up to y -/
def cB (f : Nat → Int64) (x y : Int64) : Nat → Int32
  | 0 => 0
  | n + 1 => if x < f n ∧ f n ≤ y then cB f x y n + 1 else cB f x y n
def opD (f : Nat → Int64) (n : Nat) (x y : Int64) : Int64 := if y ≤ x then 0 else y - x - (cB f x y n).toInt64
theorem toI64_ne0 {x : Int32} (h : ¬ x ≤ 0) : ¬ x.toInt64 = 0 := fun e => h (by
  have h1 : x.toInt64.toInt = x.toInt := Int32.toInt_toInt64 x
  rw [e] at h1
  rw [Int32.le_iff_toInt_le]
  have h2 : (0 : Int64).toInt = 0 := by decide
  have h3 : (0 : Int32).toInt = 0 := by decide
  omega)
end
section
set_option maxRecDepth 100000 in
theorem c_F_isWithin (l : Launch) (D : va_G) (t : Nat → ClassId) (A : Nat → Prop) (g : hG) (x y z : Int32) : Met l y_F_isWithin (Cond.code y_F_isWithin b_F_isWithin 3 (some .boolean) :: TB) ({ frames := 0, cells := 0, slots := 0, locals := 0 } : Room) (va_Pc [.int x, .int y, .int z] (hI D vwCl (tyL t) EX A g)) (va_Qi (fun r u => r = bi (wi x y z) ∧ u = g) (fun u v => hw D vwCl A u v.heap) A) 0 0 A := by
  refine Met.ofH (cc := b_F_isWithin) (maxL := 3) (ret := (some .boolean)) (lv := [(0, .int x), (1, .int y), (2, .int z)]) (by decide) (Nat.le_of_ble_eq_true rfl) rfl ?_
  intro p e s m below meth c ls X hP hS hl
  obtain ⟨hx, hb, hml, hr, hts, hown, hlocks, hK, hEs, hA, hnm⟩ := id X
  refine lv_iload_n hx hb d_F_isWithin_0 rfl (lv_at hl 0 rfl) ?_
  refine lv_iload_n hx hb d_F_isWithin_1 rfl (lv_at hl 1 rfl) ?_
  refine lv_icmp_lt (tgt := 14) hx hb d_F_isWithin_2 (by decide) (fun c_1 => ?_) (fun c_1 => ?_)
  · refine lv_iconst (v := 0) hx hb d_F_isWithin_14 (by decide) ?_
    exact h_zret hx hb hr hlocks (rfl) (Nat.le_of_ble_eq_true rfl) (Nat.le_of_ble_eq_true rfl) hP hS (⟨by rw [wi_f1 c_1]; rfl, rfl⟩) d_F_isWithin_15
  · refine lv_iload_n hx hb d_F_isWithin_5 rfl (lv_at hl 0 rfl) ?_
    refine lv_iload_n hx hb d_F_isWithin_6 rfl (lv_at hl 2 rfl) ?_
    refine lv_icmp_gt (tgt := 14) hx hb d_F_isWithin_7 (by decide) (fun c_2 => ?_) (fun c_2 => ?_)
    · refine lv_iconst (v := 0) hx hb d_F_isWithin_14 (by decide) ?_
      exact h_zret hx hb hr hlocks (rfl) (Nat.le_of_ble_eq_true rfl) (Nat.le_of_ble_eq_true rfl) hP hS (⟨by rw [wi_f2 c_2]; rfl, rfl⟩) d_F_isWithin_15
    · refine lv_iconst (v := 1) hx hb d_F_isWithin_10 (by decide) ?_
      refine lv_goto (tgt := 15) hx hb d_F_isWithin_11 (by decide) ?_
      exact h_zret hx hb hr hlocks (rfl) (Nat.le_of_ble_eq_true rfl) (Nat.le_of_ble_eq_true rfl) hP hS (⟨by rw [wi_t (Int32.not_lt.mp c_1) (Int32.not_lt.mp c_2)]; rfl, rfl⟩) d_F_isWithin_15
theorem k_F_47 {p : Program} {l : Launch} {e : Env} {R : Room} {s : State} {m : MethodId} {args : Array Value} {below : List Frame} {meth : Method} {c : Code} {H : Heap} {locs : List Loc} {cells slots : Nat} {Q : State → Prop} {cc : ByteArray} {pc : Nat} {ls : Array Slot} {rest : List Value} {D : va_G} {A : Nat → Prop} {t : Nat → ClassId} {g : hG} {nL : Nat} {ret0 : Option FieldType} {nm : String} (X : Cx p s m args meth c R_F cc nL ret0 TB D vwCl (tyL t) EX A nm) (hR : 0 + 1 ≤ R.frames ∧ 8 + (3 + 11) + 0 ≤ R.locals) (hf : cells + 0 ≤ R.cells ∧ slots + 0 ≤ R.slots) (hls : ls.size = nL) (hP : hw D vwCl A g H) (hS : va_S A s.heap H locs) {x y z : Int32}  (hW : (rest.map fun v => v.category).sum ≤ 8) (hdg : decode cc pc = .ok (.invokestatic 47, 3)) (kk : ∀ (r : Int32) (H1 : Heap) (locs1 : List Loc), r = bi (wi x y z) → hw D vwCl A (g) H1 → va_S A s.heap H1 locs1 → W p l e R s m args below meth c H1 locs1 (cells + 0) (slots + 0) Q (F0 m (pc + 3) ls (.int r :: rest))) : W p l e R s m args below meth c H locs cells slots Q (F0 m pc ls (.int z :: .int y :: .int x :: rest)) :=
  h_ci (runS X (c_F_isWithin l D t A g x y z ) (tbm 111 (by decide +kernel)) (tbm 112 (by decide +kernel)) (tbm 20 (by decide +kernel)) (tbm 113 (by decide +kernel)) (n := 3) (by decide +kernel) hR hf hP hS hls rfl rfl hW hdg) hS (fun r u H1 locs1 hp hP1 hS1 => kk r H1 locs1 hp.1 (hp.2 ▸ hP1) hS1)
theorem k_B_24 {p : Program} {l : Launch} {e : Env} {R : Room} {s : State} {m : MethodId} {args : Array Value} {below : List Frame} {meth : Method} {c : Code} {H : Heap} {locs : List Loc} {cells slots : Nat} {Q : State → Prop} {cc : ByteArray} {pc : Nat} {ls : Array Slot} {rest : List Value} {D : va_G} {A : Nat → Prop} {t : Nat → ClassId} {g : hG} {nL : Nat} {ret0 : Option FieldType} {nm : String} (X : Cx p s m args meth c R_B cc nL ret0 TB D vwCl (tyL t) EX A nm) (hR : 0 + 1 ≤ R.frames ∧ 8 + (3 + 11) + 0 ≤ R.locals) (hf : cells + 0 ≤ R.cells ∧ slots + 0 ≤ R.slots) (hls : ls.size = nL) (hP : hw D vwCl A g H) (hS : va_S A s.heap H locs) {x y z : Int32}  (hW : (rest.map fun v => v.category).sum ≤ 8) (hdg : decode cc pc = .ok (.invokestatic 24, 3)) (kk : ∀ (r : Int32) (H1 : Heap) (locs1 : List Loc), r = bi (wi x y z) → hw D vwCl A (g) H1 → va_S A s.heap H1 locs1 → W p l e R s m args below meth c H1 locs1 (cells + 0) (slots + 0) Q (F0 m (pc + 3) ls (.int r :: rest))) : W p l e R s m args below meth c H locs cells slots Q (F0 m pc ls (.int z :: .int y :: .int x :: rest)) :=
  h_ci (runSN R_F X (c_F_isWithin l D t A g x y z ) X.2.2.2.2.2.2.2.2.1.1.2.2 (tbm 112 (by decide +kernel)) (tbm 20 (by decide +kernel)) (tbm 113 (by decide +kernel)) (n := 3) (by decide +kernel) hR hf hP hS hls rfl rfl hW hdg) hS (fun r u H1 locs1 hp hP1 hS1 => kk r H1 locs1 hp.1 (hp.2 ▸ hP1) hS1)

set_option maxRecDepth 100000 in
theorem c_F_isDay (l : Launch) (D : va_G) (t : Nat → ClassId) (A : Nat → Prop) (g : hG) (d : Int64) : Met l y_F_isDay (Cond.code y_F_isDay b_F_isDay 2 (some .boolean) :: TB) ({ frames := 0, cells := 0, slots := 0, locals := 0 } : Room) (va_Pc [.long d] (hI D vwCl (tyL t) EX A g)) (va_Qi (fun r u => r = bi (wd d) ∧ u = g) (fun u v => hw D vwCl A u v.heap) A) 0 0 A := by
  refine Met.ofH (cc := b_F_isDay) (maxL := 2) (ret := (some .boolean)) (lv := [(0, .long d)]) (by decide) (Nat.le_of_ble_eq_true rfl) rfl ?_
  intro p e s m below meth c ls X hP hS hl
  obtain ⟨hx, hb, hml, hr, hts, hown, hlocks, hK, hEs, hA, hnm⟩ := id X
  refine lv_lload_n hx hb d_F_isDay_0 rfl (lv_at hl 0 rfl) ?_
  refine lv_lconst (v := 0) hx hb d_F_isDay_1 (by decide) ?_
  refine W.lcmp hx hb d_F_isDay_2 ?_
  refine lv_if_lt (tgt := 18) hx hb d_F_isDay_3 (by decide) (fun c_1 => ?_) (fun c_1 => ?_)
  · rw [lg_cmp_lt] at c_1
    refine lv_iconst (v := 0) hx hb d_F_isDay_18 (by decide) ?_
    exact h_zret hx hb hr hlocks (rfl) (Nat.le_of_ble_eq_true rfl) (Nat.le_of_ble_eq_true rfl) hP hS (⟨by rw [wd_f1 c_1]; rfl, rfl⟩) d_F_isDay_19
  · rw [lg_cmp_lt] at c_1
    refine lv_lload_n hx hb d_F_isDay_6 rfl (lv_at hl 0 rfl) ?_
    refine lv_ldc2 (v := 1000000) hx hb hown (hts _ (tbm 145 (by decide +kernel))) d_F_isDay_7 ?_
    refine W.lcmp hx hb d_F_isDay_10 ?_
    refine lv_if_gt (tgt := 18) hx hb d_F_isDay_11 (by decide) (fun c_2 => ?_) (fun c_2 => ?_)
    · rw [lg_cmp_gt] at c_2
      refine lv_iconst (v := 0) hx hb d_F_isDay_18 (by decide) ?_
      exact h_zret hx hb hr hlocks (rfl) (Nat.le_of_ble_eq_true rfl) (Nat.le_of_ble_eq_true rfl) hP hS (⟨by rw [wd_f2 c_2]; rfl, rfl⟩) d_F_isDay_19
    · rw [lg_cmp_gt] at c_2
      refine lv_iconst (v := 1) hx hb d_F_isDay_14 (by decide) ?_
      refine lv_goto (tgt := 19) hx hb d_F_isDay_15 (by decide) ?_
      exact h_zret hx hb hr hlocks (rfl) (Nat.le_of_ble_eq_true rfl) (Nat.le_of_ble_eq_true rfl) hP hS (⟨by rw [wd_t (Int64.not_lt.mp c_1) (Int64.not_lt.mp c_2)]; rfl, rfl⟩) d_F_isDay_19
theorem k_F_76 {p : Program} {l : Launch} {e : Env} {R : Room} {s : State} {m : MethodId} {args : Array Value} {below : List Frame} {meth : Method} {c : Code} {H : Heap} {locs : List Loc} {cells slots : Nat} {Q : State → Prop} {cc : ByteArray} {pc : Nat} {ls : Array Slot} {rest : List Value} {D : va_G} {A : Nat → Prop} {t : Nat → ClassId} {g : hG} {nL : Nat} {ret0 : Option FieldType} {nm : String} (X : Cx p s m args meth c R_F cc nL ret0 TB D vwCl (tyL t) EX A nm) (hR : 0 + 1 ≤ R.frames ∧ 8 + (2 + 11) + 0 ≤ R.locals) (hf : cells + 0 ≤ R.cells ∧ slots + 0 ≤ R.slots) (hls : ls.size = nL) (hP : hw D vwCl A g H) (hS : va_S A s.heap H locs) {d : Int64}  (hW : (rest.map fun v => v.category).sum ≤ 8) (hdg : decode cc pc = .ok (.invokestatic 76, 3)) (kk : ∀ (r : Int32) (H1 : Heap) (locs1 : List Loc), r = bi (wd d) → hw D vwCl A (g) H1 → va_S A s.heap H1 locs1 → W p l e R s m args below meth c H1 locs1 (cells + 0) (slots + 0) Q (F0 m (pc + 3) ls (.int r :: rest))) : W p l e R s m args below meth c H locs cells slots Q (F0 m pc ls (.long d :: rest)) :=
  h_ci (runS X (c_F_isDay l D t A g d ) (tbm 142 (by decide +kernel)) (tbm 143 (by decide +kernel)) (tbm 20 (by decide +kernel)) (tbm 144 (by decide +kernel)) (n := 1) (by decide +kernel) hR hf hP hS hls rfl rfl hW hdg) hS (fun r u H1 locs1 hp hP1 hS1 => kk r H1 locs1 hp.1 (hp.2 ▸ hP1) hS1)

set_option maxRecDepth 100000 in
theorem c_F_isPerson (l : Launch) (D : va_G) (t : Nat → ClassId) (A : Nat → Prop) (g : hG) (x : Int32) : Met l y_F_isPerson (Cond.code y_F_isPerson b_F_isPerson 1 (some .boolean) :: TB) ({ frames := 1, cells := 0, slots := 0, locals := 22 } : Room) (va_Pc [.int x] (hI D vwCl (tyL t) EX A g)) (va_Qi (fun r u => r = bi (wi x 0 29) ∧ u = g) (fun u v => hw D vwCl A u v.heap) A) 0 0 A := by
  refine Met.ofH (cc := b_F_isPerson) (maxL := 1) (ret := (some .boolean)) (lv := [(0, .int x)]) (by decide) (Nat.le_of_ble_eq_true rfl) rfl ?_
  intro p e s m below meth c ls X hP hS hl
  obtain ⟨hx, hb, hml, hr, hts, hown, hlocks, hK, hEs, hA, hnm⟩ := id X
  refine lv_iload_n hx hb d_F_isPerson_0 rfl (lv_at hl 0 rfl) ?_
  refine lv_iconst (v := 0) hx hb d_F_isPerson_1 (by decide) ?_
  refine lv_bipush (v := 29) hx hb d_F_isPerson_2 (by decide) ?_
  refine k_F_47 X ⟨Nat.le_of_ble_eq_true rfl, Nat.le_of_ble_eq_true rfl⟩ ⟨Nat.le_of_ble_eq_true rfl, Nat.le_of_ble_eq_true rfl⟩ hl.1 hP hS (by exact Nat.le_of_ble_eq_true rfl) d_F_isPerson_4 (fun r_1 H locs er_1 hP hS => ?_)
  exact h_zret hx hb hr hlocks (by rw [er_1]; exact bi_nar _) (Nat.le_of_ble_eq_true rfl) (Nat.le_of_ble_eq_true rfl) hP hS (⟨er_1, rfl⟩) d_F_isPerson_7
theorem k_F_90 {p : Program} {l : Launch} {e : Env} {R : Room} {s : State} {m : MethodId} {args : Array Value} {below : List Frame} {meth : Method} {c : Code} {H : Heap} {locs : List Loc} {cells slots : Nat} {Q : State → Prop} {cc : ByteArray} {pc : Nat} {ls : Array Slot} {rest : List Value} {D : va_G} {A : Nat → Prop} {t : Nat → ClassId} {g : hG} {nL : Nat} {ret0 : Option FieldType} {nm : String} (X : Cx p s m args meth c R_F cc nL ret0 TB D vwCl (tyL t) EX A nm) (hR : 1 + 1 ≤ R.frames ∧ 8 + (1 + 11) + 22 ≤ R.locals) (hf : cells + 0 ≤ R.cells ∧ slots + 0 ≤ R.slots) (hls : ls.size = nL) (hP : hw D vwCl A g H) (hS : va_S A s.heap H locs) {x : Int32}  (hW : (rest.map fun v => v.category).sum ≤ 8) (hdg : decode cc pc = .ok (.invokestatic 90, 3)) (kk : ∀ (r : Int32) (H1 : Heap) (locs1 : List Loc), r = bi (wi x 0 29) → hw D vwCl A (g) H1 → va_S A s.heap H1 locs1 → W p l e R s m args below meth c H1 locs1 (cells + 0) (slots + 0) Q (F0 m (pc + 3) ls (.int r :: rest))) : W p l e R s m args below meth c H locs cells slots Q (F0 m pc ls (.int x :: rest)) :=
  h_ci (runS X (c_F_isPerson l D t A g x ) (tbm 165 (by decide +kernel)) (tbm 166 (by decide +kernel)) (tbm 20 (by decide +kernel)) (tbm 167 (by decide +kernel)) (n := 1) (by decide +kernel) hR hf hP hS hls rfl rfl hW hdg) hS (fun r u H1 locs1 hp hP1 hS1 => kk r H1 locs1 hp.1 (hp.2 ▸ hP1) hS1)

set_option maxRecDepth 100000 in
theorem c_F_isItem (l : Launch) (D : va_G) (t : Nat → ClassId) (A : Nat → Prop) (g : hG) (x : Int32) : Met l y_F_isItem (Cond.code y_F_isItem b_F_isItem 1 (some .boolean) :: TB) ({ frames := 1, cells := 0, slots := 0, locals := 22 } : Room) (va_Pc [.int x] (hI D vwCl (tyL t) EX A g)) (va_Qi (fun r u => r = bi (wi x 0 59) ∧ u = g) (fun u v => hw D vwCl A u v.heap) A) 0 0 A := by
  refine Met.ofH (cc := b_F_isItem) (maxL := 1) (ret := (some .boolean)) (lv := [(0, .int x)]) (by decide) (Nat.le_of_ble_eq_true rfl) rfl ?_
  intro p e s m below meth c ls X hP hS hl
  obtain ⟨hx, hb, hml, hr, hts, hown, hlocks, hK, hEs, hA, hnm⟩ := id X
  refine lv_iload_n hx hb d_F_isItem_0 rfl (lv_at hl 0 rfl) ?_
  refine lv_iconst (v := 0) hx hb d_F_isItem_1 (by decide) ?_
  refine lv_bipush (v := 59) hx hb d_F_isItem_2 (by decide) ?_
  refine k_F_47 X ⟨Nat.le_of_ble_eq_true rfl, Nat.le_of_ble_eq_true rfl⟩ ⟨Nat.le_of_ble_eq_true rfl, Nat.le_of_ble_eq_true rfl⟩ hl.1 hP hS (by exact Nat.le_of_ble_eq_true rfl) d_F_isItem_4 (fun r_1 H locs er_1 hP hS => ?_)
  exact h_zret hx hb hr hlocks (by rw [er_1]; exact bi_nar _) (Nat.le_of_ble_eq_true rfl) (Nat.le_of_ble_eq_true rfl) hP hS (⟨er_1, rfl⟩) d_F_isItem_7
theorem k_F_86 {p : Program} {l : Launch} {e : Env} {R : Room} {s : State} {m : MethodId} {args : Array Value} {below : List Frame} {meth : Method} {c : Code} {H : Heap} {locs : List Loc} {cells slots : Nat} {Q : State → Prop} {cc : ByteArray} {pc : Nat} {ls : Array Slot} {rest : List Value} {D : va_G} {A : Nat → Prop} {t : Nat → ClassId} {g : hG} {nL : Nat} {ret0 : Option FieldType} {nm : String} (X : Cx p s m args meth c R_F cc nL ret0 TB D vwCl (tyL t) EX A nm) (hR : 1 + 1 ≤ R.frames ∧ 8 + (1 + 11) + 22 ≤ R.locals) (hf : cells + 0 ≤ R.cells ∧ slots + 0 ≤ R.slots) (hls : ls.size = nL) (hP : hw D vwCl A g H) (hS : va_S A s.heap H locs) {x : Int32}  (hW : (rest.map fun v => v.category).sum ≤ 8) (hdg : decode cc pc = .ok (.invokestatic 86, 3)) (kk : ∀ (r : Int32) (H1 : Heap) (locs1 : List Loc), r = bi (wi x 0 59) → hw D vwCl A (g) H1 → va_S A s.heap H1 locs1 → W p l e R s m args below meth c H1 locs1 (cells + 0) (slots + 0) Q (F0 m (pc + 3) ls (.int r :: rest))) : W p l e R s m args below meth c H locs cells slots Q (F0 m pc ls (.int x :: rest)) :=
  h_ci (runS X (c_F_isItem l D t A g x ) (tbm 162 (by decide +kernel)) (tbm 163 (by decide +kernel)) (tbm 20 (by decide +kernel)) (tbm 164 (by decide +kernel)) (n := 1) (by decide +kernel) hR hf hP hS hls rfl rfl hW hdg) hS (fun r u H1 locs1 hp hP1 hS1 => kk r H1 locs1 hp.1 (hp.2 ▸ hP1) hS1)

set_option maxRecDepth 100000 in
theorem c_R_centsFor (l : Launch) (D : va_G) (t : Nat → ClassId) (A : Nat → Prop) (g : hG) (a : Nat) (v : RV) (d : Int64) (he : g a = some (cRu v)) : Met l y_R_centsFor (Cond.code y_R_centsFor b_R_centsFor 3 (some .long) :: TB) ({ frames := 1, cells := 0, slots := 0, locals := 24 } : Room) (va_Pc [.ref a, .long d] (hI D vwCl (tyL t) EX A g)) (va_Ql (fun r u => r = rvCents v d ∧ u = g) (fun u v => hw D vwCl A u v.heap) A) 0 0 A := by
  refine Met.ofH (cc := b_R_centsFor) (maxL := 3) (ret := (some .long)) (lv := [(0, .ref a), (1, .long d)]) (by decide) (Nat.le_of_ble_eq_true rfl) rfl ?_
  intro p e s m below meth c ls X hP hS hl
  obtain ⟨hx, hb, hml, hr, hts, hown, hlocks, hK, hEs, hA, hnm⟩ := id X
  refine lv_lload_n hx hb d_R_centsFor_0 rfl (lv_at hl 1 rfl) ?_
  refine lv_aload_n hx hb d_R_centsFor_1 rfl (lv_at hl 0 rfl) ?_
  refine g_R_16 X hb hP he rfl d_R_centsFor_2 ?_
  refine lv_i2l hx hb d_R_centsFor_5 rfl ?_
  refine W.lcmp hx hb d_R_centsFor_6 ?_
  refine lv_if_le (tgt := 28) hx hb d_R_centsFor_7 (by decide) (fun c_1 => ?_) (fun c_1 => ?_)
  · rw [lg_cmp_le] at c_1
    refine lv_lconst (v := 0) hx hb d_R_centsFor_28 (by decide) ?_
    exact h_lret hx hb hr hlocks (Nat.le_of_ble_eq_true rfl) (Nat.le_of_ble_eq_true rfl) hP hS (⟨by simp [rvCents, mnJ, c_1], rfl⟩) d_R_centsFor_29
  · rw [lg_cmp_le] at c_1
    refine lv_lload_n hx hb d_R_centsFor_10 rfl (lv_at hl 1 rfl) ?_
    refine lv_aload_n hx hb d_R_centsFor_11 rfl (lv_at hl 0 rfl) ?_
    refine g_R_7 X hb hP he rfl d_R_centsFor_12 ?_
    refine lv_i2l hx hb d_R_centsFor_15 rfl ?_
    refine lv_lmul hx hb d_R_centsFor_16 ?_
    refine lv_aload_n hx hb d_R_centsFor_17 rfl (lv_at hl 0 rfl) ?_
    refine g_R_13 X hb hP he rfl d_R_centsFor_18 ?_
    refine lv_i2l hx hb d_R_centsFor_21 rfl ?_
    refine va_mmin_long hx hb (by rw [hml]; exact hl.1.symm) hown (hts _ (tbm 225 (by decide +kernel))) (hts _ (tbm 226 (by decide +kernel))) (hts _ (tbm 30 (by decide +kernel))) (hts _ (tbm 227 (by decide +kernel))) (Nat.le_of_ble_eq_true rfl) (Nat.le_of_ble_eq_true rfl) (Nat.le_of_ble_eq_true rfl) (Nat.le_of_ble_eq_true rfl) d_R_centsFor_22 ?_
    refine lv_goto (tgt := 29) hx hb d_R_centsFor_25 (by decide) ?_
    exact h_lret hx hb hr hlocks (Nat.le_of_ble_eq_true rfl) (Nat.le_of_ble_eq_true rfl) hP hS (⟨by simp [rvCents, mnJ, c_1], rfl⟩) d_R_centsFor_29
theorem k_F_205 {p : Program} {l : Launch} {e : Env} {R : Room} {s : State} {m : MethodId} {args : Array Value} {below : List Frame} {meth : Method} {c : Code} {H : Heap} {locs : List Loc} {cells slots : Nat} {Q : State → Prop} {cc : ByteArray} {pc : Nat} {ls : Array Slot} {rest : List Value} {D : va_G} {A : Nat → Prop} {t : Nat → ClassId} {g : hG} {nL : Nat} {ret0 : Option FieldType} {nm : String} (X : Cx p s m args meth c R_F cc nL ret0 TB D vwCl (tyL t) EX A nm) (hR : 1 + 1 ≤ R.frames ∧ 8 + (3 + 11) + 24 ≤ R.locals) (hf : cells + 0 ≤ R.cells ∧ slots + 0 ≤ R.slots) (hls : ls.size = nL) (hP : hw D vwCl A g H) (hS : va_S A s.heap H locs) {a : Nat} {v : RV} {d : Int64} {fs9 : List Value} (he9 : g a = some (.inr (5, fs9))) (he : g a = some (cRu v)) (hW : (rest.map fun v => v.category).sum ≤ 8) (hdg : decode cc pc = .ok (.invokevirtual 205, 3)) (kk : ∀ (r : Int64) (H1 : Heap) (locs1 : List Loc), r = rvCents v d → hw D vwCl A (g) H1 → va_S A s.heap H1 locs1 → W p l e R s m args below meth c H1 locs1 (cells + 0) (slots + 0) Q (F0 m (pc + 3) ls (.long r :: rest))) : W p l e R s m args below meth c H locs cells slots Q (F0 m pc ls (.long d :: .ref a :: rest)) :=
  h_cl (runV (C := R_R) (T := F_R) (N := 5) X (c_R_centsFor l D t A g a v d he) (tbm 221 (by decide +kernel)) (tbm 222 (by decide +kernel)) (tbm 223 (by decide +kernel)) (tbm 24 (by decide +kernel)) (tbm 224 (by decide +kernel)) rfl (n := 1) (by decide +kernel) hR hf hP he9 hS hls rfl rfl hW hdg) hS (fun r u H1 locs1 hp hP1 hS1 => kk r H1 locs1 hp.1 (hp.2 ▸ hP1) hS1)

set_option maxRecDepth 100000 in
theorem c_R_interestFor (l : Launch) (D : va_G) (t : Nat → ClassId) (A : Nat → Prop) (g : hG) (a : Nat) (v : RV) (x n : Int64) (he : g a = some (cRu v)) : Met l y_R_interestFor (Cond.code y_R_interestFor b_R_interestFor 5 (some .long) :: TB) ({ frames := 0, cells := 0, slots := 0, locals := 0 } : Room) (va_Pc [.ref a, .long x, .long n] (hI D vwCl (tyL t) EX A g)) (va_Ql (fun r u => r = rvInt v x n ∧ u = g) (fun u v => hw D vwCl A u v.heap) A) 0 0 A := by
  refine Met.ofH (cc := b_R_interestFor) (maxL := 5) (ret := (some .long)) (lv := [(0, .ref a), (1, .long x), (3, .long n)]) (by decide) (Nat.le_of_ble_eq_true rfl) rfl ?_
  intro p e s m below meth c ls X hP hS hl
  obtain ⟨hx, hb, hml, hr, hts, hown, hlocks, hK, hEs, hA, hnm⟩ := id X
  refine lv_aload_n hx hb d_R_interestFor_0 rfl (lv_at hl 0 rfl) ?_
  refine g_R_25 X hb hP he rfl d_R_interestFor_1 ?_
  refine lv_if_le (tgt := 25) hx hb d_R_interestFor_4 (by decide) (fun c_1 => ?_) (fun c_1 => ?_)
  · refine lv_lconst (v := 0) hx hb d_R_interestFor_25 (by decide) ?_
    exact h_lret hx hb hr hlocks (Nat.le_of_ble_eq_true rfl) (Nat.le_of_ble_eq_true rfl) hP hS (⟨by simp [rvInt, c_1], rfl⟩) d_R_interestFor_26
  · refine lv_lload_n hx hb d_R_interestFor_7 rfl (lv_at hl 1 rfl) ?_
    refine lv_aload_n hx hb d_R_interestFor_8 rfl (lv_at hl 0 rfl) ?_
    refine g_R_28 X hb hP he rfl d_R_interestFor_9 ?_
    refine lv_i2l hx hb d_R_interestFor_12 rfl ?_
    refine lv_lmul hx hb d_R_interestFor_13 ?_
    refine lv_lload_n hx hb d_R_interestFor_14 rfl (lv_at hl 2 rfl) ?_
    refine lv_lmul hx hb d_R_interestFor_15 ?_
    refine lv_aload_n hx hb d_R_interestFor_16 rfl (lv_at hl 0 rfl) ?_
    refine g_R_25 X hb hP he rfl d_R_interestFor_17 ?_
    refine lv_i2l hx hb d_R_interestFor_20 rfl ?_
    refine lv_ldiv hx hb d_R_interestFor_21 (toI64_ne0 c_1) ?_
    refine lv_goto (tgt := 26) hx hb d_R_interestFor_22 (by decide) ?_
    exact h_lret hx hb hr hlocks (Nat.le_of_ble_eq_true rfl) (Nat.le_of_ble_eq_true rfl) hP hS (⟨by simp [rvInt, c_1], rfl⟩) d_R_interestFor_26
theorem k_D_47 {p : Program} {l : Launch} {e : Env} {R : Room} {s : State} {m : MethodId} {args : Array Value} {below : List Frame} {meth : Method} {c : Code} {H : Heap} {locs : List Loc} {cells slots : Nat} {Q : State → Prop} {cc : ByteArray} {pc : Nat} {ls : Array Slot} {rest : List Value} {D : va_G} {A : Nat → Prop} {t : Nat → ClassId} {g : hG} {nL : Nat} {ret0 : Option FieldType} {nm : String} (X : Cx p s m args meth c R_D cc nL ret0 TB D vwCl (tyL t) EX A nm) (hR : 0 + 1 ≤ R.frames ∧ 8 + (5 + 11) + 0 ≤ R.locals) (hf : cells + 0 ≤ R.cells ∧ slots + 0 ≤ R.slots) (hls : ls.size = nL) (hP : hw D vwCl A g H) (hS : va_S A s.heap H locs) {a : Nat} {v : RV} {x n : Int64} {fs9 : List Value} (he9 : g a = some (.inr (5, fs9))) (he : g a = some (cRu v)) (hW : (rest.map fun v => v.category).sum ≤ 8) (hdg : decode cc pc = .ok (.invokevirtual 47, 3)) (kk : ∀ (r : Int64) (H1 : Heap) (locs1 : List Loc), r = rvInt v x n → hw D vwCl A (g) H1 → va_S A s.heap H1 locs1 → W p l e R s m args below meth c H1 locs1 (cells + 0) (slots + 0) Q (F0 m (pc + 3) ls (.long r :: rest))) : W p l e R s m args below meth c H locs cells slots Q (F0 m pc ls (.long n :: .long x :: .ref a :: rest)) :=
  h_cl (runV (C := R_R) (T := F_R) (N := 5) X (c_R_interestFor l D t A g a v x n he) (tbm 345 (by decide +kernel)) (tbm 346 (by decide +kernel)) (tbm 347 (by decide +kernel)) (tbm 24 (by decide +kernel)) (tbm 348 (by decide +kernel)) rfl (n := 2) (by decide +kernel) hR hf hP he9 hS hls rfl rfl hW hdg) hS (fun r u H1 locs1 hp hP1 hS1 => kk r H1 locs1 hp.1 (hp.2 ▸ hP1) hS1)
end
section
abbrev cLo (i p : Int32) (ra : Nat) (du : Int64) (lo : Option Nat) (en : Int32) : va_E := .inr (4, [.int i, .int p, .ref ra, .long du, va_rf lo, .int en])
abbrev cDe (p : Int32) (ra : Nat) (so : Int32) (am dy le pa : Int64) : va_E := .inr (2, [.int p, .ref ra, .int so, .long am, .long dy, .long le, .long pa])
abbrev cBr (bn bd : Nat) (n : Int32) : va_E := .inr (3, [.ref bn, .ref bd, .int n])
abbrev cCl (dy : Nat) (n : Int32) : va_E := .inr (1, [.ref dy, .int n])
abbrev cFi (ra : Nat) (rn : Int32) (la : Nat) (ln : Int32) (ia dr cd cr : Nat) (bl : Int32) : va_E := .inr (0, [.ref ra, .int rn, .ref la, .int ln, .ref ia, .ref dr, .ref cd, .ref cr, .int bl])
def lent (lo : Option Nat) (en : Int32) : Bool := decide (en = 0) && lo.isNone
def dInt (v : RV) (le dy at_ : Int64) : Int64 := if at_ ≤ dy then 0 else rvInt v le ((at_ - dy) / 30)
theorem i30 : ¬ (30 : Int64) = 0 := by decide
theorem cB_0 {f : Nat → Int64} {x y : Int64} : cB f x y 0 = 0 := rfl
theorem cB_no1 {f : Nat → Int64} {x y : Int64} {i : Nat} (h : f i ≤ x) : cB f x y (i + 1) = cB f x y i := by
  simp [cB, Int64.not_lt.mpr h]
theorem cB_no2 {f : Nat → Int64} {x y : Int64} {i : Nat} (h : y < f i) : cB f x y (i + 1) = cB f x y i := by
  simp [cB, Int64.not_le.mpr h]
theorem cB_yes {f : Nat → Int64} {x y : Int64} {i : Nat} (h1 : ¬ f i ≤ x) (h2 : ¬ y < f i) : cB f x y (i + 1) = cB f x y i + 1 := by
  simp [cB, Int64.not_le.mp h1, Int64.not_lt.mp h2]
end
section
set_option maxRecDepth 100000 in
theorem c_L_isLent (l : Launch) (D : va_G) (t : Nat → ClassId) (A : Nat → Prop) (g : hG) (a : Nat) (it pn : Int32) (ra : Nat) (du : Int64) (lo : Option Nat) (en : Int32) (he : g a = some (cLo it pn ra du lo en)) : Met l y_L_isLent (Cond.code y_L_isLent b_L_isLent 1 (some .boolean) :: TB) ({ frames := 0, cells := 0, slots := 0, locals := 0 } : Room) (va_Pc [.ref a] (hI D vwCl (tyL t) EX A g)) (va_Qi (fun r u => r = bi (lent lo en) ∧ u = g) (fun u v => hw D vwCl A u v.heap) A) 0 0 A := by
  refine Met.ofH (cc := b_L_isLent) (maxL := 1) (ret := (some .boolean)) (lv := [(0, .ref a)]) (by decide) (Nat.le_of_ble_eq_true rfl) rfl ?_
  intro p e s m below meth c ls X hP hS hl
  obtain ⟨hx, hb, hml, hr, hts, hown, hlocks, hK, hEs, hA, hnm⟩ := id X
  refine lv_aload_n hx hb d_L_isLent_0 rfl (lv_at hl 0 rfl) ?_
  refine g_L_24 X hb hP he rfl d_L_isLent_1 ?_
  refine lv_if_ne (tgt := 18) hx hb d_L_isLent_4 (by decide) (fun c_1 => ?_) (fun c_1 => ?_)
  · refine lv_iconst (v := 0) hx hb d_L_isLent_18 (by decide) ?_
    exact h_zret hx hb hr hlocks (rfl) (Nat.le_of_ble_eq_true rfl) (Nat.le_of_ble_eq_true rfl) hP hS (⟨by simp [bi, lent, c_1], rfl⟩) d_L_isLent_19
  · refine lv_aload_n hx hb d_L_isLent_7 rfl (lv_at hl 0 rfl) ?_
    refine g_L_28 X hb hP he rfl d_L_isLent_8 ?_
    refine lv_topq (fun ey_2 => ?_) (fun y_2 ey_2 => ?_)
    · refine lv_ifnonnullN hx hb d_L_isLent_11 ?_
      refine lv_iconst (v := 1) hx hb d_L_isLent_14 (by decide) ?_
      refine lv_goto (tgt := 19) hx hb d_L_isLent_15 (by decide) ?_
      exact h_zret hx hb hr hlocks (rfl) (Nat.le_of_ble_eq_true rfl) (Nat.le_of_ble_eq_true rfl) hP hS (⟨by simp [bi, lent, c_1, ey_2], rfl⟩) d_L_isLent_19
    · refine lv_ifnonnull (tgt := 18) hx hb d_L_isLent_11 (by decide) ?_
      refine lv_iconst (v := 0) hx hb d_L_isLent_18 (by decide) ?_
      exact h_zret hx hb hr hlocks (rfl) (Nat.le_of_ble_eq_true rfl) (Nat.le_of_ble_eq_true rfl) hP hS (⟨by simp [bi, lent, c_1, ey_2], rfl⟩) d_L_isLent_19
theorem k_F_192 {p : Program} {l : Launch} {e : Env} {R : Room} {s : State} {m : MethodId} {args : Array Value} {below : List Frame} {meth : Method} {c : Code} {H : Heap} {locs : List Loc} {cells slots : Nat} {Q : State → Prop} {cc : ByteArray} {pc : Nat} {ls : Array Slot} {rest : List Value} {D : va_G} {A : Nat → Prop} {t : Nat → ClassId} {g : hG} {nL : Nat} {ret0 : Option FieldType} {nm : String} (X : Cx p s m args meth c R_F cc nL ret0 TB D vwCl (tyL t) EX A nm) (hR : 0 + 1 ≤ R.frames ∧ 8 + (1 + 11) + 0 ≤ R.locals) (hf : cells + 0 ≤ R.cells ∧ slots + 0 ≤ R.slots) (hls : ls.size = nL) (hP : hw D vwCl A g H) (hS : va_S A s.heap H locs) {a : Nat} {it pn : Int32} {ra : Nat} {du : Int64} {lo : Option Nat} {en : Int32} {fs9 : List Value} (he9 : g a = some (.inr (4, fs9))) (he : g a = some (cLo it pn ra du lo en)) (hW : (rest.map fun v => v.category).sum ≤ 8) (hdg : decode cc pc = .ok (.invokevirtual 192, 3)) (kk : ∀ (r : Int32) (H1 : Heap) (locs1 : List Loc), r = bi (lent lo en) → hw D vwCl A (g) H1 → va_S A s.heap H1 locs1 → W p l e R s m args below meth c H1 locs1 (cells + 0) (slots + 0) Q (F0 m (pc + 3) ls (.int r :: rest))) : W p l e R s m args below meth c H locs cells slots Q (F0 m pc ls (.ref a :: rest)) :=
  h_ci (runV (C := R_L) (T := F_L) (N := 6) X (c_L_isLent l D t A g a it pn ra du lo en he) (tbm 208 (by decide +kernel)) (tbm 209 (by decide +kernel)) (tbm 210 (by decide +kernel)) (tbm 29 (by decide +kernel)) (tbm 211 (by decide +kernel)) rfl (n := 0) (by decide +kernel) hR hf hP he9 hS hls rfl rfl hW hdg) hS (fun r u H1 locs1 hp hP1 hS1 => kk r H1 locs1 hp.1 (hp.2 ▸ hP1) hS1)

set_option maxRecDepth 100000 in
theorem c_D_interestAt (l : Launch) (D : va_G) (t : Nat → ClassId) (A : Nat → Prop) (g : hG) (a : Nat) (pn : Int32) (ra : Nat) (so : Int32) (am dy le pa : Int64) (v : RV) (x : Int64) (he : g a = some (cDe pn ra so am dy le pa)) (hr0 : g ra = some (cRu v)) : Met l y_D_interestAt (Cond.code y_D_interestAt b_D_interestAt 3 (some .long) :: TB) ({ frames := 1, cells := 0, slots := 0, locals := 24 } : Room) (va_Pc [.ref a, .long x] (hI D vwCl (tyL t) EX A g)) (va_Ql (fun r u => r = dInt v le dy x ∧ u = g) (fun u v => hw D vwCl A u v.heap) A) 0 0 A := by
  refine Met.ofH (cc := b_D_interestAt) (maxL := 3) (ret := (some .long)) (lv := [(0, .ref a), (1, .long x)]) (by decide) (Nat.le_of_ble_eq_true rfl) rfl ?_
  intro p e s m below meth c ls X hP hS hl
  obtain ⟨hx, hb, hml, hr, hts, hown, hlocks, hK, hEs, hA, hnm⟩ := id X
  refine lv_lload_n hx hb d_D_interestAt_0 rfl (lv_at hl 1 rfl) ?_
  refine lv_aload_n hx hb d_D_interestAt_1 rfl (lv_at hl 0 rfl) ?_
  refine g_D_30 X hb hP he rfl d_D_interestAt_2 ?_
  refine W.lcmp hx hb d_D_interestAt_5 ?_
  refine lv_if_le (tgt := 33) hx hb d_D_interestAt_6 (by decide) (fun c_1 => ?_) (fun c_1 => ?_)
  · rw [lg_cmp_le] at c_1
    refine lv_lconst (v := 0) hx hb d_D_interestAt_33 (by decide) ?_
    exact h_lret hx hb hr hlocks (Nat.le_of_ble_eq_true rfl) (Nat.le_of_ble_eq_true rfl) hP hS (⟨by simp [dInt, c_1], rfl⟩) d_D_interestAt_34
  · rw [lg_cmp_le] at c_1
    refine lv_aload_n hx hb d_D_interestAt_9 rfl (lv_at hl 0 rfl) ?_
    refine g_D_22 X hb hP he rfl d_D_interestAt_10 ?_
    refine lv_aload_n hx hb d_D_interestAt_13 rfl (lv_at hl 0 rfl) ?_
    refine g_D_33 X hb hP he rfl d_D_interestAt_14 ?_
    refine lv_lload_n hx hb d_D_interestAt_17 rfl (lv_at hl 1 rfl) ?_
    refine lv_aload_n hx hb d_D_interestAt_18 rfl (lv_at hl 0 rfl) ?_
    refine g_D_30 X hb hP he rfl d_D_interestAt_19 ?_
    refine lv_lsub hx hb d_D_interestAt_22 ?_
    refine lv_ldc2 (v := 30) hx hb hown (hts _ (tbm 344 (by decide +kernel))) d_D_interestAt_23 ?_
    refine lv_ldiv hx hb d_D_interestAt_26 i30 ?_
    refine k_D_47 X ⟨Nat.le_of_ble_eq_true rfl, Nat.le_of_ble_eq_true rfl⟩ ⟨Nat.le_of_ble_eq_true rfl, Nat.le_of_ble_eq_true rfl⟩ hl.1 hP hS hr0 hr0 (by exact Nat.le_of_ble_eq_true rfl) d_D_interestAt_27 (fun r_2 H locs er_2 hP hS => ?_)
    refine lv_goto (tgt := 34) hx hb d_D_interestAt_30 (by decide) ?_
    exact h_lret hx hb hr hlocks (Nat.le_of_ble_eq_true rfl) (Nat.le_of_ble_eq_true rfl) hP hS (⟨by rw [er_2]; simp [dInt, c_1], rfl⟩) d_D_interestAt_34
theorem k_F_189 {p : Program} {l : Launch} {e : Env} {R : Room} {s : State} {m : MethodId} {args : Array Value} {below : List Frame} {meth : Method} {c : Code} {H : Heap} {locs : List Loc} {cells slots : Nat} {Q : State → Prop} {cc : ByteArray} {pc : Nat} {ls : Array Slot} {rest : List Value} {D : va_G} {A : Nat → Prop} {t : Nat → ClassId} {g : hG} {nL : Nat} {ret0 : Option FieldType} {nm : String} (X : Cx p s m args meth c R_F cc nL ret0 TB D vwCl (tyL t) EX A nm) (hR : 1 + 1 ≤ R.frames ∧ 8 + (3 + 11) + 24 ≤ R.locals) (hf : cells + 0 ≤ R.cells ∧ slots + 0 ≤ R.slots) (hls : ls.size = nL) (hP : hw D vwCl A g H) (hS : va_S A s.heap H locs) {a : Nat} {pn : Int32} {ra : Nat} {so : Int32} {am dy le pa : Int64} {v : RV} {x : Int64} {fs9 : List Value} (he9 : g a = some (.inr (2, fs9))) (he : g a = some (cDe pn ra so am dy le pa)) (hr0 : g ra = some (cRu v)) (hW : (rest.map fun v => v.category).sum ≤ 8) (hdg : decode cc pc = .ok (.invokevirtual 189, 3)) (kk : ∀ (r : Int64) (H1 : Heap) (locs1 : List Loc), r = dInt v le dy x → hw D vwCl A (g) H1 → va_S A s.heap H1 locs1 → W p l e R s m args below meth c H1 locs1 (cells + 0) (slots + 0) Q (F0 m (pc + 3) ls (.long r :: rest))) : W p l e R s m args below meth c H locs cells slots Q (F0 m pc ls (.long x :: .ref a :: rest)) :=
  h_cl (runV (C := R_D) (T := F_D) (N := 7) X (c_D_interestAt l D t A g a pn ra so am dy le pa v x he hr0) (tbm 367 (by decide +kernel)) (tbm 341 (by decide +kernel)) (tbm 342 (by decide +kernel)) (tbm 31 (by decide +kernel)) (tbm 343 (by decide +kernel)) rfl (n := 1) (by decide +kernel) hR hf hP he9 hS hls rfl rfl hW hdg) hS (fun r u H1 locs1 hp hP1 hS1 => kk r H1 locs1 hp.1 (hp.2 ▸ hP1) hS1)
theorem k_B_49 {p : Program} {l : Launch} {e : Env} {R : Room} {s : State} {m : MethodId} {args : Array Value} {below : List Frame} {meth : Method} {c : Code} {H : Heap} {locs : List Loc} {cells slots : Nat} {Q : State → Prop} {cc : ByteArray} {pc : Nat} {ls : Array Slot} {rest : List Value} {D : va_G} {A : Nat → Prop} {t : Nat → ClassId} {g : hG} {nL : Nat} {ret0 : Option FieldType} {nm : String} (X : Cx p s m args meth c R_B cc nL ret0 TB D vwCl (tyL t) EX A nm) (hR : 1 + 1 ≤ R.frames ∧ 8 + (3 + 11) + 24 ≤ R.locals) (hf : cells + 0 ≤ R.cells ∧ slots + 0 ≤ R.slots) (hls : ls.size = nL) (hP : hw D vwCl A g H) (hS : va_S A s.heap H locs) {a : Nat} {pn : Int32} {ra : Nat} {so : Int32} {am dy le pa : Int64} {v : RV} {x : Int64} {fs9 : List Value} (he9 : g a = some (.inr (2, fs9))) (he : g a = some (cDe pn ra so am dy le pa)) (hr0 : g ra = some (cRu v)) (hW : (rest.map fun v => v.category).sum ≤ 8) (hdg : decode cc pc = .ok (.invokevirtual 49, 3)) (kk : ∀ (r : Int64) (H1 : Heap) (locs1 : List Loc), r = dInt v le dy x → hw D vwCl A (g) H1 → va_S A s.heap H1 locs1 → W p l e R s m args below meth c H1 locs1 (cells + 0) (slots + 0) Q (F0 m (pc + 3) ls (.long r :: rest))) : W p l e R s m args below meth c H locs cells slots Q (F0 m pc ls (.long x :: .ref a :: rest)) :=
  h_cl (runV (C := R_D) (T := F_D) (N := 7) X (c_D_interestAt l D t A g a pn ra so am dy le pa v x he hr0) (tbm 340 (by decide +kernel)) (tbm 341 (by decide +kernel)) (tbm 342 (by decide +kernel)) (tbm 31 (by decide +kernel)) (tbm 343 (by decide +kernel)) rfl (n := 1) (by decide +kernel) hR hf hP he9 hS hls rfl rfl hW hdg) hS (fun r u H1 locs1 hp hP1 hS1 => kk r H1 locs1 hp.1 (hp.2 ▸ hP1) hS1)

set_option maxRecDepth 100000 in
theorem c_D_take (l : Launch) (D : va_G) (t : Nat → ClassId) (A : Nat → Prop) (g : hG) (a : Nat) (pn : Int32) (ra : Nat) (so : Int32) (am dy le pa : Int64) (x : Int64) (he : g a = some (cDe pn ra so am dy le pa)) : Met l y_D_take (Cond.code y_D_take b_D_take 5 (some .long) :: TB) ({ frames := 1, cells := 0, slots := 0, locals := 24 } : Room) (va_Pc [.ref a, .long x] (hI D vwCl (tyL t) EX A g)) (va_Ql (fun r u => r = mnJ x le ∧ u = va_up g a (some (cDe pn ra so am dy (le - mnJ x le) (pa + mnJ x le)))) (fun u v => hw D vwCl A u v.heap) A) 0 0 A := by
  refine Met.ofH (cc := b_D_take) (maxL := 5) (ret := (some .long)) (lv := [(0, .ref a), (1, .long x)]) (by decide) (Nat.le_of_ble_eq_true rfl) rfl ?_
  intro p e s m below meth c ls X hP hS hl
  obtain ⟨hx, hb, hml, hr, hts, hown, hlocks, hK, hEs, hA, hnm⟩ := id X
  refine lv_lload_n hx hb d_D_take_0 rfl (lv_at hl 1 rfl) ?_
  refine lv_aload_n hx hb d_D_take_1 rfl (lv_at hl 0 rfl) ?_
  refine g_D_33 X hb hP he rfl d_D_take_2 ?_
  refine va_mmin_long hx hb (by rw [hml]; exact hl.1.symm) hown (hts _ (tbm 317 (by decide +kernel))) (hts _ (tbm 226 (by decide +kernel))) (hts _ (tbm 30 (by decide +kernel))) (hts _ (tbm 227 (by decide +kernel))) (Nat.le_of_ble_eq_true rfl) (Nat.le_of_ble_eq_true rfl) (Nat.le_of_ble_eq_true rfl) (Nat.le_of_ble_eq_true rfl) d_D_take_5 ?_
  refine lv_topl (fun x_1 ex_1 => ?_)
  refine lv_lstore_n (lv' := [(3, .long x_1), (0, .ref a), (1, .long x)]) hx hb d_D_take_8 rfl hl (by decide) rfl (fun ls hl => ?_)
  refine lv_aload_n hx hb d_D_take_9 rfl (lv_at hl 1 rfl) ?_
  refine lv_dup hx hb d_D_take_10 rfl ?_
  refine g_D_33 X hb hP he rfl d_D_take_11 ?_
  refine lv_lload_n hx hb d_D_take_14 rfl (lv_at hl 0 rfl) ?_
  refine lv_lsub hx hb d_D_take_15 ?_
  refine lv_topl (fun x_2 ex_2 => ?_)
  refine p_D_33 X hb hP hS he (Nat.le_of_ble_eq_true rfl) d_D_take_16 (fun H locs hP hS => ?_)
  have he_3 := va_up_self g a (some (.inr (2, [.int pn, .ref ra, .int so, .long am, .long dy, .long x_2, .long pa]) : va_E))
  have hP : hw D vwCl A (va_up g a (some (.inr (2, [.int pn, .ref ra, .int so, .long am, .long dy, .long x_2, .long pa])))) H := hP
  refine lv_aload_n hx hb d_D_take_19 rfl (lv_at hl 1 rfl) ?_
  refine lv_dup hx hb d_D_take_20 rfl ?_
  refine g_D_42 X hb hP he_3 rfl d_D_take_21 ?_
  refine lv_lload_n hx hb d_D_take_24 rfl (lv_at hl 0 rfl) ?_
  refine lv_ladd hx hb d_D_take_25 ?_
  refine lv_topl (fun x_4 ex_4 => ?_)
  refine p_D_42 X hb hP hS he_3 (Nat.le_of_ble_eq_true rfl) d_D_take_26 (fun H locs hP hS => ?_)
  have he_5 := va_up_self (va_up g a (some (.inr (2, [.int pn, .ref ra, .int so, .long am, .long dy, .long x_2, .long pa])))) a (some (.inr (2, [.int pn, .ref ra, .int so, .long am, .long dy, .long x_2, .long x_4]) : va_E))
  have hP : hw D vwCl A (va_up (va_up g a (some (.inr (2, [.int pn, .ref ra, .int so, .long am, .long dy, .long x_2, .long pa])))) a (some (.inr (2, [.int pn, .ref ra, .int so, .long am, .long dy, .long x_2, .long x_4])))) H := hP
  refine lv_lload_n hx hb d_D_take_29 rfl (lv_at hl 0 rfl) ?_
  exact h_lret hx hb hr hlocks (Nat.le_of_ble_eq_true rfl) (Nat.le_of_ble_eq_true rfl) hP hS (⟨ex_1, by rw [bx_uu, ex_2, ex_4, ex_1]; rfl⟩) d_D_take_30
theorem k_F_153 {p : Program} {l : Launch} {e : Env} {R : Room} {s : State} {m : MethodId} {args : Array Value} {below : List Frame} {meth : Method} {c : Code} {H : Heap} {locs : List Loc} {cells slots : Nat} {Q : State → Prop} {cc : ByteArray} {pc : Nat} {ls : Array Slot} {rest : List Value} {D : va_G} {A : Nat → Prop} {t : Nat → ClassId} {g : hG} {nL : Nat} {ret0 : Option FieldType} {nm : String} (X : Cx p s m args meth c R_F cc nL ret0 TB D vwCl (tyL t) EX A nm) (hR : 1 + 1 ≤ R.frames ∧ 8 + (5 + 11) + 24 ≤ R.locals) (hf : cells + 0 ≤ R.cells ∧ slots + 0 ≤ R.slots) (hls : ls.size = nL) (hP : hw D vwCl A g H) (hS : va_S A s.heap H locs) {a : Nat} {pn : Int32} {ra : Nat} {so : Int32} {am dy le pa : Int64} {x : Int64} {fs9 : List Value} (he9 : g a = some (.inr (2, fs9))) (he : g a = some (cDe pn ra so am dy le pa)) (hW : (rest.map fun v => v.category).sum ≤ 8) (hdg : decode cc pc = .ok (.invokevirtual 153, 3)) (kk : ∀ (r : Int64) (H1 : Heap) (locs1 : List Loc), r = mnJ x le → hw D vwCl A (va_up g a (some (cDe pn ra so am dy (le - mnJ x le) (pa + mnJ x le)))) H1 → va_S A s.heap H1 locs1 → W p l e R s m args below meth c H1 locs1 (cells + 0) (slots + 0) Q (F0 m (pc + 3) ls (.long r :: rest))) : W p l e R s m args below meth c H locs cells slots Q (F0 m pc ls (.long x :: .ref a :: rest)) :=
  h_cl (runV (C := R_D) (T := F_D) (N := 7) X (c_D_take l D t A g a pn ra so am dy le pa x he) (tbm 313 (by decide +kernel)) (tbm 314 (by decide +kernel)) (tbm 315 (by decide +kernel)) (tbm 31 (by decide +kernel)) (tbm 316 (by decide +kernel)) rfl (n := 1) (by decide +kernel) hR hf hP he9 hS hls rfl rfl hW hdg) hS (fun r u H1 locs1 hp hP1 hS1 => kk r H1 locs1 hp.1 (hp.2 ▸ hP1) hS1)

set_option maxHeartbeats 4000000 in
set_option maxRecDepth 100000 in
theorem lp_C_countBetween {p : Program} {l : Launch} {e : Env} {s : State} {m : MethodId} {below : List Frame} {meth : Method} {c : Code} {D : va_G} {t : Nat → ClassId} {A : Nat → Prop} (g : hG) (a : Nat) (n : Nat) (ad : Nat) (f : Nat → Int64) (x y : Int64) (he : g a = some (cCl ad (nI n))) (ha : g ad = some (arJ t 100 f)) (hn : n ≤ 100) (X : Cx p s m ([.ref a, .long x, .long y] : List Value).toArray meth c R_C b_C_countBetween 7 (some .int) TB D vwCl (tyL t) EX A "countBetween") : ∀ (k : Nat) (i : Nat) (b : Int32) (H : Heap) (locs : List Loc) (ls : Array Slot) (_ : i ≤ n) (_ : n + 1 ≤ i + k) (_ : b = cB f x y i) (_ : hw D vwCl A g H) (_ : va_S A s.heap H locs) (_ : lv_has ls 7 [(6, .int (nI i)), (5, .int b), (0, .ref a), (1, .long x), (3, .long y)]), W p l e ({ frames := 0, cells := 0, slots := 0, locals := 0 } : Room) s m ([.ref a, .long x, .long y] : List Value).toArray below meth c H locs 0 0 (MQ below (va_Qi (fun r u => r = cB f x y n ∧ u = g) (fun u v => hw D vwCl A u v.heap) A) ([.ref a, .long x, .long y] : List Value).toArray s 0 0 A) (F0 m 6 ls []) := by
  obtain ⟨hx, hb, hml, hr, hts, hown, hlocks, hK, hEs, hA, hnm⟩ := id X
  intro k
  induction k with
  | zero => exact fun i b H locs ls h1 h2 => absurd h2 (by omega)
  | succ k ih =>
    intro i b H locs ls hi hk hbt hP hS hl
    refine lv_iload hx hb d_C_countBetween_6 (lv_at hl 0 rfl) ?_
    refine lv_aload_n hx hb d_C_countBetween_8 rfl (lv_at hl 2 rfl) ?_
    refine g_C_15 X hb hP he rfl d_C_countBetween_9 ?_
    refine lv_icmp_ge (tgt := 48) hx hb d_C_countBetween_12 (by decide) (fun c_1 => ?_) (fun c_1 => ?_)
    · refine lv_iload hx hb d_C_countBetween_48 (lv_at hl 1 rfl) ?_
      exact h_iret hx hb hr hlocks (Nat.le_of_ble_eq_true rfl) (Nat.le_of_ble_eq_true rfl) hP hS (⟨by rw [hbt, show i = n from Nat.le_antisymm hi ((nI_leI (by omega) (by omega)).mp c_1)], rfl⟩) d_C_countBetween_50
    · have hlt : i < n := Nat.lt_of_not_le (fun q => c_1 (nI_le q (by omega)))
      refine lv_aload_n hx hb d_C_countBetween_15 rfl (lv_at hl 2 rfl) ?_
      refine g_C_9 X hb hP he rfl d_C_countBetween_16 ?_
      refine lv_iload hx hb d_C_countBetween_19 (lv_at hl 0 rfl) ?_
      refine n_lald X hb hP ha ⟨by omega, by decide⟩ d_C_countBetween_21 ?_
      refine lv_lload_n hx hb d_C_countBetween_22 rfl (lv_at hl 3 rfl) ?_
      refine W.lcmp hx hb d_C_countBetween_23 ?_
      refine lv_if_le (tgt := 42) hx hb d_C_countBetween_24 (by decide) (fun c_2 => ?_) (fun c_2 => ?_)
      · rw [lg_cmp_le] at c_2
        obtain ⟨x_3, ex_3⟩ : ∃ z : Int32, z = (nI i) + 1 := ⟨_, rfl⟩
        refine lv_iinc (v := x_3) (lv' := [(6, .int x_3), (5, .int b), (0, .ref a), (1, .long x), (3, .long y)]) hx hb d_C_countBetween_42 hl (k := 0) rfl (by rw [ex_3]; rfl) (by decide) rfl (fun ls hl => ?_)
        refine lv_goto (tgt := 6) hx hb d_C_countBetween_45 (by decide) ?_
        obtain rfl : x_3 = nI (i + 1) := by rw [ex_3]; exact nI_1 i
        exact ih (i + 1) b H locs ls (by omega) (by omega) (by rw [cB_no1 c_2]; exact hbt) hP hS (lv_sub hl [0, 1, 2, 3, 4] rfl)
      · rw [lg_cmp_le] at c_2
        refine lv_aload_n hx hb d_C_countBetween_27 rfl (lv_at hl 2 rfl) ?_
        refine g_C_9 X hb hP he rfl d_C_countBetween_28 ?_
        refine lv_iload hx hb d_C_countBetween_31 (lv_at hl 0 rfl) ?_
        refine n_lald X hb hP ha ⟨by omega, by decide⟩ d_C_countBetween_33 ?_
        refine lv_lload_n hx hb d_C_countBetween_34 rfl (lv_at hl 4 rfl) ?_
        refine W.lcmp hx hb d_C_countBetween_35 ?_
        refine lv_if_gt (tgt := 42) hx hb d_C_countBetween_36 (by decide) (fun c_4 => ?_) (fun c_4 => ?_)
        · rw [lg_cmp_gt] at c_4
          obtain ⟨x_5, ex_5⟩ : ∃ z : Int32, z = (nI i) + 1 := ⟨_, rfl⟩
          refine lv_iinc (v := x_5) (lv' := [(6, .int x_5), (5, .int b), (0, .ref a), (1, .long x), (3, .long y)]) hx hb d_C_countBetween_42 hl (k := 0) rfl (by rw [ex_5]; rfl) (by decide) rfl (fun ls hl => ?_)
          refine lv_goto (tgt := 6) hx hb d_C_countBetween_45 (by decide) ?_
          obtain rfl : x_5 = nI (i + 1) := by rw [ex_5]; exact nI_1 i
          exact ih (i + 1) b H locs ls (by omega) (by omega) (by rw [cB_no2 c_4]; exact hbt) hP hS (lv_sub hl [0, 1, 2, 3, 4] rfl)
        · rw [lg_cmp_gt] at c_4
          obtain ⟨x_6, ex_6⟩ : ∃ z : Int32, z = b + 1 := ⟨_, rfl⟩
          refine lv_iinc (v := x_6) (lv' := [(5, .int x_6), (6, .int (nI i)), (0, .ref a), (1, .long x), (3, .long y)]) hx hb d_C_countBetween_39 hl (k := 1) rfl (by rw [ex_6]; rfl) (by decide) rfl (fun ls hl => ?_)
          obtain ⟨x_7, ex_7⟩ : ∃ z : Int32, z = (nI i) + 1 := ⟨_, rfl⟩
          refine lv_iinc (v := x_7) (lv' := [(6, .int x_7), (5, .int x_6), (0, .ref a), (1, .long x), (3, .long y)]) hx hb d_C_countBetween_42 hl (k := 1) rfl (by rw [ex_7]; rfl) (by decide) rfl (fun ls hl => ?_)
          refine lv_goto (tgt := 6) hx hb d_C_countBetween_45 (by decide) ?_
          obtain rfl : x_7 = nI (i + 1) := by rw [ex_7]; exact nI_1 i
          exact ih (i + 1) x_6 H locs ls (by omega) (by omega) (by rw [ex_6, hbt, cB_yes c_2 c_4]) hP hS (lv_sub hl [0, 1, 2, 3, 4] rfl)

set_option maxRecDepth 100000 in
theorem c_C_countBetween (l : Launch) (D : va_G) (t : Nat → ClassId) (A : Nat → Prop) (g : hG) (a : Nat) (n : Nat) (ad : Nat) (f : Nat → Int64) (x y : Int64) (he : g a = some (cCl ad (nI n))) (ha : g ad = some (arJ t 100 f)) (hn : n ≤ 100) : Met l y_C_countBetween (Cond.code y_C_countBetween b_C_countBetween 7 (some .int) :: TB) ({ frames := 0, cells := 0, slots := 0, locals := 0 } : Room) (va_Pc [.ref a, .long x, .long y] (hI D vwCl (tyL t) EX A g)) (va_Qi (fun r u => r = cB f x y n ∧ u = g) (fun u v => hw D vwCl A u v.heap) A) 0 0 A := by
  refine Met.ofH (cc := b_C_countBetween) (maxL := 7) (ret := (some .int)) (lv := [(0, .ref a), (1, .long x), (3, .long y)]) (by decide) (Nat.le_of_ble_eq_true rfl) rfl ?_
  intro p e s m below meth c ls X hP hS hl
  obtain ⟨hx, hb, hml, hr, hts, hown, hlocks, hK, hEs, hA, hnm⟩ := id X
  refine lv_iconst (v := 0) hx hb d_C_countBetween_0 (by decide) ?_
  refine lv_istore (lv' := [(5, .int 0), (0, .ref a), (1, .long x), (3, .long y)]) hx hb d_C_countBetween_1 hl (by decide) rfl (fun ls hl => ?_)
  refine lv_iconst (v := 0) hx hb d_C_countBetween_3 (by decide) ?_
  refine lv_istore (lv' := [(6, .int 0), (5, .int 0), (0, .ref a), (1, .long x), (3, .long y)]) hx hb d_C_countBetween_4 hl (by decide) rfl (fun ls hl => ?_)
  exact lp_C_countBetween g a n ad f x y he ha hn X (n + 1) 0 0 _ _ ls (Nat.zero_le n) (by omega) rfl hP hS (lv_sub hl [0, 1, 2, 3, 4] rfl)
theorem k_C_19 {p : Program} {l : Launch} {e : Env} {R : Room} {s : State} {m : MethodId} {args : Array Value} {below : List Frame} {meth : Method} {c : Code} {H : Heap} {locs : List Loc} {cells slots : Nat} {Q : State → Prop} {cc : ByteArray} {pc : Nat} {ls : Array Slot} {rest : List Value} {D : va_G} {A : Nat → Prop} {t : Nat → ClassId} {g : hG} {nL : Nat} {ret0 : Option FieldType} {nm : String} (X : Cx p s m args meth c R_C cc nL ret0 TB D vwCl (tyL t) EX A nm) (hR : 0 + 1 ≤ R.frames ∧ 8 + (7 + 11) + 0 ≤ R.locals) (hf : cells + 0 ≤ R.cells ∧ slots + 0 ≤ R.slots) (hls : ls.size = nL) (hP : hw D vwCl A g H) (hS : va_S A s.heap H locs) {a : Nat} {n : Nat} {ad : Nat} {f : Nat → Int64} {x y : Int64} {fs9 : List Value} (he9 : g a = some (.inr (1, fs9))) (he : g a = some (cCl ad (nI n))) (ha : g ad = some (arJ t 100 f)) (hn : n ≤ 100) (hW : (rest.map fun v => v.category).sum ≤ 8) (hdg : decode cc pc = .ok (.invokevirtual 19, 3)) (kk : ∀ (r : Int32) (H1 : Heap) (locs1 : List Loc), r = cB f x y n → hw D vwCl A (g) H1 → va_S A s.heap H1 locs1 → W p l e R s m args below meth c H1 locs1 (cells + 0) (slots + 0) Q (F0 m (pc + 3) ls (.int r :: rest))) : W p l e R s m args below meth c H locs cells slots Q (F0 m pc ls (.long y :: .long x :: .ref a :: rest)) :=
  h_ci (runV (C := R_C) (T := F_C) (N := 2) X (c_C_countBetween l D t A g a n ad f x y he ha hn) (tbm 150 (by decide +kernel)) (tbm 152 (by decide +kernel)) (tbm 0 (by decide +kernel)) (tbm 22 (by decide +kernel)) (tbm 153 (by decide +kernel)) rfl (n := 2) (by decide +kernel) hR hf hP he9 hS hls rfl rfl hW hdg) hS (fun r u H1 locs1 hp hP1 hS1 => kk r H1 locs1 hp.1 (hp.2 ▸ hP1) hS1)
end
section
/-- a debt as the class holds it: person, rule, sort, amount, day, left, paid -/
abbrev DC : Type := Int32 × Nat × Int32 × Int64 × Int64 × Int64 × Int64
abbrev cDv (v : DC) : va_E := cDe v.1 v.2.1 v.2.2.1 v.2.2.2.1 v.2.2.2.2.1 v.2.2.2.2.2.1 v.2.2.2.2.2.2
def sLe (dv : Nat → DC) (x : Int32) : Nat → Int64
  | 0 => 0
  | n + 1 => if (dv n).1 = x then sLe dv x n + (dv n).2.2.2.2.2.1 else sLe dv x n
def sIn (dv : Nat → DC) (rv : Nat → RV) (x : Int32) (y : Int64) : Nat → Int64
  | 0 => 0
  | n + 1 => if (dv n).1 = x then sIn dv rv x y n + dInt (rv n) (dv n).2.2.2.2.2.1 (dv n).2.2.2.2.1 y else sIn dv rv x y n
theorem sLe_y {dv : Nat → DC} {x : Int32} {n : Nat} (h : (dv n).1 = x) : sLe dv x (n + 1) = sLe dv x n + (dv n).2.2.2.2.2.1 := by simp [sLe, h]
theorem sLe_n {dv : Nat → DC} {x : Int32} {n : Nat} (h : ¬ (dv n).1 = x) : sLe dv x (n + 1) = sLe dv x n := by simp [sLe, h]
theorem sIn_y {dv : Nat → DC} {rv : Nat → RV} {x : Int32} {y : Int64} {n : Nat} (h : (dv n).1 = x) : sIn dv rv x y (n + 1) = sIn dv rv x y n + dInt (rv n) (dv n).2.2.2.2.2.1 (dv n).2.2.2.2.1 y := by simp [sIn, h]
theorem sIn_n {dv : Nat → DC} {rv : Nat → RV} {x : Int32} {y : Int64} {n : Nat} (h : ¬ (dv n).1 = x) : sIn dv rv x y (n + 1) = sIn dv rv x y n := by simp [sIn, h]
def fullB (n : Nat) : Bool := decide (200 ≤ n)
def numQ (f : Nat → Option Nat) (n : Nat) (x : Int32) : Option Nat := if wi x 1 (nI n) then f (x.toInt.toNat - 1) else none
def ordQ (f : Nat → Option Nat) (n : Nat) (x : Int32) : Option Nat := if wi x 0 (nI n - 1) then f x.toInt.toNat else none
theorem wi_num {x : Int32} {n : Nat} (hn : n < 1000000) (h : wi x 1 (nI n) = true) : ∃ k, k < n ∧ x = nI (k + 1) := by
  obtain ⟨h1, h2⟩ := wi_iff.mp h
  rw [Int32.le_iff_toInt_le] at h1 h2
  rw [nI_toInt (by omega)] at h2
  have e1 : (1 : Int32).toInt = 1 := by decide
  refine ⟨x.toInt.toNat - 1, by omega, ?_⟩
  rw [← Int32.toInt_inj, nI_toInt (by omega)]
  omega
theorem wi_ord {x : Int32} {n : Nat} (hn : n < 1000000) (h : wi x 0 (nI n - 1) = true) : ∃ k, k < n ∧ x = nI k := by
  obtain ⟨h1, h2⟩ := wi_iff.mp h
  have e0 : (0 : Int32).toInt = 0 := by decide
  have e1 : (nI n - 1).toInt = (n : Int) - 1 := by
    have := pk_sub_toInt (a := n) (b := 1) (by omega) (by decide)
    exact this
  rw [Int32.le_iff_toInt_le] at h1 h2
  rw [e0] at h1
  rw [e1] at h2
  refine ⟨x.toInt.toNat, by omega, ?_⟩
  rw [← Int32.toInt_inj, nI_toInt (by omega)]
  omega
theorem wi_num_of {k n : Nat} (hn : n < 1000000) (h : k < n) : wi (nI (k + 1)) 1 (nI n) = true := by
  refine wi_t ?_ (nI_le (by omega) (by omega))
  exact nI_le (a := 1) (by omega) (by omega)
theorem wi_ord_of {k n : Nat} (hn : n < 1000000) (h : k < n) : wi (nI k) 0 (nI n - 1) = true := by
  refine wi_t (nI_pos' (by omega)) ?_
  obtain ⟨j, rfl⟩ : ∃ j, n = j + 1 := ⟨n - 1, by omega⟩
  rw [nI_pred]
  exact nI_le (by omega) (by omega)
end
section
set_option maxRecDepth 100000 in
theorem c_C_openDays (l : Launch) (D : va_G) (t : Nat → ClassId) (A : Nat → Prop) (g : hG) (a : Nat) (n : Nat) (ad : Nat) (f : Nat → Int64) (x y : Int64) (he : g a = some (cCl ad (nI n))) (ha : g ad = some (arJ t 100 f)) (hn : n ≤ 100) : Met l y_C_openDays (Cond.code y_C_openDays b_C_openDays 5 (some .long) :: TB) ({ frames := 1, cells := 0, slots := 0, locals := 26 } : Room) (va_Pc [.ref a, .long x, .long y] (hI D vwCl (tyL t) EX A g)) (va_Ql (fun r u => r = opD f n x y ∧ u = g) (fun u v => hw D vwCl A u v.heap) A) 0 0 A := by
  refine Met.ofH (cc := b_C_openDays) (maxL := 5) (ret := (some .long)) (lv := [(0, .ref a), (1, .long x), (3, .long y)]) (by decide) (Nat.le_of_ble_eq_true rfl) rfl ?_
  intro p e s m below meth c ls X hP hS hl
  obtain ⟨hx, hb, hml, hr, hts, hown, hlocks, hK, hEs, hA, hnm⟩ := id X
  refine lv_lload_n hx hb d_C_openDays_0 rfl (lv_at hl 2 rfl) ?_
  refine lv_lload_n hx hb d_C_openDays_1 rfl (lv_at hl 1 rfl) ?_
  refine W.lcmp hx hb d_C_openDays_2 ?_
  refine lv_if_le (tgt := 20) hx hb d_C_openDays_3 (by decide) (fun c_1 => ?_) (fun c_1 => ?_)
  · rw [lg_cmp_le] at c_1
    refine lv_lconst (v := 0) hx hb d_C_openDays_20 (by decide) ?_
    exact h_lret hx hb hr hlocks (Nat.le_of_ble_eq_true rfl) (Nat.le_of_ble_eq_true rfl) hP hS (⟨by simp [opD, c_1], rfl⟩) d_C_openDays_21
  · rw [lg_cmp_le] at c_1
    refine lv_lload_n hx hb d_C_openDays_6 rfl (lv_at hl 2 rfl) ?_
    refine lv_lload_n hx hb d_C_openDays_7 rfl (lv_at hl 1 rfl) ?_
    refine lv_lsub hx hb d_C_openDays_8 ?_
    refine lv_aload_n hx hb d_C_openDays_9 rfl (lv_at hl 0 rfl) ?_
    refine lv_lload_n hx hb d_C_openDays_10 rfl (lv_at hl 1 rfl) ?_
    refine lv_lload_n hx hb d_C_openDays_11 rfl (lv_at hl 2 rfl) ?_
    refine k_C_19 X ⟨Nat.le_of_ble_eq_true rfl, Nat.le_of_ble_eq_true rfl⟩ ⟨Nat.le_of_ble_eq_true rfl, Nat.le_of_ble_eq_true rfl⟩ hl.1 hP hS he he ha hn (by exact Nat.le_of_ble_eq_true rfl) d_C_openDays_12 (fun r_2 H locs er_2 hP hS => ?_)
    refine lv_i2l hx hb d_C_openDays_15 rfl ?_
    refine lv_lsub hx hb d_C_openDays_16 ?_
    refine lv_goto (tgt := 21) hx hb d_C_openDays_17 (by decide) ?_
    exact h_lret hx hb hr hlocks (Nat.le_of_ble_eq_true rfl) (Nat.le_of_ble_eq_true rfl) hP hS (⟨by rw [er_2]; simp [opD, c_1], rfl⟩) d_C_openDays_21
theorem k_F_202 {p : Program} {l : Launch} {e : Env} {R : Room} {s : State} {m : MethodId} {args : Array Value} {below : List Frame} {meth : Method} {c : Code} {H : Heap} {locs : List Loc} {cells slots : Nat} {Q : State → Prop} {cc : ByteArray} {pc : Nat} {ls : Array Slot} {rest : List Value} {D : va_G} {A : Nat → Prop} {t : Nat → ClassId} {g : hG} {nL : Nat} {ret0 : Option FieldType} {nm : String} (X : Cx p s m args meth c R_F cc nL ret0 TB D vwCl (tyL t) EX A nm) (hR : 1 + 1 ≤ R.frames ∧ 8 + (5 + 11) + 26 ≤ R.locals) (hf : cells + 0 ≤ R.cells ∧ slots + 0 ≤ R.slots) (hls : ls.size = nL) (hP : hw D vwCl A g H) (hS : va_S A s.heap H locs) {a : Nat} {n : Nat} {ad : Nat} {f : Nat → Int64} {x y : Int64} {fs9 : List Value} (he9 : g a = some (.inr (1, fs9))) (he : g a = some (cCl ad (nI n))) (ha : g ad = some (arJ t 100 f)) (hn : n ≤ 100) (hW : (rest.map fun v => v.category).sum ≤ 8) (hdg : decode cc pc = .ok (.invokevirtual 202, 3)) (kk : ∀ (r : Int64) (H1 : Heap) (locs1 : List Loc), r = opD f n x y → hw D vwCl A (g) H1 → va_S A s.heap H1 locs1 → W p l e R s m args below meth c H1 locs1 (cells + 0) (slots + 0) Q (F0 m (pc + 3) ls (.long r :: rest))) : W p l e R s m args below meth c H locs cells slots Q (F0 m pc ls (.long y :: .long x :: .ref a :: rest)) :=
  h_cl (runV (C := R_C) (T := F_C) (N := 2) X (c_C_openDays l D t A g a n ad f x y he ha hn) (tbm 217 (by decide +kernel)) (tbm 218 (by decide +kernel)) (tbm 219 (by decide +kernel)) (tbm 22 (by decide +kernel)) (tbm 220 (by decide +kernel)) rfl (n := 2) (by decide +kernel) hR hf hP he9 hS hls rfl rfl hW hdg) hS (fun r u H1 locs1 hp hP1 hS1 => kk r H1 locs1 hp.1 (hp.2 ▸ hP1) hS1)

/-- a day can be closed: there is room, and it is not closed yet -/
def cadd (f : Nat → Int64) (n : Nat) (x : Int64) : Bool := decide (n < 100) && decide (cB f (x - 1) x n ≤ 0)
def cAdd (t : Nat → ClassId) (g : hG) (a ad : Nat) (f : Nat → Int64) (n : Nat) (x : Int64) : hG := if cadd f n x then va_up (va_up g ad (some (arJ t 100 (va_up f n x)))) a (some (cCl ad (nI (n + 1)))) else g
set_option maxRecDepth 100000 in
theorem c_C_add (l : Launch) (D : va_G) (t : Nat → ClassId) (A : Nat → Prop) (g : hG) (a : Nat) (n : Nat) (ad : Nat) (f : Nat → Int64) (x : Int64) (he : g a = some (cCl ad (nI n))) (ha : g ad = some (arJ t 100 f)) (hn : n ≤ 100) : Met l y_C_add (Cond.code y_C_add b_C_add 3 (some .boolean) :: TB) ({ frames := 1, cells := 0, slots := 0, locals := 26 } : Room) (va_Pc [.ref a, .long x] (hI D vwCl (tyL t) EX A g)) (va_Qi (fun r u => r = bi (cadd f n x) ∧ u = cAdd t g a ad f n x) (fun u v => hw D vwCl A u v.heap) A) 0 0 A := by
  refine Met.ofH (cc := b_C_add) (maxL := 3) (ret := (some .boolean)) (lv := [(0, .ref a), (1, .long x)]) (by decide) (Nat.le_of_ble_eq_true rfl) rfl ?_
  intro p e s m below meth c ls X hP hS hl
  obtain ⟨hx, hb, hml, hr, hts, hown, hlocks, hK, hEs, hA, hnm⟩ := id X
  refine lv_aload_n hx hb d_C_add_0 rfl (lv_at hl 0 rfl) ?_
  refine g_C_15 X hb hP he rfl d_C_add_1 ?_
  refine lv_bipush (v := 100) hx hb d_C_add_4 (by decide) ?_
  refine lv_icmp_ge (tgt := 20) hx hb d_C_add_6 (by decide) (fun c_1 => ?_) (fun c_1 => ?_)
  · have hc : cadd f n x = false := by simp [cadd, Nat.not_lt.mpr ((nI_leI (a := 100) (by decide) (by omega)).mp c_1)]
    refine lv_iconst (v := 0) hx hb d_C_add_20 (by decide) ?_
    exact h_zret hx hb hr hlocks (rfl) (Nat.le_of_ble_eq_true rfl) (Nat.le_of_ble_eq_true rfl) hP hS (⟨by rw [hc]; rfl, by rw [cAdd, hc]; rfl⟩) d_C_add_21
  · have hlt : n < 100 := Nat.lt_of_not_le (fun q => c_1 (nI_le (a := 100) q (by omega)))
    refine lv_aload_n hx hb d_C_add_9 rfl (lv_at hl 0 rfl) ?_
    refine lv_lload_n hx hb d_C_add_10 rfl (lv_at hl 1 rfl) ?_
    refine lv_lconst (v := 1) hx hb d_C_add_11 (by decide) ?_
    refine lv_lsub hx hb d_C_add_12 ?_
    refine lv_lload_n hx hb d_C_add_13 rfl (lv_at hl 1 rfl) ?_
    refine k_C_19 X ⟨Nat.le_of_ble_eq_true rfl, Nat.le_of_ble_eq_true rfl⟩ ⟨Nat.le_of_ble_eq_true rfl, Nat.le_of_ble_eq_true rfl⟩ hl.1 hP hS he he ha hn (by exact Nat.le_of_ble_eq_true rfl) d_C_add_14 (fun r_2 H locs er_2 hP hS => ?_)
    refine lv_if_le (tgt := 22) hx hb d_C_add_17 (by decide) (fun c_3 => ?_) (fun c_3 => ?_)
    · have hc : cadd f n x = true := by rw [er_2] at c_3; simp [cadd, hlt, c_3]
      refine lv_aload_n hx hb d_C_add_22 rfl (lv_at hl 0 rfl) ?_
      refine g_C_9 X hb hP he rfl d_C_add_23 ?_
      refine lv_aload_n hx hb d_C_add_26 rfl (lv_at hl 0 rfl) ?_
      refine g_C_15 X hb hP he rfl d_C_add_27 ?_
      refine lv_lload_n hx hb d_C_add_30 rfl (lv_at hl 1 rfl) ?_
      refine n_last X hb hP hS ha ⟨hlt, by decide⟩ d_C_add_31 (fun H locs hP hS => ?_)
      have he_4 := up_at (o := some (arJ t 100 (va_up f n x))) he (hw_kd he ha rfl)
      have he_5 := va_up_self g ad (some (arJ t 100 (va_up f n x) : va_E))
      have hP : hw D vwCl A (va_up g ad (some (arJ t 100 (va_up f n x)))) H := hP
      refine lv_aload_n hx hb d_C_add_32 rfl (lv_at hl 0 rfl) ?_
      refine lv_dup hx hb d_C_add_33 rfl ?_
      refine g_C_15 X hb hP he_4 rfl d_C_add_34 ?_
      refine lv_iconst (v := 1) hx hb d_C_add_37 (by decide) ?_
      refine lv_iadd hx hb d_C_add_38 ?_
      refine lv_topi (fun x_6 ex_6 => ?_)
      refine p_C_15 X hb hP hS he_4 (Nat.le_of_ble_eq_true rfl) d_C_add_39 (fun H locs hP hS => ?_)
      have he_7 := up_at (o := some (.inr (1, [.ref ad, .int x_6]))) he_5 (hw_kd he_5 he_4 rfl)
      have he_8 := va_up_self (va_up g ad (some (arJ t 100 (va_up f n x)))) a (some (.inr (1, [.ref ad, .int x_6]) : va_E))
      have hP : hw D vwCl A (va_up (va_up g ad (some (arJ t 100 (va_up f n x)))) a (some (.inr (1, [.ref ad, .int x_6])))) H := hP
      refine lv_iconst (v := 1) hx hb d_C_add_42 (by decide) ?_
      exact h_zret hx hb hr hlocks (rfl) (Nat.le_of_ble_eq_true rfl) (Nat.le_of_ble_eq_true rfl) hP hS (⟨by rw [hc]; rfl, by rw [cAdd, hc, ex_6, nI_1]; rfl⟩) d_C_add_43
    · have hc : cadd f n x = false := by rw [er_2] at c_3; simp [cadd, hlt, c_3]
      refine lv_iconst (v := 0) hx hb d_C_add_20 (by decide) ?_
      exact h_zret hx hb hr hlocks (rfl) (Nat.le_of_ble_eq_true rfl) (Nat.le_of_ble_eq_true rfl) hP hS (⟨by rw [hc]; rfl, by rw [cAdd, hc]; rfl⟩) d_C_add_21
theorem k_F_80 {p : Program} {l : Launch} {e : Env} {R : Room} {s : State} {m : MethodId} {args : Array Value} {below : List Frame} {meth : Method} {c : Code} {H : Heap} {locs : List Loc} {cells slots : Nat} {Q : State → Prop} {cc : ByteArray} {pc : Nat} {ls : Array Slot} {rest : List Value} {D : va_G} {A : Nat → Prop} {t : Nat → ClassId} {g : hG} {nL : Nat} {ret0 : Option FieldType} {nm : String} (X : Cx p s m args meth c R_F cc nL ret0 TB D vwCl (tyL t) EX A nm) (hR : 1 + 1 ≤ R.frames ∧ 8 + (3 + 11) + 26 ≤ R.locals) (hf : cells + 0 ≤ R.cells ∧ slots + 0 ≤ R.slots) (hls : ls.size = nL) (hP : hw D vwCl A g H) (hS : va_S A s.heap H locs) {a : Nat} {n : Nat} {ad : Nat} {f : Nat → Int64} {x : Int64} {fs9 : List Value} (he9 : g a = some (.inr (1, fs9))) (he : g a = some (cCl ad (nI n))) (ha : g ad = some (arJ t 100 f)) (hn : n ≤ 100) (hW : (rest.map fun v => v.category).sum ≤ 8) (hdg : decode cc pc = .ok (.invokevirtual 80, 3)) (kk : ∀ (r : Int32) (H1 : Heap) (locs1 : List Loc), r = bi (cadd f n x) → hw D vwCl A (cAdd t g a ad f n x) H1 → va_S A s.heap H1 locs1 → W p l e R s m args below meth c H1 locs1 (cells + 0) (slots + 0) Q (F0 m (pc + 3) ls (.int r :: rest))) : W p l e R s m args below meth c H locs cells slots Q (F0 m pc ls (.long x :: .ref a :: rest)) :=
  h_ci (runV (C := R_C) (T := F_C) (N := 2) X (c_C_add l D t A g a n ad f x he ha hn) (tbm 146 (by decide +kernel)) (tbm 147 (by decide +kernel)) (tbm 148 (by decide +kernel)) (tbm 22 (by decide +kernel)) (tbm 149 (by decide +kernel)) rfl (n := 1) (by decide +kernel) hR hf hP he9 hS hls rfl rfl hW hdg) hS (fun r u H1 locs1 hp hP1 hS1 => kk r H1 locs1 hp.1 (hp.2 ▸ hP1) hS1)
end
section
set_option maxRecDepth 100000 in
theorem c_R_init (l : Launch) (D : va_G) (t : Nat → ClassId) (A : Nat → Prop) (g : hG) (a : Nat) (x y z : Int32) (he : g a = some (.inr (5, [.int 0, .int 0, .int 0, .int 0, .int 0]))) : Met l y_R_init (Cond.code y_R_init b_R_init 4 none :: TB) ({ frames := 1, cells := 0, slots := 0, locals := 24 } : Room) (va_Pc [.ref a, .int x, .int y, .int z] (hI D vwCl (tyL t) EX A g)) (va_Qv (fun u => u = va_up g a (some (cRu (x, y, z, 0, 0)))) (fun u v => hw D vwCl A u v.heap) A) 0 0 A := by
  refine Met.ofH (cc := b_R_init) (maxL := 4) (ret := none) (lv := [(0, .ref a), (1, .int x), (2, .int y), (3, .int z)]) (by decide) (Nat.le_of_ble_eq_true rfl) rfl ?_
  intro p e s m below meth c ls X hP hS hl
  obtain ⟨hx, hb, hml, hr, hts, hown, hlocks, hK, hEs, hA, hnm⟩ := id X
  refine lv_aload_n hx hb d_R_init_0 rfl (lv_at hl 0 rfl) ?_
  refine W.objInit hx hb hown (hts _ (tbm 119 (by decide +kernel))) (hts _ (tbm 38 (by decide +kernel))) (hts _ (tbm 39 (by decide +kernel))) rfl (by rw [hml]; exact hl.1) rfl d_R_init_1 (Nat.le_of_ble_eq_true rfl) (Nat.le_of_ble_eq_true rfl) ?_
  refine W.eq (g2 := F0 m 4 ls _) rfl ?_
  refine lv_aload_n hx hb d_R_init_4 rfl (lv_at hl 0 rfl) ?_
  refine lv_iload_n hx hb d_R_init_5 rfl (lv_at hl 1 rfl) ?_
  refine p_R_7 X hb hP hS he (Nat.le_of_ble_eq_true rfl) rfl d_R_init_6 (fun H locs hP hS => ?_)
  have he_1 := va_up_self g a (some (.inr (5, [.int x, .int 0, .int 0, .int 0, .int 0]) : va_E))
  have hP : hw D vwCl A (va_up g a (some (.inr (5, [.int x, .int 0, .int 0, .int 0, .int 0])))) H := hP
  refine lv_aload_n hx hb d_R_init_9 rfl (lv_at hl 0 rfl) ?_
  refine lv_iload_n hx hb d_R_init_10 rfl (lv_at hl 2 rfl) ?_
  refine p_R_13 X hb hP hS he_1 (Nat.le_of_ble_eq_true rfl) rfl d_R_init_11 (fun H locs hP hS => ?_)
  have he_2 := va_up_self (va_up g a (some (.inr (5, [.int x, .int 0, .int 0, .int 0, .int 0])))) a (some (.inr (5, [.int x, .int y, .int 0, .int 0, .int 0]) : va_E))
  have hP : hw D vwCl A (va_up (va_up g a (some (.inr (5, [.int x, .int 0, .int 0, .int 0, .int 0])))) a (some (.inr (5, [.int x, .int y, .int 0, .int 0, .int 0])))) H := hP
  refine lv_aload_n hx hb d_R_init_14 rfl (lv_at hl 0 rfl) ?_
  refine lv_iload_n hx hb d_R_init_15 rfl (lv_at hl 3 rfl) ?_
  refine p_R_16 X hb hP hS he_2 (Nat.le_of_ble_eq_true rfl) rfl d_R_init_16 (fun H locs hP hS => ?_)
  have he_3 := va_up_self (va_up (va_up g a (some (.inr (5, [.int x, .int 0, .int 0, .int 0, .int 0])))) a (some (.inr (5, [.int x, .int y, .int 0, .int 0, .int 0])))) a (some (.inr (5, [.int x, .int y, .int z, .int 0, .int 0]) : va_E))
  have hP : hw D vwCl A (va_up (va_up (va_up g a (some (.inr (5, [.int x, .int 0, .int 0, .int 0, .int 0])))) a (some (.inr (5, [.int x, .int y, .int 0, .int 0, .int 0])))) a (some (.inr (5, [.int x, .int y, .int z, .int 0, .int 0])))) H := hP
  exact h_vret hx hb hr hlocks (Nat.le_of_ble_eq_true rfl) (Nat.le_of_ble_eq_true rfl) hP hS (by rw [bx_uu, bx_uu]) d_R_init_19
theorem k_F_55 {p : Program} {l : Launch} {e : Env} {R : Room} {s : State} {m : MethodId} {args : Array Value} {below : List Frame} {meth : Method} {c : Code} {H : Heap} {locs : List Loc} {cells slots : Nat} {Q : State → Prop} {cc : ByteArray} {pc : Nat} {ls : Array Slot} {rest : List Value} {D : va_G} {A : Nat → Prop} {t : Nat → ClassId} {g : hG} {nL : Nat} {ret0 : Option FieldType} {nm : String} (X : Cx p s m args meth c R_F cc nL ret0 TB D vwCl (tyL t) EX A nm) (hR : 1 + 1 ≤ R.frames ∧ 8 + (4 + 11) + 24 ≤ R.locals) (hf : cells + 0 ≤ R.cells ∧ slots + 0 ≤ R.slots) (hls : ls.size = nL) (hP : hw D vwCl A g H) (hS : va_S A s.heap H locs) {a : Nat} {x y z : Int32} (he : g a = some (.inr (5, [.int 0, .int 0, .int 0, .int 0, .int 0]))) (hW : (rest.map fun v => v.category).sum ≤ 8) (hdg : decode cc pc = .ok (.invokespecial 55, 3)) (kk : ∀ (H1 : Heap) (locs1 : List Loc), hw D vwCl A (va_up g a (some (cRu (x, y, z, 0, 0)))) H1 → va_S A s.heap H1 locs1 → W p l e R s m args below meth c H1 locs1 (cells + 0) (slots + 0) Q (F0 m (pc + 3) ls rest)) : W p l e R s m args below meth c H locs cells slots Q (F0 m pc ls (.int z :: .int y :: .int x :: .ref a :: rest)) :=
  h_cv (runI X (c_R_init l D t A g a x y z he) (tbm 116 (by decide +kernel)) (tbm 117 (by decide +kernel)) (tbm 24 (by decide +kernel)) (tbm 118 (by decide +kernel)) rfl (n := 3) (by decide +kernel) hR hf hP hS hls rfl rfl hW hdg) hS (fun u H1 locs1 hp hP1 hS1 => kk H1 locs1 (hp ▸ hP1) hS1)

set_option maxRecDepth 100000 in
theorem c_L_init (l : Launch) (D : va_G) (t : Nat → ClassId) (A : Nat → Prop) (g : hG) (a : Nat) (x y : Int32) (ra : Nat) (du : Int64) (he : g a = some (.inr (4, [.int 0, .int 0, .null, .long 0, .null, .int 0]))) : Met l y_L_init (Cond.code y_L_init b_L_init 6 none :: TB) ({ frames := 1, cells := 0, slots := 0, locals := 24 } : Room) (va_Pc [.ref a, .int x, .int y, .ref ra, .long du] (hI D vwCl (tyL t) EX A g)) (va_Qv (fun u => u = va_up g a (some (cLo x y ra du none 0))) (fun u v => hw D vwCl A u v.heap) A) 0 0 A := by
  refine Met.ofH (cc := b_L_init) (maxL := 6) (ret := none) (lv := [(0, .ref a), (1, .int x), (2, .int y), (3, .ref ra), (4, .long du)]) (by decide) (Nat.le_of_ble_eq_true rfl) rfl ?_
  intro p e s m below meth c ls X hP hS hl
  obtain ⟨hx, hb, hml, hr, hts, hown, hlocks, hK, hEs, hA, hnm⟩ := id X
  refine lv_aload_n hx hb d_L_init_0 rfl (lv_at hl 0 rfl) ?_
  refine W.objInit hx hb hown (hts _ (tbm 172 (by decide +kernel))) (hts _ (tbm 38 (by decide +kernel))) (hts _ (tbm 39 (by decide +kernel))) rfl (by rw [hml]; exact hl.1) rfl d_L_init_1 (Nat.le_of_ble_eq_true rfl) (Nat.le_of_ble_eq_true rfl) ?_
  refine W.eq (g2 := F0 m 4 ls _) rfl ?_
  refine lv_aload_n hx hb d_L_init_4 rfl (lv_at hl 0 rfl) ?_
  refine lv_iload_n hx hb d_L_init_5 rfl (lv_at hl 1 rfl) ?_
  refine p_L_7 X hb hP hS he (Nat.le_of_ble_eq_true rfl) rfl d_L_init_6 (fun H locs hP hS => ?_)
  have he_1 := va_up_self g a (some (.inr (4, [.int x, .int 0, .null, .long 0, .null, .int 0]) : va_E))
  have hP : hw D vwCl A (va_up g a (some (.inr (4, [.int x, .int 0, .null, .long 0, .null, .int 0])))) H := hP
  refine lv_aload_n hx hb d_L_init_9 rfl (lv_at hl 0 rfl) ?_
  refine lv_iload_n hx hb d_L_init_10 rfl (lv_at hl 2 rfl) ?_
  refine p_L_13 X hb hP hS he_1 (Nat.le_of_ble_eq_true rfl) rfl d_L_init_11 (fun H locs hP hS => ?_)
  have he_2 := va_up_self (va_up g a (some (.inr (4, [.int x, .int 0, .null, .long 0, .null, .int 0])))) a (some (.inr (4, [.int x, .int y, .null, .long 0, .null, .int 0]) : va_E))
  have hP : hw D vwCl A (va_up (va_up g a (some (.inr (4, [.int x, .int 0, .null, .long 0, .null, .int 0])))) a (some (.inr (4, [.int x, .int y, .null, .long 0, .null, .int 0])))) H := hP
  refine lv_aload_n hx hb d_L_init_14 rfl (lv_at hl 0 rfl) ?_
  refine lv_aload_n hx hb d_L_init_15 rfl (lv_at hl 3 rfl) ?_
  refine p_L_16 X hb hP hS he_2 (Nat.le_of_ble_eq_true rfl) rfl rfl rfl d_L_init_16 (fun H locs hP hS => ?_)
  have he_3 := va_up_self (va_up (va_up g a (some (.inr (4, [.int x, .int 0, .null, .long 0, .null, .int 0])))) a (some (.inr (4, [.int x, .int y, .null, .long 0, .null, .int 0])))) a (some (.inr (4, [.int x, .int y, .ref ra, .long 0, .null, .int 0]) : va_E))
  have hP : hw D vwCl A (va_up (va_up (va_up g a (some (.inr (4, [.int x, .int 0, .null, .long 0, .null, .int 0])))) a (some (.inr (4, [.int x, .int y, .null, .long 0, .null, .int 0])))) a (some (.inr (4, [.int x, .int y, .ref ra, .long 0, .null, .int 0])))) H := hP
  refine lv_aload_n hx hb d_L_init_19 rfl (lv_at hl 0 rfl) ?_
  refine lv_lload hx hb d_L_init_20 (lv_at hl 4 rfl) ?_
  refine p_L_20 X hb hP hS he_3 (Nat.le_of_ble_eq_true rfl) rfl d_L_init_22 (fun H locs hP hS => ?_)
  have he_4 := va_up_self (va_up (va_up (va_up g a (some (.inr (4, [.int x, .int 0, .null, .long 0, .null, .int 0])))) a (some (.inr (4, [.int x, .int y, .null, .long 0, .null, .int 0])))) a (some (.inr (4, [.int x, .int y, .ref ra, .long 0, .null, .int 0])))) a (some (.inr (4, [.int x, .int y, .ref ra, .long du, .null, .int 0]) : va_E))
  have hP : hw D vwCl A (va_up (va_up (va_up (va_up g a (some (.inr (4, [.int x, .int 0, .null, .long 0, .null, .int 0])))) a (some (.inr (4, [.int x, .int y, .null, .long 0, .null, .int 0])))) a (some (.inr (4, [.int x, .int y, .ref ra, .long 0, .null, .int 0])))) a (some (.inr (4, [.int x, .int y, .ref ra, .long du, .null, .int 0])))) H := hP
  exact h_vret hx hb hr hlocks (Nat.le_of_ble_eq_true rfl) (Nat.le_of_ble_eq_true rfl) hP hS (by rw [bx_uu, bx_uu, bx_uu]; rfl) d_L_init_25
theorem k_F_96 {p : Program} {l : Launch} {e : Env} {R : Room} {s : State} {m : MethodId} {args : Array Value} {below : List Frame} {meth : Method} {c : Code} {H : Heap} {locs : List Loc} {cells slots : Nat} {Q : State → Prop} {cc : ByteArray} {pc : Nat} {ls : Array Slot} {rest : List Value} {D : va_G} {A : Nat → Prop} {t : Nat → ClassId} {g : hG} {nL : Nat} {ret0 : Option FieldType} {nm : String} (X : Cx p s m args meth c R_F cc nL ret0 TB D vwCl (tyL t) EX A nm) (hR : 1 + 1 ≤ R.frames ∧ 8 + (6 + 11) + 24 ≤ R.locals) (hf : cells + 0 ≤ R.cells ∧ slots + 0 ≤ R.slots) (hls : ls.size = nL) (hP : hw D vwCl A g H) (hS : va_S A s.heap H locs) {a : Nat} {x y : Int32} {ra : Nat} {du : Int64} (he : g a = some (.inr (4, [.int 0, .int 0, .null, .long 0, .null, .int 0]))) (hW : (rest.map fun v => v.category).sum ≤ 8) (hdg : decode cc pc = .ok (.invokespecial 96, 3)) (kk : ∀ (H1 : Heap) (locs1 : List Loc), hw D vwCl A (va_up g a (some (cLo x y ra du none 0))) H1 → va_S A s.heap H1 locs1 → W p l e R s m args below meth c H1 locs1 (cells + 0) (slots + 0) Q (F0 m (pc + 3) ls rest)) : W p l e R s m args below meth c H locs cells slots Q (F0 m pc ls (.long du :: .ref ra :: .int y :: .int x :: .ref a :: rest)) :=
  h_cv (runI X (c_L_init l D t A g a x y ra du he) (tbm 169 (by decide +kernel)) (tbm 170 (by decide +kernel)) (tbm 29 (by decide +kernel)) (tbm 171 (by decide +kernel)) rfl (n := 4) (by decide +kernel) hR hf hP hS hls rfl rfl hW hdg) hS (fun u H1 locs1 hp hP1 hS1 => kk H1 locs1 (hp ▸ hP1) hS1)

set_option maxRecDepth 100000 in
theorem c_D_init (l : Launch) (D : va_G) (t : Nat → ClassId) (A : Nat → Prop) (g : hG) (a b : Nat) (it pn : Int32) (ra : Nat) (du : Int64) (lo : Option Nat) (en : Int32) (so : Int32) (am dy : Int64) (he : g a = some (.inr (2, [.int 0, .null, .int 0, .long 0, .long 0, .long 0, .long 0]))) (hb0 : g b = some (cLo it pn ra du lo en)) : Met l y_D_init (Cond.code y_D_init b_D_init 7 none :: TB) ({ frames := 1, cells := 0, slots := 0, locals := 24 } : Room) (va_Pc [.ref a, .ref b, .int so, .long am, .long dy] (hI D vwCl (tyL t) EX A g)) (va_Qv (fun u => u = va_up g a (some (cDe pn ra so am dy am 0))) (fun u v => hw D vwCl A u v.heap) A) 0 0 A := by
  refine Met.ofH (cc := b_D_init) (maxL := 7) (ret := none) (lv := [(0, .ref a), (1, .ref b), (2, .int so), (3, .long am), (5, .long dy)]) (by decide) (Nat.le_of_ble_eq_true rfl) rfl ?_
  intro p e s m below meth c ls X hP hS hl
  obtain ⟨hx, hb, hml, hr, hts, hown, hlocks, hK, hEs, hA, hnm⟩ := id X
  refine lv_aload_n hx hb d_D_init_0 rfl (lv_at hl 0 rfl) ?_
  refine W.objInit hx hb hown (hts _ (tbm 253 (by decide +kernel))) (hts _ (tbm 38 (by decide +kernel))) (hts _ (tbm 39 (by decide +kernel))) rfl (by rw [hml]; exact hl.1) rfl d_D_init_1 (Nat.le_of_ble_eq_true rfl) (Nat.le_of_ble_eq_true rfl) ?_
  refine W.eq (g2 := F0 m 4 ls _) rfl ?_
  refine lv_aload_n hx hb d_D_init_4 rfl (lv_at hl 0 rfl) ?_
  refine lv_aload_n hx hb d_D_init_5 rfl (lv_at hl 1 rfl) ?_
  refine g_D_9 X hb hP hb0 rfl d_D_init_6 ?_
  refine p_D_15 X hb hP hS he (Nat.le_of_ble_eq_true rfl) rfl d_D_init_9 (fun H locs hP hS => ?_)
  have he_1 := up_at (o := some (.inr (2, [.int pn, .null, .int 0, .long 0, .long 0, .long 0, .long 0]))) hb0 (hw_kd hb0 he rfl)
  have he_2 := va_up_self g a (some (.inr (2, [.int pn, .null, .int 0, .long 0, .long 0, .long 0, .long 0]) : va_E))
  have hP : hw D vwCl A (va_up g a (some (.inr (2, [.int pn, .null, .int 0, .long 0, .long 0, .long 0, .long 0])))) H := hP
  refine lv_aload_n hx hb d_D_init_12 rfl (lv_at hl 0 rfl) ?_
  refine lv_aload_n hx hb d_D_init_13 rfl (lv_at hl 1 rfl) ?_
  refine g_D_18 X hb hP he_1 rfl d_D_init_14 ?_
  refine p_D_22 X hb hP hS he_2 (Nat.le_of_ble_eq_true rfl) rfl rfl rfl d_D_init_17 (fun H locs hP hS => ?_)
  have he_3 := up_at (o := some (.inr (2, [.int pn, .ref ra, .int 0, .long 0, .long 0, .long 0, .long 0]))) he_1 (hw_kd he_1 he_2 rfl)
  have he_4 := va_up_self (va_up g a (some (.inr (2, [.int pn, .null, .int 0, .long 0, .long 0, .long 0, .long 0])))) a (some (.inr (2, [.int pn, .ref ra, .int 0, .long 0, .long 0, .long 0, .long 0]) : va_E))
  have hP : hw D vwCl A (va_up (va_up g a (some (.inr (2, [.int pn, .null, .int 0, .long 0, .long 0, .long 0, .long 0])))) a (some (.inr (2, [.int pn, .ref ra, .int 0, .long 0, .long 0, .long 0, .long 0])))) H := hP
  refine lv_aload_n hx hb d_D_init_20 rfl (lv_at hl 0 rfl) ?_
  refine lv_iload_n hx hb d_D_init_21 rfl (lv_at hl 2 rfl) ?_
  refine p_D_23 X hb hP hS he_4 (Nat.le_of_ble_eq_true rfl) rfl d_D_init_22 (fun H locs hP hS => ?_)
  have he_5 := up_at (o := some (.inr (2, [.int pn, .ref ra, .int so, .long 0, .long 0, .long 0, .long 0]))) he_3 (hw_kd he_3 he_4 rfl)
  have he_6 := va_up_self (va_up (va_up g a (some (.inr (2, [.int pn, .null, .int 0, .long 0, .long 0, .long 0, .long 0])))) a (some (.inr (2, [.int pn, .ref ra, .int 0, .long 0, .long 0, .long 0, .long 0])))) a (some (.inr (2, [.int pn, .ref ra, .int so, .long 0, .long 0, .long 0, .long 0]) : va_E))
  have hP : hw D vwCl A (va_up (va_up (va_up g a (some (.inr (2, [.int pn, .null, .int 0, .long 0, .long 0, .long 0, .long 0])))) a (some (.inr (2, [.int pn, .ref ra, .int 0, .long 0, .long 0, .long 0, .long 0])))) a (some (.inr (2, [.int pn, .ref ra, .int so, .long 0, .long 0, .long 0, .long 0])))) H := hP
  refine lv_aload_n hx hb d_D_init_25 rfl (lv_at hl 0 rfl) ?_
  refine lv_lload_n hx hb d_D_init_26 rfl (lv_at hl 3 rfl) ?_
  refine p_D_26 X hb hP hS he_6 (Nat.le_of_ble_eq_true rfl) rfl d_D_init_27 (fun H locs hP hS => ?_)
  have he_7 := up_at (o := some (.inr (2, [.int pn, .ref ra, .int so, .long am, .long 0, .long 0, .long 0]))) he_5 (hw_kd he_5 he_6 rfl)
  have he_8 := va_up_self (va_up (va_up (va_up g a (some (.inr (2, [.int pn, .null, .int 0, .long 0, .long 0, .long 0, .long 0])))) a (some (.inr (2, [.int pn, .ref ra, .int 0, .long 0, .long 0, .long 0, .long 0])))) a (some (.inr (2, [.int pn, .ref ra, .int so, .long 0, .long 0, .long 0, .long 0])))) a (some (.inr (2, [.int pn, .ref ra, .int so, .long am, .long 0, .long 0, .long 0]) : va_E))
  have hP : hw D vwCl A (va_up (va_up (va_up (va_up g a (some (.inr (2, [.int pn, .null, .int 0, .long 0, .long 0, .long 0, .long 0])))) a (some (.inr (2, [.int pn, .ref ra, .int 0, .long 0, .long 0, .long 0, .long 0])))) a (some (.inr (2, [.int pn, .ref ra, .int so, .long 0, .long 0, .long 0, .long 0])))) a (some (.inr (2, [.int pn, .ref ra, .int so, .long am, .long 0, .long 0, .long 0])))) H := hP
  refine lv_aload_n hx hb d_D_init_30 rfl (lv_at hl 0 rfl) ?_
  refine lv_lload hx hb d_D_init_31 (lv_at hl 4 rfl) ?_
  refine p_D_30 X hb hP hS he_8 (Nat.le_of_ble_eq_true rfl) rfl d_D_init_33 (fun H locs hP hS => ?_)
  have he_9 := up_at (o := some (.inr (2, [.int pn, .ref ra, .int so, .long am, .long dy, .long 0, .long 0]))) he_7 (hw_kd he_7 he_8 rfl)
  have he_10 := va_up_self (va_up (va_up (va_up (va_up g a (some (.inr (2, [.int pn, .null, .int 0, .long 0, .long 0, .long 0, .long 0])))) a (some (.inr (2, [.int pn, .ref ra, .int 0, .long 0, .long 0, .long 0, .long 0])))) a (some (.inr (2, [.int pn, .ref ra, .int so, .long 0, .long 0, .long 0, .long 0])))) a (some (.inr (2, [.int pn, .ref ra, .int so, .long am, .long 0, .long 0, .long 0])))) a (some (.inr (2, [.int pn, .ref ra, .int so, .long am, .long dy, .long 0, .long 0]) : va_E))
  have hP : hw D vwCl A (va_up (va_up (va_up (va_up (va_up g a (some (.inr (2, [.int pn, .null, .int 0, .long 0, .long 0, .long 0, .long 0])))) a (some (.inr (2, [.int pn, .ref ra, .int 0, .long 0, .long 0, .long 0, .long 0])))) a (some (.inr (2, [.int pn, .ref ra, .int so, .long 0, .long 0, .long 0, .long 0])))) a (some (.inr (2, [.int pn, .ref ra, .int so, .long am, .long 0, .long 0, .long 0])))) a (some (.inr (2, [.int pn, .ref ra, .int so, .long am, .long dy, .long 0, .long 0])))) H := hP
  refine lv_aload_n hx hb d_D_init_36 rfl (lv_at hl 0 rfl) ?_
  refine lv_lload_n hx hb d_D_init_37 rfl (lv_at hl 3 rfl) ?_
  refine p_D_33 X hb hP hS he_10 (Nat.le_of_ble_eq_true rfl) d_D_init_38 (fun H locs hP hS => ?_)
  have he_11 := up_at (o := some (.inr (2, [.int pn, .ref ra, .int so, .long am, .long dy, .long am, .long 0]))) he_9 (hw_kd he_9 he_10 rfl)
  have he_12 := va_up_self (va_up (va_up (va_up (va_up (va_up g a (some (.inr (2, [.int pn, .null, .int 0, .long 0, .long 0, .long 0, .long 0])))) a (some (.inr (2, [.int pn, .ref ra, .int 0, .long 0, .long 0, .long 0, .long 0])))) a (some (.inr (2, [.int pn, .ref ra, .int so, .long 0, .long 0, .long 0, .long 0])))) a (some (.inr (2, [.int pn, .ref ra, .int so, .long am, .long 0, .long 0, .long 0])))) a (some (.inr (2, [.int pn, .ref ra, .int so, .long am, .long dy, .long 0, .long 0])))) a (some (.inr (2, [.int pn, .ref ra, .int so, .long am, .long dy, .long am, .long 0]) : va_E))
  have hP : hw D vwCl A (va_up (va_up (va_up (va_up (va_up (va_up g a (some (.inr (2, [.int pn, .null, .int 0, .long 0, .long 0, .long 0, .long 0])))) a (some (.inr (2, [.int pn, .ref ra, .int 0, .long 0, .long 0, .long 0, .long 0])))) a (some (.inr (2, [.int pn, .ref ra, .int so, .long 0, .long 0, .long 0, .long 0])))) a (some (.inr (2, [.int pn, .ref ra, .int so, .long am, .long 0, .long 0, .long 0])))) a (some (.inr (2, [.int pn, .ref ra, .int so, .long am, .long dy, .long 0, .long 0])))) a (some (.inr (2, [.int pn, .ref ra, .int so, .long am, .long dy, .long am, .long 0])))) H := hP
  exact h_vret hx hb hr hlocks (Nat.le_of_ble_eq_true rfl) (Nat.le_of_ble_eq_true rfl) hP hS (by rw [bx_uu, bx_uu, bx_uu, bx_uu, bx_uu]) d_D_init_41
theorem k_B_32 {p : Program} {l : Launch} {e : Env} {R : Room} {s : State} {m : MethodId} {args : Array Value} {below : List Frame} {meth : Method} {c : Code} {H : Heap} {locs : List Loc} {cells slots : Nat} {Q : State → Prop} {cc : ByteArray} {pc : Nat} {ls : Array Slot} {rest : List Value} {D : va_G} {A : Nat → Prop} {t : Nat → ClassId} {g : hG} {nL : Nat} {ret0 : Option FieldType} {nm : String} (X : Cx p s m args meth c R_B cc nL ret0 TB D vwCl (tyL t) EX A nm) (hR : 1 + 1 ≤ R.frames ∧ 8 + (7 + 11) + 24 ≤ R.locals) (hf : cells + 0 ≤ R.cells ∧ slots + 0 ≤ R.slots) (hls : ls.size = nL) (hP : hw D vwCl A g H) (hS : va_S A s.heap H locs) {a b : Nat} {it pn : Int32} {ra : Nat} {du : Int64} {lo : Option Nat} {en : Int32} {so : Int32} {am dy : Int64} (he : g a = some (.inr (2, [.int 0, .null, .int 0, .long 0, .long 0, .long 0, .long 0]))) (hb0 : g b = some (cLo it pn ra du lo en)) (hW : (rest.map fun v => v.category).sum ≤ 8) (hdg : decode cc pc = .ok (.invokespecial 32, 3)) (kk : ∀ (H1 : Heap) (locs1 : List Loc), hw D vwCl A (va_up g a (some (cDe pn ra so am dy am 0))) H1 → va_S A s.heap H1 locs1 → W p l e R s m args below meth c H1 locs1 (cells + 0) (slots + 0) Q (F0 m (pc + 3) ls rest)) : W p l e R s m args below meth c H locs cells slots Q (F0 m pc ls (.long dy :: .long am :: .int so :: .ref b :: .ref a :: rest)) :=
  h_cv (runI X (c_D_init l D t A g a b it pn ra du lo en so am dy he hb0) (tbm 250 (by decide +kernel)) (tbm 251 (by decide +kernel)) (tbm 31 (by decide +kernel)) (tbm 252 (by decide +kernel)) rfl (n := 4) (by decide +kernel) hR hf hP hS hls rfl rfl hW hdg) hS (fun u H1 locs1 hp hP1 hS1 => kk H1 locs1 (hp ▸ hP1) hS1)

set_option maxRecDepth 100000 in
theorem c_B_isFull (l : Launch) (D : va_G) (t : Nat → ClassId) (A : Nat → Prop) (g : hG) (a bn bd n : Nat) (he : g a = some (cBr bn bd (nI n))) (hn : n ≤ 200) : Met l y_B_isFull (Cond.code y_B_isFull b_B_isFull 1 (some .boolean) :: TB) ({ frames := 0, cells := 0, slots := 0, locals := 0 } : Room) (va_Pc [.ref a] (hI D vwCl (tyL t) EX A g)) (va_Qi (fun r u => r = bi (fullB n) ∧ u = g) (fun u v => hw D vwCl A u v.heap) A) 0 0 A := by
  refine Met.ofH (cc := b_B_isFull) (maxL := 1) (ret := (some .boolean)) (lv := [(0, .ref a)]) (by decide) (Nat.le_of_ble_eq_true rfl) rfl ?_
  intro p e s m below meth c ls X hP hS hl
  obtain ⟨hx, hb, hml, hr, hts, hown, hlocks, hK, hEs, hA, hnm⟩ := id X
  refine lv_aload_n hx hb d_B_isFull_0 rfl (lv_at hl 0 rfl) ?_
  refine g_B_20 X hb hP he rfl d_B_isFull_1 ?_
  refine lv_sipush (v := 200) hx hb d_B_isFull_4 (by decide) ?_
  refine lv_icmp_lt (tgt := 14) hx hb d_B_isFull_7 (by decide) (fun c_1 => ?_) (fun c_1 => ?_)
  · refine lv_iconst (v := 0) hx hb d_B_isFull_14 (by decide) ?_
    exact h_zret hx hb hr hlocks (rfl) (Nat.le_of_ble_eq_true rfl) (Nat.le_of_ble_eq_true rfl) hP hS (⟨by rw [show fullB n = false from decide_eq_false (Nat.not_le.mpr ((nI_ltI (b := 200) (by omega) (by decide)).mp c_1))]; rfl, rfl⟩) d_B_isFull_15
  · refine lv_iconst (v := 1) hx hb d_B_isFull_10 (by decide) ?_
    refine lv_goto (tgt := 15) hx hb d_B_isFull_11 (by decide) ?_
    exact h_zret hx hb hr hlocks (rfl) (Nat.le_of_ble_eq_true rfl) (Nat.le_of_ble_eq_true rfl) hP hS (⟨by rw [show fullB n = true from decide_eq_true (Nat.le_of_not_lt (fun q => c_1 (nI_lt (b := 200) q (by decide))))]; rfl, rfl⟩) d_B_isFull_15
theorem k_F_109 {p : Program} {l : Launch} {e : Env} {R : Room} {s : State} {m : MethodId} {args : Array Value} {below : List Frame} {meth : Method} {c : Code} {H : Heap} {locs : List Loc} {cells slots : Nat} {Q : State → Prop} {cc : ByteArray} {pc : Nat} {ls : Array Slot} {rest : List Value} {D : va_G} {A : Nat → Prop} {t : Nat → ClassId} {g : hG} {nL : Nat} {ret0 : Option FieldType} {nm : String} (X : Cx p s m args meth c R_F cc nL ret0 TB D vwCl (tyL t) EX A nm) (hR : 0 + 1 ≤ R.frames ∧ 8 + (1 + 11) + 0 ≤ R.locals) (hf : cells + 0 ≤ R.cells ∧ slots + 0 ≤ R.slots) (hls : ls.size = nL) (hP : hw D vwCl A g H) (hS : va_S A s.heap H locs) {a bn bd n : Nat} {fs9 : List Value} (he9 : g a = some (.inr (3, fs9))) (he : g a = some (cBr bn bd (nI n))) (hn : n ≤ 200) (hW : (rest.map fun v => v.category).sum ≤ 8) (hdg : decode cc pc = .ok (.invokevirtual 109, 3)) (kk : ∀ (r : Int32) (H1 : Heap) (locs1 : List Loc), r = bi (fullB n) → hw D vwCl A (g) H1 → va_S A s.heap H1 locs1 → W p l e R s m args below meth c H1 locs1 (cells + 0) (slots + 0) Q (F0 m (pc + 3) ls (.int r :: rest))) : W p l e R s m args below meth c H locs cells slots Q (F0 m pc ls (.ref a :: rest)) :=
  h_ci (runV (C := R_B) (T := F_B) (N := 3) X (c_B_isFull l D t A g a bn bd n he hn) (tbm 232 (by decide +kernel)) (tbm 233 (by decide +kernel)) (tbm 234 (by decide +kernel)) (tbm 21 (by decide +kernel)) (tbm 235 (by decide +kernel)) rfl (n := 0) (by decide +kernel) hR hf hP he9 hS hls rfl rfl hW hdg) hS (fun r u H1 locs1 hp hP1 hS1 => kk r H1 locs1 hp.1 (hp.2 ▸ hP1) hS1)
theorem k_B_28 {p : Program} {l : Launch} {e : Env} {R : Room} {s : State} {m : MethodId} {args : Array Value} {below : List Frame} {meth : Method} {c : Code} {H : Heap} {locs : List Loc} {cells slots : Nat} {Q : State → Prop} {cc : ByteArray} {pc : Nat} {ls : Array Slot} {rest : List Value} {D : va_G} {A : Nat → Prop} {t : Nat → ClassId} {g : hG} {nL : Nat} {ret0 : Option FieldType} {nm : String} (X : Cx p s m args meth c R_B cc nL ret0 TB D vwCl (tyL t) EX A nm) (hR : 0 + 1 ≤ R.frames ∧ 8 + (1 + 11) + 0 ≤ R.locals) (hf : cells + 0 ≤ R.cells ∧ slots + 0 ≤ R.slots) (hls : ls.size = nL) (hP : hw D vwCl A g H) (hS : va_S A s.heap H locs) {a bn bd n : Nat} {fs9 : List Value} (he9 : g a = some (.inr (3, fs9))) (he : g a = some (cBr bn bd (nI n))) (hn : n ≤ 200) (hW : (rest.map fun v => v.category).sum ≤ 8) (hdg : decode cc pc = .ok (.invokevirtual 28, 3)) (kk : ∀ (r : Int32) (H1 : Heap) (locs1 : List Loc), r = bi (fullB n) → hw D vwCl A (g) H1 → va_S A s.heap H1 locs1 → W p l e R s m args below meth c H1 locs1 (cells + 0) (slots + 0) Q (F0 m (pc + 3) ls (.int r :: rest))) : W p l e R s m args below meth c H locs cells slots Q (F0 m pc ls (.ref a :: rest)) :=
  h_ci (runV (C := R_B) (T := F_B) (N := 3) X (c_B_isFull l D t A g a bn bd n he hn) (tbm 248 (by decide +kernel)) (tbm 233 (by decide +kernel)) (tbm 234 (by decide +kernel)) (tbm 21 (by decide +kernel)) (tbm 235 (by decide +kernel)) rfl (n := 0) (by decide +kernel) hR hf hP he9 hS hls rfl rfl hW hdg) hS (fun r u H1 locs1 hp hP1 hS1 => kk r H1 locs1 hp.1 (hp.2 ▸ hP1) hS1)

set_option maxRecDepth 100000 in
theorem c_B_cameBehind (l : Launch) (D : va_G) (t : Nat → ClassId) (A : Nat → Prop) (g : hG) (a : Nat) (v : DC) (x : Int64) (he : g a = some (cDv v)) : Met l y_B_cameBehind (Cond.code y_B_cameBehind b_B_cameBehind 3 (some .boolean) :: TB) ({ frames := 0, cells := 0, slots := 0, locals := 0 } : Room) (va_Pc [.ref a, .long x] (hI D vwCl (tyL t) EX A g)) (va_Qi (fun r u => r = bi (decide (x < v.2.2.2.2.1)) ∧ u = g) (fun u v => hw D vwCl A u v.heap) A) 0 0 A := by
  refine Met.ofH (cc := b_B_cameBehind) (maxL := 3) (ret := (some .boolean)) (lv := [(0, .ref a), (1, .long x)]) (by decide) (Nat.le_of_ble_eq_true rfl) rfl ?_
  intro p e s m below meth c ls X hP hS hl
  obtain ⟨hx, hb, hml, hr, hts, hown, hlocks, hK, hEs, hA, hnm⟩ := id X
  refine lv_aload_n hx hb d_B_cameBehind_0 rfl (lv_at hl 0 rfl) ?_
  refine lv_ifnull hx hb d_B_cameBehind_1 ?_
  refine lv_aload_n hx hb d_B_cameBehind_4 rfl (lv_at hl 0 rfl) ?_
  refine g_B_39 X hb hP he rfl d_B_cameBehind_5 ?_
  refine lv_lload_n hx hb d_B_cameBehind_8 rfl (lv_at hl 1 rfl) ?_
  refine W.lcmp hx hb d_B_cameBehind_9 ?_
  refine lv_if_le (tgt := 17) hx hb d_B_cameBehind_10 (by decide) (fun c_1 => ?_) (fun c_1 => ?_)
  · rw [lg_cmp_le] at c_1
    refine lv_iconst (v := 0) hx hb d_B_cameBehind_17 (by decide) ?_
    exact h_zret hx hb hr hlocks (rfl) (Nat.le_of_ble_eq_true rfl) (Nat.le_of_ble_eq_true rfl) hP hS (⟨by rw [decide_eq_false (Int64.not_lt.mpr c_1)]; rfl, rfl⟩) d_B_cameBehind_18
  · rw [lg_cmp_le] at c_1
    refine lv_iconst (v := 1) hx hb d_B_cameBehind_13 (by decide) ?_
    refine lv_goto (tgt := 18) hx hb d_B_cameBehind_14 (by decide) ?_
    exact h_zret hx hb hr hlocks (rfl) (Nat.le_of_ble_eq_true rfl) (Nat.le_of_ble_eq_true rfl) hP hS (⟨by rw [decide_eq_true (Int64.not_le.mp c_1)]; rfl, rfl⟩) d_B_cameBehind_18
theorem k_B_35 {p : Program} {l : Launch} {e : Env} {R : Room} {s : State} {m : MethodId} {args : Array Value} {below : List Frame} {meth : Method} {c : Code} {H : Heap} {locs : List Loc} {cells slots : Nat} {Q : State → Prop} {cc : ByteArray} {pc : Nat} {ls : Array Slot} {rest : List Value} {D : va_G} {A : Nat → Prop} {t : Nat → ClassId} {g : hG} {nL : Nat} {ret0 : Option FieldType} {nm : String} (X : Cx p s m args meth c R_B cc nL ret0 TB D vwCl (tyL t) EX A nm) (hR : 0 + 1 ≤ R.frames ∧ 8 + (3 + 11) + 0 ≤ R.locals) (hf : cells + 0 ≤ R.cells ∧ slots + 0 ≤ R.slots) (hls : ls.size = nL) (hP : hw D vwCl A g H) (hS : va_S A s.heap H locs) {a : Nat} {v : DC} {x : Int64} (he : g a = some (cDv v)) (hW : (rest.map fun v => v.category).sum ≤ 8) (hdg : decode cc pc = .ok (.invokestatic 35, 3)) (kk : ∀ (r : Int32) (H1 : Heap) (locs1 : List Loc), r = bi (decide (x < v.2.2.2.2.1)) → hw D vwCl A (g) H1 → va_S A s.heap H1 locs1 → W p l e R s m args below meth c H1 locs1 (cells + 0) (slots + 0) Q (F0 m (pc + 3) ls (.int r :: rest))) : W p l e R s m args below meth c H locs cells slots Q (F0 m pc ls (.long x :: .ref a :: rest)) :=
  h_ci (runS X (c_B_cameBehind l D t A g a v x he) (tbm 285 (by decide +kernel)) (tbm 286 (by decide +kernel)) (tbm 21 (by decide +kernel)) (tbm 287 (by decide +kernel)) (n := 2) (by decide +kernel) hR hf hP hS hls rfl rfl hW hdg) hS (fun r u H1 locs1 hp hP1 hS1 => kk r H1 locs1 hp.1 (hp.2 ▸ hP1) hS1)
end
section
theorem numQ_at {f : Nat → Option Nat} {n k : Nat} (hn : n < 1000000) (h : k < n) : numQ f n (nI (k + 1)) = f k := by
  rw [numQ, if_pos (wi_num_of hn h), nI_toInt (by omega)]
  congr 1
theorem numQ_no {f : Nat → Option Nat} {n : Nat} {x : Int32} (h : wi x 1 (nI n) = false) : numQ f n x = none := by simp [numQ, h]
theorem ordQ_at {f : Nat → Option Nat} {n k : Nat} (hn : n < 1000000) (h : k < n) : ordQ f n (nI k) = f k := by
  rw [ordQ, if_pos (wi_ord_of hn h), nI_toInt (by omega)]
  congr 1
theorem ordQ_no {f : Nat → Option Nat} {n : Nat} {x : Int32} (h : wi x 0 (nI n - 1) = false) : ordQ f n x = none := by simp [ordQ, h]
/-- where a new debt of day x goes among the first q of the order -/
def insP (db : Nat → DC) (x : Int64) : Nat → Nat
  | 0 => 0
  | q + 1 => if x < (db q).2.2.2.2.1 then insP db x q else q + 1
def shf (f : Nat → Option Nat) (n q : Nat) : Nat → Option Nat := fun j => if j ≤ q then f j else if j ≤ n then f (j - 1) else f j
theorem shf_n (f : Nat → Option Nat) (n : Nat) : shf f n n = f := by
  funext j
  by_cases h : j ≤ n <;> simp [shf, h]
theorem shf_up (f : Nat → Option Nat) (n q : Nat) (hq : q + 1 ≤ n) : va_up (shf f n (q + 1)) (q + 1) (shf f n (q + 1) q) = shf f n q := by
  funext j
  by_cases h : j = q + 1
  · subst h
    have h1 : ¬ q + 1 ≤ q := by omega
    simp [va_up, shf, hq]
    try omega
  · by_cases h2 : j ≤ q
    · have h3 : j ≤ q + 1 := by omega
      simp [va_up, shf, h, h2, h3]
    · have h3 : ¬ j ≤ q + 1 := by omega
      simp [va_up, shf, h, h2, h3]
theorem shf_at {f : Nat → Option Nat} {n q j : Nat} (h : j ≤ q) : shf f n q j = f j := by simp [shf, h]
def insF (f : Nat → Option Nat) (n q : Nat) (o : Nat) : Nat → Option Nat := va_up (shf f n q) q (some o)
theorem insP_le (db : Nat → DC) (x : Int64) : ∀ q, insP db x q ≤ q
  | 0 => Nat.le_refl 0
  | q + 1 => by
    rw [insP]
    split
    · exact Nat.le_succ_of_le (insP_le db x q)
    · exact Nat.le_refl _
def bAdd (t : Nat → ClassId) (g : hG) (a bn bd n : Nat) (fN fB : Nat → Option Nat) (P o : Nat) (cell : va_E) : hG :=
  va_up (va_up (va_up (va_up g o (some cell)) bd (some (arQ t 5 200 (insF fB n P o)))) bn (some (arQ t 5 200 (va_up fN n (some o))))) a (some (cBr bn bd (nI (n + 1))))
end
section
set_option maxRecDepth 100000 in
theorem c_B_numbered (l : Launch) (D : va_G) (t : Nat → ClassId) (A : Nat → Prop) (g : hG) (a bn bd n : Nat) (fN : Nat → Option Nat) (x : Int32) (he : g a = some (cBr bn bd (nI n))) (ha : g bn = some (arQ t 5 200 fN)) (hn : n ≤ 200) : Met l y_B_numbered (Cond.code y_B_numbered b_B_numbered 2 (some (.object "FineRows$Debt")) :: TB) ({ frames := 1, cells := 0, slots := 0, locals := 22 } : Room) (va_Pc [.ref a, .int x] (hI D vwCl (tyL t) EX A g)) (va_Qq (fun r u => r = numQ fN n x ∧ u = g) (fun u v => hw D vwCl A u v.heap) A) 0 0 A := by
  refine Met.ofH (cc := b_B_numbered) (maxL := 2) (ret := (some (.object "FineRows$Debt"))) (lv := [(0, .ref a), (1, .int x)]) (by decide) (Nat.le_of_ble_eq_true rfl) rfl ?_
  intro p e s m below meth c ls X hP hS hl
  obtain ⟨hx, hb, hml, hr, hts, hown, hlocks, hK, hEs, hA, hnm⟩ := id X
  refine lv_iload_n hx hb d_B_numbered_0 rfl (lv_at hl 1 rfl) ?_
  refine lv_iconst (v := 1) hx hb d_B_numbered_1 (by decide) ?_
  refine lv_aload_n hx hb d_B_numbered_2 rfl (lv_at hl 0 rfl) ?_
  refine g_B_20 X hb hP he rfl d_B_numbered_3 ?_
  refine k_B_24 X ⟨Nat.le_of_ble_eq_true rfl, Nat.le_of_ble_eq_true rfl⟩ ⟨Nat.le_of_ble_eq_true rfl, Nat.le_of_ble_eq_true rfl⟩ hl.1 hP hS (by exact Nat.le_of_ble_eq_true rfl) d_B_numbered_6 (fun r_1 H locs er_1 hP hS => ?_)
  refine lv_if_eq (tgt := 23) hx hb d_B_numbered_9 (by decide) (fun c_2 => ?_) (fun c_2 => ?_)
  · have t_1 := bi_0.mp (er_1 ▸ c_2)
    refine lv_null hx hb d_B_numbered_23 ?_
    exact h_aret (r := none) hx hb hr hlocks (Nat.le_of_ble_eq_true rfl) (Nat.le_of_ble_eq_true rfl) hP hS (⟨(numQ_no (bi_0.mp (er_1 ▸ c_2))).symm, rfl⟩) d_B_numbered_24
  · have t_1 := bi_n0.mp (er_1 ▸ c_2)
    obtain ⟨k, hk, rfl⟩ := wi_num (by omega) (bi_n0.mp (er_1 ▸ c_2))
    refine lv_aload_n hx hb d_B_numbered_12 rfl (lv_at hl 0 rfl) ?_
    refine g_B_11 X hb hP he rfl d_B_numbered_13 ?_
    refine lv_iload_n hx hb d_B_numbered_16 rfl (lv_at hl 1 rfl) ?_
    refine lv_iconst (v := 1) hx hb d_B_numbered_17 (by decide) ?_
    refine lv_isub hx hb d_B_numbered_18 ?_
    rw [nI_pred]
    refine n_aald X hb hP 5 ha rfl ⟨by omega, by decide⟩ d_B_numbered_19 ?_
    refine lv_goto (tgt := 24) hx hb d_B_numbered_20 (by decide) ?_
    exact h_aret (r := (fN k)) hx hb hr hlocks (Nat.le_of_ble_eq_true rfl) (Nat.le_of_ble_eq_true rfl) hP hS (⟨(numQ_at (by omega) hk).symm, rfl⟩) d_B_numbered_24
theorem k_F_124 {p : Program} {l : Launch} {e : Env} {R : Room} {s : State} {m : MethodId} {args : Array Value} {below : List Frame} {meth : Method} {c : Code} {H : Heap} {locs : List Loc} {cells slots : Nat} {Q : State → Prop} {cc : ByteArray} {pc : Nat} {ls : Array Slot} {rest : List Value} {D : va_G} {A : Nat → Prop} {t : Nat → ClassId} {g : hG} {nL : Nat} {ret0 : Option FieldType} {nm : String} (X : Cx p s m args meth c R_F cc nL ret0 TB D vwCl (tyL t) EX A nm) (hR : 1 + 1 ≤ R.frames ∧ 8 + (2 + 11) + 22 ≤ R.locals) (hf : cells + 0 ≤ R.cells ∧ slots + 0 ≤ R.slots) (hls : ls.size = nL) (hP : hw D vwCl A g H) (hS : va_S A s.heap H locs) {a bn bd n : Nat} {fN : Nat → Option Nat} {x : Int32} {fs9 : List Value} (he9 : g a = some (.inr (3, fs9))) (he : g a = some (cBr bn bd (nI n))) (ha : g bn = some (arQ t 5 200 fN)) (hn : n ≤ 200) (hW : (rest.map fun v => v.category).sum ≤ 8) (hdg : decode cc pc = .ok (.invokevirtual 124, 3)) (kk : ∀ (r : Option Nat) (H1 : Heap) (locs1 : List Loc), r = numQ fN n x → hw D vwCl A (g) H1 → va_S A s.heap H1 locs1 → W p l e R s m args below meth c H1 locs1 (cells + 0) (slots + 0) Q (F0 m (pc + 3) ls (va_rf r :: rest))) : W p l e R s m args below meth c H locs cells slots Q (F0 m pc ls (.int x :: .ref a :: rest)) :=
  h_cq (runV (C := R_B) (T := F_B) (N := 3) X (c_B_numbered l D t A g a bn bd n fN x he ha hn) (tbm 292 (by decide +kernel)) (tbm 293 (by decide +kernel)) (tbm 294 (by decide +kernel)) (tbm 21 (by decide +kernel)) (tbm 295 (by decide +kernel)) rfl (n := 1) (by decide +kernel) hR hf hP he9 hS hls rfl rfl hW hdg) hS (fun r u H1 locs1 hp hP1 hS1 => kk r H1 locs1 hp.1 (hp.2 ▸ hP1) hS1)

set_option maxRecDepth 100000 in
theorem c_B_inOrder (l : Launch) (D : va_G) (t : Nat → ClassId) (A : Nat → Prop) (g : hG) (a bn bd n : Nat) (fB : Nat → Option Nat) (x : Int32) (he : g a = some (cBr bn bd (nI n))) (ha : g bd = some (arQ t 5 200 fB)) (hn : n ≤ 200) : Met l y_B_inOrder (Cond.code y_B_inOrder b_B_inOrder 2 (some (.object "FineRows$Debt")) :: TB) ({ frames := 1, cells := 0, slots := 0, locals := 22 } : Room) (va_Pc [.ref a, .int x] (hI D vwCl (tyL t) EX A g)) (va_Qq (fun r u => r = ordQ fB n x ∧ u = g) (fun u v => hw D vwCl A u v.heap) A) 0 0 A := by
  refine Met.ofH (cc := b_B_inOrder) (maxL := 2) (ret := (some (.object "FineRows$Debt"))) (lv := [(0, .ref a), (1, .int x)]) (by decide) (Nat.le_of_ble_eq_true rfl) rfl ?_
  intro p e s m below meth c ls X hP hS hl
  obtain ⟨hx, hb, hml, hr, hts, hown, hlocks, hK, hEs, hA, hnm⟩ := id X
  refine lv_iload_n hx hb d_B_inOrder_0 rfl (lv_at hl 1 rfl) ?_
  refine lv_iconst (v := 0) hx hb d_B_inOrder_1 (by decide) ?_
  refine lv_aload_n hx hb d_B_inOrder_2 rfl (lv_at hl 0 rfl) ?_
  refine g_B_20 X hb hP he rfl d_B_inOrder_3 ?_
  refine lv_iconst (v := 1) hx hb d_B_inOrder_6 (by decide) ?_
  refine lv_isub hx hb d_B_inOrder_7 ?_
  refine k_B_24 X ⟨Nat.le_of_ble_eq_true rfl, Nat.le_of_ble_eq_true rfl⟩ ⟨Nat.le_of_ble_eq_true rfl, Nat.le_of_ble_eq_true rfl⟩ hl.1 hP hS (by exact Nat.le_of_ble_eq_true rfl) d_B_inOrder_8 (fun r_1 H locs er_1 hP hS => ?_)
  refine lv_if_eq (tgt := 23) hx hb d_B_inOrder_11 (by decide) (fun c_2 => ?_) (fun c_2 => ?_)
  · have t_1 := bi_0.mp (er_1 ▸ c_2)
    refine lv_null hx hb d_B_inOrder_23 ?_
    exact h_aret (r := none) hx hb hr hlocks (Nat.le_of_ble_eq_true rfl) (Nat.le_of_ble_eq_true rfl) hP hS (⟨(ordQ_no (bi_0.mp (er_1 ▸ c_2))).symm, rfl⟩) d_B_inOrder_24
  · have t_1 := bi_n0.mp (er_1 ▸ c_2)
    obtain ⟨k, hk, rfl⟩ := wi_ord (by omega) (bi_n0.mp (er_1 ▸ c_2))
    refine lv_aload_n hx hb d_B_inOrder_14 rfl (lv_at hl 0 rfl) ?_
    refine g_B_17 X hb hP he rfl d_B_inOrder_15 ?_
    refine lv_iload_n hx hb d_B_inOrder_18 rfl (lv_at hl 1 rfl) ?_
    refine n_aald X hb hP 5 ha rfl ⟨by omega, by decide⟩ d_B_inOrder_19 ?_
    refine lv_goto (tgt := 24) hx hb d_B_inOrder_20 (by decide) ?_
    exact h_aret (r := (fB k)) hx hb hr hlocks (Nat.le_of_ble_eq_true rfl) (Nat.le_of_ble_eq_true rfl) hP hS (⟨(ordQ_at (by omega) hk).symm, rfl⟩) d_B_inOrder_24
theorem k_F_149 {p : Program} {l : Launch} {e : Env} {R : Room} {s : State} {m : MethodId} {args : Array Value} {below : List Frame} {meth : Method} {c : Code} {H : Heap} {locs : List Loc} {cells slots : Nat} {Q : State → Prop} {cc : ByteArray} {pc : Nat} {ls : Array Slot} {rest : List Value} {D : va_G} {A : Nat → Prop} {t : Nat → ClassId} {g : hG} {nL : Nat} {ret0 : Option FieldType} {nm : String} (X : Cx p s m args meth c R_F cc nL ret0 TB D vwCl (tyL t) EX A nm) (hR : 1 + 1 ≤ R.frames ∧ 8 + (2 + 11) + 22 ≤ R.locals) (hf : cells + 0 ≤ R.cells ∧ slots + 0 ≤ R.slots) (hls : ls.size = nL) (hP : hw D vwCl A g H) (hS : va_S A s.heap H locs) {a bn bd n : Nat} {fB : Nat → Option Nat} {x : Int32} {fs9 : List Value} (he9 : g a = some (.inr (3, fs9))) (he : g a = some (cBr bn bd (nI n))) (ha : g bd = some (arQ t 5 200 fB)) (hn : n ≤ 200) (hW : (rest.map fun v => v.category).sum ≤ 8) (hdg : decode cc pc = .ok (.invokevirtual 149, 3)) (kk : ∀ (r : Option Nat) (H1 : Heap) (locs1 : List Loc), r = ordQ fB n x → hw D vwCl A (g) H1 → va_S A s.heap H1 locs1 → W p l e R s m args below meth c H1 locs1 (cells + 0) (slots + 0) Q (F0 m (pc + 3) ls (va_rf r :: rest))) : W p l e R s m args below meth c H locs cells slots Q (F0 m pc ls (.int x :: .ref a :: rest)) :=
  h_cq (runV (C := R_B) (T := F_B) (N := 3) X (c_B_inOrder l D t A g a bn bd n fB x he ha hn) (tbm 309 (by decide +kernel)) (tbm 310 (by decide +kernel)) (tbm 311 (by decide +kernel)) (tbm 21 (by decide +kernel)) (tbm 312 (by decide +kernel)) rfl (n := 1) (by decide +kernel) hR hf hP he9 hS hls rfl rfl hW hdg) hS (fun r u H1 locs1 hp hP1 hS1 => kk r H1 locs1 hp.1 (hp.2 ▸ hP1) hS1)

set_option maxHeartbeats 4000000 in
set_option maxRecDepth 100000 in
theorem lp_B_leftOf {p : Program} {l : Launch} {e : Env} {s : State} {m : MethodId} {below : List Frame} {meth : Method} {c : Code} {D : va_G} {t : Nat → ClassId} {A : Nat → Prop} (g : hG) (a bn bd n : Nat) (fN : Nat → Option Nat) (aN : Nat → Nat) (dv : Nat → DC) (x : Int32) (he : g a = some (cBr bn bd (nI n))) (ha : g bn = some (arQ t 5 200 fN)) (hn : n ≤ 200) (hN : ∀ i, i < n → fN i = some (aN i)) (hD : ∀ i, i < n → g (aN i) = some (cDv (dv i))) (X : Cx p s m ([.ref a, .int x] : List Value).toArray meth c R_B b_B_leftOf 6 (some .long) TB D vwCl (tyL t) EX A "leftOf") : ∀ (k : Nat) (i : Nat) (b : Int64) (H : Heap) (locs : List Loc) (ls : Array Slot) (_ : i ≤ n) (_ : n + 1 ≤ i + k) (_ : b = sLe dv x i) (_ : hw D vwCl A g H) (_ : va_S A s.heap H locs) (_ : lv_has ls 6 [(4, .int (nI i)), (2, .long b), (0, .ref a), (1, .int x)]), W p l e ({ frames := 0, cells := 0, slots := 0, locals := 0 } : Room) s m ([.ref a, .int x] : List Value).toArray below meth c H locs 0 0 (MQ below (va_Ql (fun r u => r = sLe dv x n ∧ u = g) (fun u v => hw D vwCl A u v.heap) A) ([.ref a, .int x] : List Value).toArray s 0 0 A) (F0 m 5 ls []) := by
  obtain ⟨hx, hb, hml, hr, hts, hown, hlocks, hK, hEs, hA, hnm⟩ := id X
  intro k
  induction k with
  | zero => exact fun i b H locs ls h1 h2 => absurd h2 (by omega)
  | succ k ih =>
    intro i b H locs ls hi hk hbt hP hS hl
    refine lv_iload hx hb d_B_leftOf_5 (lv_at hl 0 rfl) ?_
    refine lv_aload_n hx hb d_B_leftOf_7 rfl (lv_at hl 2 rfl) ?_
    refine g_B_20 X hb hP he rfl d_B_leftOf_8 ?_
    refine lv_icmp_ge (tgt := 51) hx hb d_B_leftOf_11 (by decide) (fun c_1 => ?_) (fun c_1 => ?_)
    · refine lv_lload_n hx hb d_B_leftOf_51 rfl (lv_at hl 1 rfl) ?_
      exact h_lret hx hb hr hlocks (Nat.le_of_ble_eq_true rfl) (Nat.le_of_ble_eq_true rfl) hP hS (⟨by rw [hbt, show i = n from Nat.le_antisymm hi ((nI_leI (by omega) (by omega)).mp c_1)], rfl⟩) d_B_leftOf_52
    · have hlt : i < n := Nat.lt_of_not_le (fun q => c_1 (nI_le q (by omega)))
      refine lv_aload_n hx hb d_B_leftOf_14 rfl (lv_at hl 2 rfl) ?_
      refine g_B_11 X hb hP he rfl d_B_leftOf_15 ?_
      refine lv_iload hx hb d_B_leftOf_18 (lv_at hl 0 rfl) ?_
      refine n_aald X hb hP 5 ha rfl ⟨by omega, by decide⟩ d_B_leftOf_20 ?_
      refine lv_some (y := (aN i)) (hN i hlt) ?_
      refine lv_astore (lv' := [(5, .ref (aN i)), (4, .int (nI i)), (2, .long b), (0, .ref a), (1, .int x)]) hx hb d_B_leftOf_21 hl (by decide) rfl (fun ls hl => ?_)
      refine lv_aload hx hb d_B_leftOf_23 (lv_at hl 0 rfl) ?_
      refine lv_ifnull hx hb d_B_leftOf_25 ?_
      refine lv_aload hx hb d_B_leftOf_28 (lv_at hl 0 rfl) ?_
      refine g_B_43 X hb hP (hD i hlt) rfl d_B_leftOf_30 ?_
      refine lv_iload_n hx hb d_B_leftOf_33 rfl (lv_at hl 4 rfl) ?_
      refine lv_icmp_ne (tgt := 45) hx hb d_B_leftOf_34 (by decide) (fun c_2 => ?_) (fun c_2 => ?_)
      · obtain ⟨x_3, ex_3⟩ : ∃ z : Int32, z = (nI i) + 1 := ⟨_, rfl⟩
        refine lv_iinc (v := x_3) (lv' := [(4, .int x_3), (5, .ref (aN i)), (2, .long b), (0, .ref a), (1, .int x)]) hx hb d_B_leftOf_45 hl (k := 1) rfl (by rw [ex_3]; rfl) (by decide) rfl (fun ls hl => ?_)
        refine lv_goto (tgt := 5) hx hb d_B_leftOf_48 (by decide) ?_
        obtain rfl : x_3 = nI (i + 1) := by rw [ex_3]; exact nI_1 i
        exact ih (i + 1) b H locs ls (by omega) (by omega) (by rw [sLe_n c_2]; exact hbt) hP hS (lv_sub hl [0, 2, 3, 4] rfl)
      · refine lv_lload_n hx hb d_B_leftOf_37 rfl (lv_at hl 2 rfl) ?_
        refine lv_aload hx hb d_B_leftOf_38 (lv_at hl 0 rfl) ?_
        refine g_B_46 X hb hP (hD i hlt) rfl d_B_leftOf_40 ?_
        refine lv_ladd hx hb d_B_leftOf_43 ?_
        refine lv_topl (fun x_4 ex_4 => ?_)
        refine lv_lstore_n (lv' := [(2, .long x_4), (5, .ref (aN i)), (4, .int (nI i)), (0, .ref a), (1, .int x)]) hx hb d_B_leftOf_44 rfl hl (by decide) rfl (fun ls hl => ?_)
        obtain ⟨x_5, ex_5⟩ : ∃ z : Int32, z = (nI i) + 1 := ⟨_, rfl⟩
        refine lv_iinc (v := x_5) (lv' := [(4, .int x_5), (2, .long x_4), (5, .ref (aN i)), (0, .ref a), (1, .int x)]) hx hb d_B_leftOf_45 hl (k := 2) rfl (by rw [ex_5]; rfl) (by decide) rfl (fun ls hl => ?_)
        refine lv_goto (tgt := 5) hx hb d_B_leftOf_48 (by decide) ?_
        obtain rfl : x_5 = nI (i + 1) := by rw [ex_5]; exact nI_1 i
        exact ih (i + 1) x_4 H locs ls (by omega) (by omega) (by rw [ex_4, hbt, sLe_y c_2]) hP hS (lv_sub hl [0, 1, 3, 4] rfl)

set_option maxRecDepth 100000 in
theorem c_B_leftOf (l : Launch) (D : va_G) (t : Nat → ClassId) (A : Nat → Prop) (g : hG) (a bn bd n : Nat) (fN : Nat → Option Nat) (aN : Nat → Nat) (dv : Nat → DC) (x : Int32) (he : g a = some (cBr bn bd (nI n))) (ha : g bn = some (arQ t 5 200 fN)) (hn : n ≤ 200) (hN : ∀ i, i < n → fN i = some (aN i)) (hD : ∀ i, i < n → g (aN i) = some (cDv (dv i))) : Met l y_B_leftOf (Cond.code y_B_leftOf b_B_leftOf 6 (some .long) :: TB) ({ frames := 0, cells := 0, slots := 0, locals := 0 } : Room) (va_Pc [.ref a, .int x] (hI D vwCl (tyL t) EX A g)) (va_Ql (fun r u => r = sLe dv x n ∧ u = g) (fun u v => hw D vwCl A u v.heap) A) 0 0 A := by
  refine Met.ofH (cc := b_B_leftOf) (maxL := 6) (ret := (some .long)) (lv := [(0, .ref a), (1, .int x)]) (by decide) (Nat.le_of_ble_eq_true rfl) rfl ?_
  intro p e s m below meth c ls X hP hS hl
  obtain ⟨hx, hb, hml, hr, hts, hown, hlocks, hK, hEs, hA, hnm⟩ := id X
  refine lv_lconst (v := 0) hx hb d_B_leftOf_0 (by decide) ?_
  refine lv_lstore_n (lv' := [(2, .long 0), (0, .ref a), (1, .int x)]) hx hb d_B_leftOf_1 rfl hl (by decide) rfl (fun ls hl => ?_)
  refine lv_iconst (v := 0) hx hb d_B_leftOf_2 (by decide) ?_
  refine lv_istore (lv' := [(4, .int 0), (2, .long 0), (0, .ref a), (1, .int x)]) hx hb d_B_leftOf_3 hl (by decide) rfl (fun ls hl => ?_)
  exact lp_B_leftOf g a bn bd n fN aN dv x he ha hn hN hD X (n + 1) 0 0 _ _ ls (Nat.zero_le n) (by omega) rfl hP hS (lv_sub hl [0, 1, 2, 3] rfl)
theorem k_F_175 {p : Program} {l : Launch} {e : Env} {R : Room} {s : State} {m : MethodId} {args : Array Value} {below : List Frame} {meth : Method} {c : Code} {H : Heap} {locs : List Loc} {cells slots : Nat} {Q : State → Prop} {cc : ByteArray} {pc : Nat} {ls : Array Slot} {rest : List Value} {D : va_G} {A : Nat → Prop} {t : Nat → ClassId} {g : hG} {nL : Nat} {ret0 : Option FieldType} {nm : String} (X : Cx p s m args meth c R_F cc nL ret0 TB D vwCl (tyL t) EX A nm) (hR : 0 + 1 ≤ R.frames ∧ 8 + (6 + 11) + 0 ≤ R.locals) (hf : cells + 0 ≤ R.cells ∧ slots + 0 ≤ R.slots) (hls : ls.size = nL) (hP : hw D vwCl A g H) (hS : va_S A s.heap H locs) {a bn bd n : Nat} {fN : Nat → Option Nat} {aN : Nat → Nat} {dv : Nat → DC} {x : Int32} {fs9 : List Value} (he9 : g a = some (.inr (3, fs9))) (he : g a = some (cBr bn bd (nI n))) (ha : g bn = some (arQ t 5 200 fN)) (hn : n ≤ 200) (hN : ∀ i, i < n → fN i = some (aN i)) (hD : ∀ i, i < n → g (aN i) = some (cDv (dv i))) (hW : (rest.map fun v => v.category).sum ≤ 8) (hdg : decode cc pc = .ok (.invokevirtual 175, 3)) (kk : ∀ (r : Int64) (H1 : Heap) (locs1 : List Loc), r = sLe dv x n → hw D vwCl A (g) H1 → va_S A s.heap H1 locs1 → W p l e R s m args below meth c H1 locs1 (cells + 0) (slots + 0) Q (F0 m (pc + 3) ls (.long r :: rest))) : W p l e R s m args below meth c H locs cells slots Q (F0 m pc ls (.int x :: .ref a :: rest)) :=
  h_cl (runV (C := R_B) (T := F_B) (N := 3) X (c_B_leftOf l D t A g a bn bd n fN aN dv x he ha hn hN hD) (tbm 331 (by decide +kernel)) (tbm 332 (by decide +kernel)) (tbm 333 (by decide +kernel)) (tbm 21 (by decide +kernel)) (tbm 334 (by decide +kernel)) rfl (n := 1) (by decide +kernel) hR hf hP he9 hS hls rfl rfl hW hdg) hS (fun r u H1 locs1 hp hP1 hS1 => kk r H1 locs1 hp.1 (hp.2 ▸ hP1) hS1)

set_option maxHeartbeats 4000000 in
set_option maxRecDepth 100000 in
theorem lp_B_interestOf {p : Program} {l : Launch} {e : Env} {s : State} {m : MethodId} {below : List Frame} {meth : Method} {c : Code} {D : va_G} {t : Nat → ClassId} {A : Nat → Prop} (g : hG) (a bn bd n : Nat) (fN : Nat → Option Nat) (aN : Nat → Nat) (dv : Nat → DC) (rv : Nat → RV) (x : Int32) (y : Int64) (he : g a = some (cBr bn bd (nI n))) (ha : g bn = some (arQ t 5 200 fN)) (hn : n ≤ 200) (hN : ∀ i, i < n → fN i = some (aN i)) (hD : ∀ i, i < n → g (aN i) = some (cDv (dv i))) (hR0 : ∀ i, i < n → g (dv i).2.1 = some (cRu (rv i))) (X : Cx p s m ([.ref a, .int x, .long y] : List Value).toArray meth c R_B b_B_interestOf 8 (some .long) TB D vwCl (tyL t) EX A "interestOf") : ∀ (k : Nat) (i : Nat) (b : Int64) (H : Heap) (locs : List Loc) (ls : Array Slot) (_ : i ≤ n) (_ : n + 1 ≤ i + k) (_ : b = sIn dv rv x y i) (_ : hw D vwCl A g H) (_ : va_S A s.heap H locs) (_ : lv_has ls 8 [(6, .int (nI i)), (4, .long b), (0, .ref a), (1, .int x), (2, .long y)]), W p l e ({ frames := 2, cells := 0, slots := 0, locals := 46 } : Room) s m ([.ref a, .int x, .long y] : List Value).toArray below meth c H locs 0 0 (MQ below (va_Ql (fun r u => r = sIn dv rv x y n ∧ u = g) (fun u v => hw D vwCl A u v.heap) A) ([.ref a, .int x, .long y] : List Value).toArray s 0 0 A) (F0 m 6 ls []) := by
  obtain ⟨hx, hb, hml, hr, hts, hown, hlocks, hK, hEs, hA, hnm⟩ := id X
  intro k
  induction k with
  | zero => exact fun i b H locs ls h1 h2 => absurd h2 (by omega)
  | succ k ih =>
    intro i b H locs ls hi hk hbt hP hS hl
    refine lv_iload hx hb d_B_interestOf_6 (lv_at hl 0 rfl) ?_
    refine lv_aload_n hx hb d_B_interestOf_8 rfl (lv_at hl 2 rfl) ?_
    refine g_B_20 X hb hP he rfl d_B_interestOf_9 ?_
    refine lv_icmp_ge (tgt := 55) hx hb d_B_interestOf_12 (by decide) (fun c_1 => ?_) (fun c_1 => ?_)
    · refine lv_lload hx hb d_B_interestOf_55 (lv_at hl 1 rfl) ?_
      exact h_lret hx hb hr hlocks (Nat.le_of_ble_eq_true rfl) (Nat.le_of_ble_eq_true rfl) hP hS (⟨by rw [hbt, show i = n from Nat.le_antisymm hi ((nI_leI (by omega) (by omega)).mp c_1)], rfl⟩) d_B_interestOf_57
    · have hlt : i < n := Nat.lt_of_not_le (fun q => c_1 (nI_le q (by omega)))
      refine lv_aload_n hx hb d_B_interestOf_15 rfl (lv_at hl 2 rfl) ?_
      refine g_B_11 X hb hP he rfl d_B_interestOf_16 ?_
      refine lv_iload hx hb d_B_interestOf_19 (lv_at hl 0 rfl) ?_
      refine n_aald X hb hP 5 ha rfl ⟨by omega, by decide⟩ d_B_interestOf_21 ?_
      refine lv_some (y := (aN i)) (hN i hlt) ?_
      refine lv_astore (lv' := [(7, .ref (aN i)), (6, .int (nI i)), (4, .long b), (0, .ref a), (1, .int x), (2, .long y)]) hx hb d_B_interestOf_22 hl (by decide) rfl (fun ls hl => ?_)
      refine lv_aload hx hb d_B_interestOf_24 (lv_at hl 0 rfl) ?_
      refine lv_ifnull hx hb d_B_interestOf_26 ?_
      refine lv_aload hx hb d_B_interestOf_29 (lv_at hl 0 rfl) ?_
      refine g_B_43 X hb hP (hD i hlt) rfl d_B_interestOf_31 ?_
      refine lv_iload_n hx hb d_B_interestOf_34 rfl (lv_at hl 4 rfl) ?_
      refine lv_icmp_ne (tgt := 49) hx hb d_B_interestOf_35 (by decide) (fun c_2 => ?_) (fun c_2 => ?_)
      · obtain ⟨x_3, ex_3⟩ : ∃ z : Int32, z = (nI i) + 1 := ⟨_, rfl⟩
        refine lv_iinc (v := x_3) (lv' := [(6, .int x_3), (7, .ref (aN i)), (4, .long b), (0, .ref a), (1, .int x), (2, .long y)]) hx hb d_B_interestOf_49 hl (k := 1) rfl (by rw [ex_3]; rfl) (by decide) rfl (fun ls hl => ?_)
        refine lv_goto (tgt := 6) hx hb d_B_interestOf_52 (by decide) ?_
        obtain rfl : x_3 = nI (i + 1) := by rw [ex_3]; exact nI_1 i
        exact ih (i + 1) b H locs ls (by omega) (by omega) (by rw [sIn_n c_2]; exact hbt) hP hS (lv_sub hl [0, 2, 3, 4, 5] rfl)
      · refine lv_lload hx hb d_B_interestOf_38 (lv_at hl 2 rfl) ?_
        refine lv_aload hx hb d_B_interestOf_40 (lv_at hl 0 rfl) ?_
        refine lv_lload_n hx hb d_B_interestOf_42 rfl (lv_at hl 5 rfl) ?_
        refine k_B_49 X ⟨Nat.le_of_ble_eq_true rfl, Nat.le_of_ble_eq_true rfl⟩ ⟨Nat.le_of_ble_eq_true rfl, Nat.le_of_ble_eq_true rfl⟩ hl.1 hP hS (hD i hlt) (hD i hlt) (hR0 i hlt) (by exact Nat.le_of_ble_eq_true rfl) d_B_interestOf_43 (fun r_4 H locs er_4 hP hS => ?_)
        refine lv_ladd hx hb d_B_interestOf_46 ?_
        refine lv_topl (fun x_5 ex_5 => ?_)
        refine lv_lstore (lv' := [(4, .long x_5), (7, .ref (aN i)), (6, .int (nI i)), (0, .ref a), (1, .int x), (2, .long y)]) hx hb d_B_interestOf_47 hl (by decide) rfl (fun ls hl => ?_)
        obtain ⟨x_6, ex_6⟩ : ∃ z : Int32, z = (nI i) + 1 := ⟨_, rfl⟩
        refine lv_iinc (v := x_6) (lv' := [(6, .int x_6), (4, .long x_5), (7, .ref (aN i)), (0, .ref a), (1, .int x), (2, .long y)]) hx hb d_B_interestOf_49 hl (k := 2) rfl (by rw [ex_6]; rfl) (by decide) rfl (fun ls hl => ?_)
        refine lv_goto (tgt := 6) hx hb d_B_interestOf_52 (by decide) ?_
        obtain rfl : x_6 = nI (i + 1) := by rw [ex_6]; exact nI_1 i
        exact ih (i + 1) x_5 H locs ls (by omega) (by omega) (by rw [ex_5, er_4, hbt, sIn_y c_2]) hP hS (lv_sub hl [0, 1, 3, 4, 5] rfl)

set_option maxRecDepth 100000 in
theorem c_B_interestOf (l : Launch) (D : va_G) (t : Nat → ClassId) (A : Nat → Prop) (g : hG) (a bn bd n : Nat) (fN : Nat → Option Nat) (aN : Nat → Nat) (dv : Nat → DC) (rv : Nat → RV) (x : Int32) (y : Int64) (he : g a = some (cBr bn bd (nI n))) (ha : g bn = some (arQ t 5 200 fN)) (hn : n ≤ 200) (hN : ∀ i, i < n → fN i = some (aN i)) (hD : ∀ i, i < n → g (aN i) = some (cDv (dv i))) (hR0 : ∀ i, i < n → g (dv i).2.1 = some (cRu (rv i))) : Met l y_B_interestOf (Cond.code y_B_interestOf b_B_interestOf 8 (some .long) :: TB) ({ frames := 2, cells := 0, slots := 0, locals := 46 } : Room) (va_Pc [.ref a, .int x, .long y] (hI D vwCl (tyL t) EX A g)) (va_Ql (fun r u => r = sIn dv rv x y n ∧ u = g) (fun u v => hw D vwCl A u v.heap) A) 0 0 A := by
  refine Met.ofH (cc := b_B_interestOf) (maxL := 8) (ret := (some .long)) (lv := [(0, .ref a), (1, .int x), (2, .long y)]) (by decide) (Nat.le_of_ble_eq_true rfl) rfl ?_
  intro p e s m below meth c ls X hP hS hl
  obtain ⟨hx, hb, hml, hr, hts, hown, hlocks, hK, hEs, hA, hnm⟩ := id X
  refine lv_lconst (v := 0) hx hb d_B_interestOf_0 (by decide) ?_
  refine lv_lstore (lv' := [(4, .long 0), (0, .ref a), (1, .int x), (2, .long y)]) hx hb d_B_interestOf_1 hl (by decide) rfl (fun ls hl => ?_)
  refine lv_iconst (v := 0) hx hb d_B_interestOf_3 (by decide) ?_
  refine lv_istore (lv' := [(6, .int 0), (4, .long 0), (0, .ref a), (1, .int x), (2, .long y)]) hx hb d_B_interestOf_4 hl (by decide) rfl (fun ls hl => ?_)
  exact lp_B_interestOf g a bn bd n fN aN dv rv x y he ha hn hN hD hR0 X (n + 1) 0 0 _ _ ls (Nat.zero_le n) (by omega) rfl hP hS (lv_sub hl [0, 1, 2, 3, 4] rfl)
theorem k_F_171 {p : Program} {l : Launch} {e : Env} {R : Room} {s : State} {m : MethodId} {args : Array Value} {below : List Frame} {meth : Method} {c : Code} {H : Heap} {locs : List Loc} {cells slots : Nat} {Q : State → Prop} {cc : ByteArray} {pc : Nat} {ls : Array Slot} {rest : List Value} {D : va_G} {A : Nat → Prop} {t : Nat → ClassId} {g : hG} {nL : Nat} {ret0 : Option FieldType} {nm : String} (X : Cx p s m args meth c R_F cc nL ret0 TB D vwCl (tyL t) EX A nm) (hR : 2 + 1 ≤ R.frames ∧ 8 + (8 + 11) + 46 ≤ R.locals) (hf : cells + 0 ≤ R.cells ∧ slots + 0 ≤ R.slots) (hls : ls.size = nL) (hP : hw D vwCl A g H) (hS : va_S A s.heap H locs) {a bn bd n : Nat} {fN : Nat → Option Nat} {aN : Nat → Nat} {dv : Nat → DC} {rv : Nat → RV} {x : Int32} {y : Int64} {fs9 : List Value} (he9 : g a = some (.inr (3, fs9))) (he : g a = some (cBr bn bd (nI n))) (ha : g bn = some (arQ t 5 200 fN)) (hn : n ≤ 200) (hN : ∀ i, i < n → fN i = some (aN i)) (hD : ∀ i, i < n → g (aN i) = some (cDv (dv i))) (hR0 : ∀ i, i < n → g (dv i).2.1 = some (cRu (rv i))) (hW : (rest.map fun v => v.category).sum ≤ 8) (hdg : decode cc pc = .ok (.invokevirtual 171, 3)) (kk : ∀ (r : Int64) (H1 : Heap) (locs1 : List Loc), r = sIn dv rv x y n → hw D vwCl A (g) H1 → va_S A s.heap H1 locs1 → W p l e R s m args below meth c H1 locs1 (cells + 0) (slots + 0) Q (F0 m (pc + 3) ls (.long r :: rest))) : W p l e R s m args below meth c H locs cells slots Q (F0 m pc ls (.long y :: .int x :: .ref a :: rest)) :=
  h_cl (runV (C := R_B) (T := F_B) (N := 3) X (c_B_interestOf l D t A g a bn bd n fN aN dv rv x y he ha hn hN hD hR0) (tbm 336 (by decide +kernel)) (tbm 337 (by decide +kernel)) (tbm 338 (by decide +kernel)) (tbm 21 (by decide +kernel)) (tbm 339 (by decide +kernel)) rfl (n := 2) (by decide +kernel) hR hf hP he9 hS hls rfl rfl hW hdg) hS (fun r u H1 locs1 hp hP1 hS1 => kk r H1 locs1 hp.1 (hp.2 ▸ hP1) hS1)
end
section
set_option maxHeartbeats 4000000 in
set_option maxRecDepth 100000 in
theorem lp_B_add_x {p : Program} {l : Launch} {e : Env} {s : State} {m : MethodId} {below : List Frame} {meth : Method} {c : Code} {D : va_G} {t : Nat → ClassId} {A : Nat → Prop} (G : hG) (a b bn bd n o : Nat) (fN fB : Nat → Option Nat) (aB : Nat → Nat) (db : Nat → DC) (so : Int32) (am dy : Int64) (vc : DC) (PO : Int32 → hG → Prop) (he : G a = some (cBr bn bd (nI n))) (hN0 : G bn = some (arQ t 5 200 fN)) (hB0 : G bd = some (arQ t 5 200 fB)) (hQ : G o = some (cDv vc)) (hne : bn ≠ bd) (hn : n < 200) (hB : ∀ i, i < n → fB i = some (aB i)) (hD : ∀ i, i < n → G (aB i) = some (cDv (db i))) (X : Cx p s m ([.ref a, .ref b, .int so, .long am, .long dy] : List Value).toArray meth c R_B b_B_add 9 (some .int) TB D vwCl (tyL t) EX A "add") (q : Nat) (H : Heap) (locs : List Loc) (ls : Array Slot) (hq : q ≤ n) (hPO : PO (nI (n + 1)) (va_up (va_up (va_up G bd (some (arQ t 5 200 (insF fB n q o)))) bn (some (arQ t 5 200 (va_up fN n (some o))))) a (some (cBr bn bd (nI (n + 1)))))) (hP : hw D vwCl A (va_up G bd (some (arQ t 5 200 (shf fB n q)))) H) (hS : va_S A s.heap H locs) (hl : lv_has ls 9 [(8, .int (nI q)), (7, .ref o), (0, .ref a), (1, .ref b), (2, .int so), (3, .long am), (5, .long dy)]) : W p l e ({ frames := 2, cells := 1, slots := 7, locals := 50 } : Room) s m ([.ref a, .ref b, .int so, .long am, .long dy] : List Value).toArray below meth c H locs 1 7 (MQ below (va_Qi (PO) (fun u v => hw D vwCl A u v.heap) A) ([.ref a, .ref b, .int so, .long am, .long dy] : List Value).toArray s 1 7 A) (F0 m 73 ls []) := by
  obtain ⟨hx, hb, hml, hr, hts, hown, hlocks, hK, hEs, hA, hnm⟩ := id X
  have heq := up_at (o := some (arQ t 5 200 (shf fB n q))) he (hw_kd he hB0 rfl)
  have hnq := up_at (o := some (arQ t 5 200 (shf fB n q))) hN0 hne
  have hoq := up_at (o := some (arQ t 5 200 (shf fB n q))) hQ (hw_kd hQ hB0 rfl)
  have hbq := va_up_self G bd (some (arQ t 5 200 (shf fB n q)))
  have hDq : ∀ i, i < n → va_up G bd (some (arQ t 5 200 (shf fB n q))) (aB i) = some (cDv (db i)) := fun i h => up_at (hD i h) (hw_kd (hD i h) hB0 rfl)
  refine lv_aload_n hx hb d_B_add_73 rfl (lv_at hl 2 rfl) ?_
  refine g_B_17 X hb hP heq rfl d_B_add_74 ?_
  refine lv_iload hx hb d_B_add_77 (lv_at hl 0 rfl) ?_
  refine lv_aload hx hb d_B_add_79 (lv_at hl 1 rfl) ?_
  refine n_aast X hb hP hS 5 2 hbq rfl hoq rfl ⟨by omega, by decide⟩ d_B_add_81 (fun H locs hP hS => ?_)
  have he_1 := up_at (o := some (arQ t 5 200 (va_up (shf fB n q) q (some o)))) heq (hw_kd heq hbq rfl)
  have he_2 := up_at (o := some (arQ t 5 200 (va_up (shf fB n q) q (some o)))) hnq (hne)
  have he_3 := up_at (o := some (arQ t 5 200 (va_up (shf fB n q) q (some o)))) hoq (hw_kd hoq hbq rfl)
  have he_4 := va_up_self (va_up G bd (some (arQ t 5 200 (shf fB n q)))) bd (some (arQ t 5 200 (va_up (shf fB n q) q (some o)) : va_E))
  have hP : hw D vwCl A (va_up (va_up G bd (some (arQ t 5 200 (shf fB n q)))) bd (some (arQ t 5 200 (va_up (shf fB n q) q (some o))))) H := hP
  refine lv_aload_n hx hb d_B_add_82 rfl (lv_at hl 2 rfl) ?_
  refine g_B_11 X hb hP he_1 rfl d_B_add_83 ?_
  refine lv_aload_n hx hb d_B_add_86 rfl (lv_at hl 2 rfl) ?_
  refine g_B_20 X hb hP he_1 rfl d_B_add_87 ?_
  refine lv_aload hx hb d_B_add_90 (lv_at hl 1 rfl) ?_
  refine n_aast X hb hP hS 5 2 he_2 rfl he_3 rfl ⟨by omega, by decide⟩ d_B_add_92 (fun H locs hP hS => ?_)
  have he_5 := up_at (o := some (arQ t 5 200 (va_up fN n (some o)))) he_1 (hw_kd he_1 he_2 rfl)
  have he_6 := up_at (o := some (arQ t 5 200 (va_up fN n (some o)))) he_3 (hw_kd he_3 he_2 rfl)
  have he_7 := up_at (o := some (arQ t 5 200 (va_up fN n (some o)))) he_4 (hne.symm)
  have he_8 := va_up_self (va_up (va_up G bd (some (arQ t 5 200 (shf fB n q)))) bd (some (arQ t 5 200 (va_up (shf fB n q) q (some o))))) bn (some (arQ t 5 200 (va_up fN n (some o)) : va_E))
  have hP : hw D vwCl A (va_up (va_up (va_up G bd (some (arQ t 5 200 (shf fB n q)))) bd (some (arQ t 5 200 (va_up (shf fB n q) q (some o))))) bn (some (arQ t 5 200 (va_up fN n (some o))))) H := hP
  refine lv_aload_n hx hb d_B_add_93 rfl (lv_at hl 2 rfl) ?_
  refine lv_dup hx hb d_B_add_94 rfl ?_
  refine g_B_20 X hb hP he_5 rfl d_B_add_95 ?_
  refine lv_iconst (v := 1) hx hb d_B_add_98 (by decide) ?_
  refine lv_iadd hx hb d_B_add_99 ?_
  refine lv_topi (fun x_9 ex_9 => ?_)
  refine p_B_20 X hb hP hS he_5 (Nat.le_of_ble_eq_true rfl) d_B_add_100 (fun H locs hP hS => ?_)
  have he_10 := up_at (o := some (.inr (3, [.ref bn, .ref bd, .int x_9]))) he_6 (hw_kd he_6 he_5 rfl)
  have he_11 := up_at (o := some (.inr (3, [.ref bn, .ref bd, .int x_9]))) he_7 (hw_kd he_7 he_5 rfl)
  have he_12 := up_at (o := some (.inr (3, [.ref bn, .ref bd, .int x_9]))) he_8 (hw_kd he_8 he_5 rfl)
  have he_13 := va_up_self (va_up (va_up (va_up G bd (some (arQ t 5 200 (shf fB n q)))) bd (some (arQ t 5 200 (va_up (shf fB n q) q (some o))))) bn (some (arQ t 5 200 (va_up fN n (some o))))) a (some (.inr (3, [.ref bn, .ref bd, .int x_9]) : va_E))
  have hP : hw D vwCl A (va_up (va_up (va_up (va_up G bd (some (arQ t 5 200 (shf fB n q)))) bd (some (arQ t 5 200 (va_up (shf fB n q) q (some o))))) bn (some (arQ t 5 200 (va_up fN n (some o))))) a (some (.inr (3, [.ref bn, .ref bd, .int x_9])))) H := hP
  refine lv_aload_n hx hb d_B_add_103 rfl (lv_at hl 2 rfl) ?_
  refine g_B_20 X hb hP he_13 rfl d_B_add_104 ?_
  exact h_iret hx hb hr hlocks (Nat.le_of_ble_eq_true rfl) (Nat.le_of_ble_eq_true rfl) hP hS (by rw [bx_uu, ex_9, nI_1]; exact hPO) d_B_add_107
set_option maxHeartbeats 4000000 in
set_option maxRecDepth 100000 in
theorem lp_B_add {p : Program} {l : Launch} {e : Env} {s : State} {m : MethodId} {below : List Frame} {meth : Method} {c : Code} {D : va_G} {t : Nat → ClassId} {A : Nat → Prop} (G : hG) (a b bn bd n o : Nat) (fN fB : Nat → Option Nat) (aB : Nat → Nat) (db : Nat → DC) (so : Int32) (am dy : Int64) (vc : DC) (PO : Int32 → hG → Prop) (he : G a = some (cBr bn bd (nI n))) (hN0 : G bn = some (arQ t 5 200 fN)) (hB0 : G bd = some (arQ t 5 200 fB)) (hQ : G o = some (cDv vc)) (hne : bn ≠ bd) (hn : n < 200) (hB : ∀ i, i < n → fB i = some (aB i)) (hD : ∀ i, i < n → G (aB i) = some (cDv (db i))) (X : Cx p s m ([.ref a, .ref b, .int so, .long am, .long dy] : List Value).toArray meth c R_B b_B_add 9 (some .int) TB D vwCl (tyL t) EX A "add") : ∀ (q : Nat) (H : Heap) (locs : List Loc) (ls : Array Slot) (hq : q ≤ n) (hPO : PO (nI (n + 1)) (va_up (va_up (va_up G bd (some (arQ t 5 200 (insF fB n (insP db dy q) o)))) bn (some (arQ t 5 200 (va_up fN n (some o))))) a (some (cBr bn bd (nI (n + 1)))))) (hP : hw D vwCl A (va_up G bd (some (arQ t 5 200 (shf fB n q)))) H) (hS : va_S A s.heap H locs) (hl : lv_has ls 9 [(8, .int (nI q)), (7, .ref o), (0, .ref a), (1, .ref b), (2, .int so), (3, .long am), (5, .long dy)]), W p l e ({ frames := 2, cells := 1, slots := 7, locals := 50 } : Room) s m ([.ref a, .ref b, .int so, .long am, .long dy] : List Value).toArray below meth c H locs 1 7 (MQ below (va_Qi (PO) (fun u v => hw D vwCl A u v.heap) A) ([.ref a, .ref b, .int so, .long am, .long dy] : List Value).toArray s 1 7 A) (F0 m 29 ls []) := by
  obtain ⟨hx, hb, hml, hr, hts, hown, hlocks, hK, hEs, hA, hnm⟩ := id X
  intro q
  induction q with
  | zero =>
    intro H locs ls hq hPO hP hS hl
    have heq := up_at (o := some (arQ t 5 200 (shf fB n 0))) he (hw_kd he hB0 rfl)
    have hnq := up_at (o := some (arQ t 5 200 (shf fB n 0))) hN0 hne
    have hoq := up_at (o := some (arQ t 5 200 (shf fB n 0))) hQ (hw_kd hQ hB0 rfl)
    have hbq := va_up_self G bd (some (arQ t 5 200 (shf fB n 0)))
    have hDq : ∀ i, i < n → va_up G bd (some (arQ t 5 200 (shf fB n 0))) (aB i) = some (cDv (db i)) := fun i h => up_at (hD i h) (hw_kd (hD i h) hB0 rfl)
    refine lv_iload hx hb d_B_add_29 (lv_at hl 0 rfl) ?_
    refine lv_if_le (tgt := 73) hx hb d_B_add_31 (by decide) (fun c_1 => ?_) (fun c_1 => ?_)
    · exact lp_B_add_x G a b bn bd n o fN fB aB db so am dy vc PO he hN0 hB0 hQ hne hn hB hD X 0 H locs ls hq hPO hP hS (lv_sub hl [0, 1, 2, 3, 4, 5, 6] rfl)
    · exact absurd (by decide) c_1
  | succ q ih =>
    intro H locs ls hq hPO hP hS hl
    have heq := up_at (o := some (arQ t 5 200 (shf fB n (q + 1)))) he (hw_kd he hB0 rfl)
    have hnq := up_at (o := some (arQ t 5 200 (shf fB n (q + 1)))) hN0 hne
    have hoq := up_at (o := some (arQ t 5 200 (shf fB n (q + 1)))) hQ (hw_kd hQ hB0 rfl)
    have hbq := va_up_self G bd (some (arQ t 5 200 (shf fB n (q + 1))))
    have hDq : ∀ i, i < n → va_up G bd (some (arQ t 5 200 (shf fB n (q + 1)))) (aB i) = some (cDv (db i)) := fun i h => up_at (hD i h) (hw_kd (hD i h) hB0 rfl)
    refine lv_iload hx hb d_B_add_29 (lv_at hl 0 rfl) ?_
    refine lv_if_le (tgt := 73) hx hb d_B_add_31 (by decide) (fun c_1 => ?_) (fun c_1 => ?_)
    · exact absurd c_1 (nI_nle (by omega) (by omega))
    · refine lv_aload_n hx hb d_B_add_34 rfl (lv_at hl 2 rfl) ?_
      refine g_B_17 X hb hP heq rfl d_B_add_35 ?_
      refine lv_iload hx hb d_B_add_38 (lv_at hl 0 rfl) ?_
      refine lv_iconst (v := 1) hx hb d_B_add_40 (by decide) ?_
      refine lv_isub hx hb d_B_add_41 ?_
      rw [nI_pred]
      refine n_aald X hb hP 5 hbq rfl ⟨by omega, by decide⟩ d_B_add_42 ?_
      refine lv_some (y := (aB q)) (by rw [shf_at (by omega)]; exact hB q (by omega)) ?_
      refine lv_lload hx hb d_B_add_43 (lv_at hl 6 rfl) ?_
      refine k_B_35 X ⟨Nat.le_of_ble_eq_true rfl, Nat.le_of_ble_eq_true rfl⟩ ⟨Nat.le_of_ble_eq_true rfl, Nat.le_of_ble_eq_true rfl⟩ hl.1 hP hS (hDq q (by omega)) (by exact Nat.le_of_ble_eq_true rfl) d_B_add_45 (fun r_2 H locs er_2 hP hS => ?_)
      refine lv_if_eq (tgt := 73) hx hb d_B_add_48 (by decide) (fun c_3 => ?_) (fun c_3 => ?_)
      · have t_2 := bi_0.mp (er_2 ▸ c_3)
        have hday : ¬ dy < (db q).2.2.2.2.1 := of_decide_eq_false (bi_0.mp (er_2 ▸ c_3))
        exact lp_B_add_x G a b bn bd n o fN fB aB db so am dy vc PO he hN0 hB0 hQ hne hn hB hD X (q + 1) H locs ls hq (by rw [insP, if_neg hday] at hPO; exact hPO) hP hS (lv_sub hl [0, 1, 2, 3, 4, 5, 6] rfl)
      · have t_2 := bi_n0.mp (er_2 ▸ c_3)
        have hday : dy < (db q).2.2.2.2.1 := of_decide_eq_true (bi_n0.mp (er_2 ▸ c_3))
        have hB9 : shf fB n (q + 1) q = some (aB q) := by rw [shf_at (by omega)]; exact hB q (by omega)
        refine lv_aload_n hx hb d_B_add_51 rfl (lv_at hl 2 rfl) ?_
        refine g_B_17 X hb hP heq rfl d_B_add_52 ?_
        refine lv_iload hx hb d_B_add_55 (lv_at hl 0 rfl) ?_
        refine lv_aload_n hx hb d_B_add_57 rfl (lv_at hl 2 rfl) ?_
        refine g_B_17 X hb hP heq rfl d_B_add_58 ?_
        refine lv_iload hx hb d_B_add_61 (lv_at hl 0 rfl) ?_
        refine lv_iconst (v := 1) hx hb d_B_add_63 (by decide) ?_
        refine lv_isub hx hb d_B_add_64 ?_
        rw [nI_pred]
        refine n_aald X hb hP 5 hbq rfl ⟨by omega, by decide⟩ d_B_add_65 ?_
        refine lv_some (y := (aB q)) hB9 ?_
        refine n_aast X hb hP hS 5 2 hbq rfl (hDq q (by omega)) rfl ⟨by omega, by decide⟩ d_B_add_66 (fun H locs hP hS => ?_)
        have he_4 := up_at (o := some (arQ t 5 200 (va_up (shf fB n (q + 1)) (q + 1) (some (aB q))))) heq (hw_kd heq hbq rfl)
        have he_5 := up_at (o := some (arQ t 5 200 (va_up (shf fB n (q + 1)) (q + 1) (some (aB q))))) hnq (hne)
        have he_6 := up_at (o := some (arQ t 5 200 (va_up (shf fB n (q + 1)) (q + 1) (some (aB q))))) hoq (hw_kd hoq hbq rfl)
        have he_7 := up_at (o := some (arQ t 5 200 (va_up (shf fB n (q + 1)) (q + 1) (some (aB q))))) (hDq q (by omega)) (hw_kd (hDq q (by omega)) hbq rfl)
        have he_8 := va_up_self (va_up G bd (some (arQ t 5 200 (shf fB n (q + 1))))) bd (some (arQ t 5 200 (va_up (shf fB n (q + 1)) (q + 1) (some (aB q))) : va_E))
        have hP : hw D vwCl A (va_up (va_up G bd (some (arQ t 5 200 (shf fB n (q + 1))))) bd (some (arQ t 5 200 (va_up (shf fB n (q + 1)) (q + 1) (some (aB q)))))) H := hP
        obtain ⟨x_9, ex_9⟩ : ∃ z : Int32, z = (nI (q + 1)) + (-1) := ⟨_, rfl⟩
        refine lv_iinc (v := x_9) (lv' := [(8, .int x_9), (7, .ref o), (0, .ref a), (1, .ref b), (2, .int so), (3, .long am), (5, .long dy)]) hx hb d_B_add_67 hl (k := 0) rfl (by rw [ex_9]; rfl) (by decide) rfl (fun ls hl => ?_)
        refine lv_goto (tgt := 29) hx hb d_B_add_70 (by decide) ?_
        obtain rfl : x_9 = nI q := by rw [ex_9]; exact pk_m1 q
        rw [bx_uu, ← hB9, shf_up fB n q hq] at hP
        exact ih H locs ls (by omega) (by rw [insP, if_pos hday] at hPO; exact hPO) hP hS (lv_sub hl [0, 1, 2, 3, 4, 5, 6] rfl)
theorem up_same {g : hG} {a : Nat} {x : va_E} (h : g a = some x) : va_up g a (some x) = g := by
  funext b
  by_cases e : b = a
  · subst e; rw [va_up_self, h]
  · rw [va_up_ne g _ e]
set_option maxRecDepth 100000 in
theorem c_B_add (l : Launch) (D : va_G) (t : Nat → ClassId) (A : Nat → Prop) (g : hG) (a b bn bd n : Nat) (fN fB : Nat → Option Nat) (aB : Nat → Nat) (db : Nat → DC) (it pn : Int32) (ra : Nat) (du : Int64) (lo : Option Nat) (en so : Int32) (am dy : Int64) (he : g a = some (cBr bn bd (nI n))) (hN0 : g bn = some (arQ t 5 200 fN)) (hB0 : g bd = some (arQ t 5 200 fB)) (hb0 : g b = some (cLo it pn ra du lo en)) (hne : bn ≠ bd) (hn : n < 200) (hB : ∀ i, i < n → fB i = some (aB i)) (hD : ∀ i, i < n → g (aB i) = some (cDv (db i))) : Met l y_B_add (Cond.code y_B_add b_B_add 9 (some .int) :: TB) ({ frames := 2, cells := 1, slots := 7, locals := 50 } : Room) (va_Pc [.ref a, .ref b, .int so, .long am, .long dy] (hI D vwCl (tyL t) EX A g)) (va_Qi (fun r u => r = nI (n + 1) ∧ ∃ o, g o = none ∧ u = bAdd t g a bn bd n fN fB (insP db dy n) o (cDe pn ra so am dy am 0)) (fun u v => hw D vwCl A u v.heap) A) 1 7 A := by
  refine Met.ofH (cc := b_B_add) (maxL := 9) (ret := (some .int)) (lv := [(0, .ref a), (1, .ref b), (2, .int so), (3, .long am), (5, .long dy)]) (by decide) (Nat.le_of_ble_eq_true rfl) rfl ?_
  intro p e s m below meth c ls X hP hS hl
  obtain ⟨hx, hb, hml, hr, hts, hown, hlocks, hK, hEs, hA, hnm⟩ := id X
  refine lv_aload_n hx hb d_B_add_0 rfl (lv_at hl 0 rfl) ?_
  refine k_B_28 X ⟨Nat.le_of_ble_eq_true rfl, Nat.le_of_ble_eq_true rfl⟩ ⟨Nat.le_of_ble_eq_true rfl, Nat.le_of_ble_eq_true rfl⟩ hl.1 hP hS he he (by omega) (by exact Nat.le_of_ble_eq_true rfl) d_B_add_1 (fun r_1 H locs er_1 hP hS => ?_)
  refine lv_if_eq (tgt := 9) hx hb d_B_add_4 (by decide) (fun c_2 => ?_) (fun c_2 => ?_)
  · have t_1 := bi_0.mp (er_1 ▸ c_2)
    refine nw_B_9 X hb hP hS ⟨Nat.le_of_ble_eq_true rfl, Nat.le_of_ble_eq_true rfl⟩ d_B_add_9 (fun q_3 H hq_3 hP hS => ?_)
    have he_4 := up_at (o := some (.inr (2, [.int 0, .null, .int 0, .long 0, .long 0, .long 0, .long 0]))) he (hw_new he hq_3)
    have he_5 := up_at (o := some (.inr (2, [.int 0, .null, .int 0, .long 0, .long 0, .long 0, .long 0]))) hB0 (hw_new hB0 hq_3)
    have he_6 := up_at (o := some (.inr (2, [.int 0, .null, .int 0, .long 0, .long 0, .long 0, .long 0]))) hN0 (hw_new hN0 hq_3)
    have he_7 := up_at (o := some (.inr (2, [.int 0, .null, .int 0, .long 0, .long 0, .long 0, .long 0]))) hb0 (hw_new hb0 hq_3)
    have he_8 := va_up_self g q_3 (some (.inr (2, [.int 0, .null, .int 0, .long 0, .long 0, .long 0, .long 0]) : va_E))
    have hP : hw D vwCl A (va_up g q_3 (some (.inr (2, [.int 0, .null, .int 0, .long 0, .long 0, .long 0, .long 0])))) H := hP
    refine lv_dup hx hb d_B_add_12 rfl ?_
    refine lv_aload_n hx hb d_B_add_13 rfl (lv_at hl 1 rfl) ?_
    refine lv_iload_n hx hb d_B_add_14 rfl (lv_at hl 2 rfl) ?_
    refine lv_lload_n hx hb d_B_add_15 rfl (lv_at hl 3 rfl) ?_
    refine lv_lload hx hb d_B_add_16 (lv_at hl 4 rfl) ?_
    refine k_B_32 X ⟨Nat.le_of_ble_eq_true rfl, Nat.le_of_ble_eq_true rfl⟩ ⟨Nat.le_of_ble_eq_true rfl, Nat.le_of_ble_eq_true rfl⟩ hl.1 hP hS he_8 he_7 (by exact Nat.le_of_ble_eq_true rfl) d_B_add_18 (fun H locs hP hS => ?_)
    rw [bx_uu] at hP
    refine lv_astore (lv' := [(7, .ref q_3), (0, .ref a), (1, .ref b), (2, .int so), (3, .long am), (5, .long dy)]) hx hb d_B_add_21 hl (by decide) rfl (fun ls hl => ?_)
    refine lv_aload_n hx hb d_B_add_23 rfl (lv_at hl 1 rfl) ?_
    refine g_B_20 X hb hP (up_at he (hw_new he hq_3)) rfl d_B_add_24 ?_
    refine lv_istore (lv' := [(8, .int (nI n)), (7, .ref q_3), (0, .ref a), (1, .ref b), (2, .int so), (3, .long am), (5, .long dy)]) hx hb d_B_add_27 hl (by decide) rfl (fun ls hl => ?_)
    have hP : hw D vwCl A (va_up (va_up g q_3 (some (cDe pn ra so am dy am 0))) bd (some (arQ t 5 200 (shf fB n n)))) H := by rw [shf_n, up_same (up_at hB0 (hw_new hB0 hq_3))]; exact hP
    exact lp_B_add (va_up g q_3 (some (cDe pn ra so am dy am 0))) a b bn bd n q_3 fN fB aB db so am dy (pn, ra, so, am, dy, am, 0) _ (up_at he (hw_new he hq_3)) (up_at hN0 (hw_new hN0 hq_3)) (up_at hB0 (hw_new hB0 hq_3)) (va_up_self g q_3 (some (cDe pn ra so am dy am 0))) hne hn hB (fun i h => up_at (hD i h) (hw_new (hD i h) hq_3)) X n H locs ls (Nat.le_refl n) ⟨rfl, q_3, hq_3, rfl⟩ hP hS (lv_sub hl [0, 1, 2, 3, 4, 5, 6] rfl)
  · have t_1 := bi_n0.mp (er_1 ▸ c_2)
    exact absurd (er_1.trans (by rw [show fullB n = false from decide_eq_false (by omega)]; rfl)) c_2
theorem k_F_121 {p : Program} {l : Launch} {e : Env} {R : Room} {s : State} {m : MethodId} {args : Array Value} {below : List Frame} {meth : Method} {c : Code} {H : Heap} {locs : List Loc} {cells slots : Nat} {Q : State → Prop} {cc : ByteArray} {pc : Nat} {ls : Array Slot} {rest : List Value} {D : va_G} {A : Nat → Prop} {t : Nat → ClassId} {g : hG} {nL : Nat} {ret0 : Option FieldType} {nm : String} (X : Cx p s m args meth c R_F cc nL ret0 TB D vwCl (tyL t) EX A nm) (hR : 2 + 1 ≤ R.frames ∧ 8 + (9 + 11) + 50 ≤ R.locals) (hf : cells + 1 ≤ R.cells ∧ slots + 7 ≤ R.slots) (hls : ls.size = nL) (hP : hw D vwCl A g H) (hS : va_S A s.heap H locs) {a b bn bd n : Nat} {fN fB : Nat → Option Nat} {aB : Nat → Nat} {db : Nat → DC} {it pn : Int32} {ra : Nat} {du : Int64} {lo : Option Nat} {en so : Int32} {am dy : Int64} {fs9 : List Value} (he9 : g a = some (.inr (3, fs9))) (he : g a = some (cBr bn bd (nI n))) (hN0 : g bn = some (arQ t 5 200 fN)) (hB0 : g bd = some (arQ t 5 200 fB)) (hb0 : g b = some (cLo it pn ra du lo en)) (hne : bn ≠ bd) (hn : n < 200) (hB : ∀ i, i < n → fB i = some (aB i)) (hD : ∀ i, i < n → g (aB i) = some (cDv (db i))) (hW : (rest.map fun v => v.category).sum ≤ 8) (hdg : decode cc pc = .ok (.invokevirtual 121, 3)) (kk : ∀ (r : Int32) (u : hG) (H1 : Heap) (locs1 : List Loc), ((fun r u => r = nI (n + 1) ∧ ∃ o, g o = none ∧ u = bAdd t g a bn bd n fN fB (insP db dy n) o (cDe pn ra so am dy am 0)) r u) → hw D vwCl A u H1 → va_S A s.heap H1 locs1 → W p l e R s m args below meth c H1 locs1 (cells + 1) (slots + 7) Q (F0 m (pc + 3) ls (.int r :: rest))) : W p l e R s m args below meth c H locs cells slots Q (F0 m pc ls (.long dy :: .long am :: .int so :: .ref b :: .ref a :: rest)) :=
  h_ci (runV (C := R_B) (T := F_B) (N := 3) X (c_B_add l D t A g a b bn bd n fN fB aB db it pn ra du lo en so am dy he hN0 hB0 hb0 hne hn hB hD) (tbm 244 (by decide +kernel)) (tbm 245 (by decide +kernel)) (tbm 246 (by decide +kernel)) (tbm 21 (by decide +kernel)) (tbm 247 (by decide +kernel)) rfl (n := 4) (by decide +kernel) hR hf hP he9 hS hls rfl rfl hW hdg) hS kk
end
section
abbrev LC : Type := Int32 × Int32 × Nat × Int64 × Option Nat × Int32
abbrev cLc (v : LC) : va_E := cLo v.1 v.2.1 v.2.2.1 v.2.2.2.1 v.2.2.2.2.1 v.2.2.2.2.2
def lnQ (aL : Nat → Nat) (lc : Nat → LC) (n : Nat) (x : Int32) : Option Nat := if wi x 1 (nI n) then (if lent (lc (x.toInt.toNat - 1)).2.2.2.2.1 (lc (x.toInt.toNat - 1)).2.2.2.2.2 then some (aL (x.toInt.toNat - 1)) else none) else none
theorem nI_k1 {k : Nat} (h : k < 1000000) : (nI (k + 1)).toInt.toNat - 1 = k := by rw [nI_toInt (by omega)]; omega
theorem nI_k0 {k : Nat} (h : k < 1000000) : (nI k).toInt.toNat = k := by rw [nI_toInt (by omega)]; omega
theorem lnQ_yes {aL : Nat → Nat} {lc : Nat → LC} {n k : Nat} (hn : n < 1000000) (h : k < n) (hl : lent (lc k).2.2.2.2.1 (lc k).2.2.2.2.2 = true) : lnQ aL lc n (nI (k + 1)) = some (aL k) := by
  rw [lnQ, if_pos (wi_num_of hn h), nI_k1 (by omega), if_pos hl]
theorem lnQ_not {aL : Nat → Nat} {lc : Nat → LC} {n k : Nat} (hn : n < 1000000) (h : k < n) (hl : lent (lc k).2.2.2.2.1 (lc k).2.2.2.2.2 = false) : lnQ aL lc n (nI (k + 1)) = none := by
  rw [lnQ, if_pos (wi_num_of hn h), nI_k1 (by omega), hl]; rfl
theorem lnQ_no {aL : Nat → Nat} {lc : Nat → LC} {n : Nat} {x : Int32} (h : wi x 1 (nI n) = false) : lnQ aL lc n x = none := by simp [lnQ, h]
theorem wi_pl {x : Int32} {n : Nat} {M : Int32} (hM : M = nI n) (hn : n < 1000000) (h : wi x 0 M = true) : ∃ k, k < n + 1 ∧ x = nI k := by
  subst hM
  obtain ⟨h1, h2⟩ := wi_iff.mp h
  have e0 : (0 : Int32).toInt = 0 := by decide
  rw [Int32.le_iff_toInt_le] at h1 h2
  rw [e0] at h1
  rw [nI_toInt (by omega)] at h2
  refine ⟨x.toInt.toNat, by omega, ?_⟩
  rw [← Int32.toInt_inj, nI_toInt (by omega)]
  omega
theorem wi_pl_of {k n : Nat} {M : Int32} (hM : M = nI n) (hn : n < 1000000) (h : k ≤ n) : wi (nI k) 0 M = true := by
  subst hM
  exact wi_t (nI_pos' (by omega)) (nI_le h (by omega))
def balJ (dv : Nat → DC) (n : Nat) (fK : Nat → Int64) (x : Int32) : Int64 := if wi x 0 29 then sLe dv x n - fK x.toInt.toNat else 0
theorem balJ_at {dv : Nat → DC} {n : Nat} {fK : Nat → Int64} {k : Nat} (h : k < 30) : balJ dv n fK (nI k) = sLe dv (nI k) n - fK k := by
  rw [balJ, if_pos (wi_pl_of (M := 29) (n := 29) rfl (by decide) (by omega)), nI_k0 (by omega)]
theorem balJ_no {dv : Nat → DC} {n : Nat} {fK : Nat → Int64} {x : Int32} (h : wi x 0 29 = false) : balJ dv n fK x = 0 := by simp [balJ, h]
end
section
set_option maxRecDepth 100000 in
theorem c_F_ruleNumbered (l : Launch) (D : va_G) (t : Nat → ClassId) (A : Nat → Prop) (g : hG) (a : Nat) (ra rn la ln ia dr cd cr : Nat) (bl : Int32) (fR : Nat → Option Nat) (x : Int32) (he : g a = some (cFi ra (nI rn) la (nI ln) ia dr cd cr bl)) (hr1 : g ra = some (arQ t 3 10 fR)) (hn : rn ≤ 10) : Met l y_F_ruleNumbered (Cond.code y_F_ruleNumbered b_F_ruleNumbered 2 (some (.object "FineRows$Rule")) :: TB) ({ frames := 1, cells := 0, slots := 0, locals := 22 } : Room) (va_Pc [.ref a, .int x] (hI D vwCl (tyL t) EX A g)) (va_Qq (fun r u => r = ordQ fR rn x ∧ u = g) (fun u v => hw D vwCl A u v.heap) A) 0 0 A := by
  refine Met.ofH (cc := b_F_ruleNumbered) (maxL := 2) (ret := (some (.object "FineRows$Rule"))) (lv := [(0, .ref a), (1, .int x)]) (by decide) (Nat.le_of_ble_eq_true rfl) rfl ?_
  intro p e s m below meth c ls X hP hS hl
  obtain ⟨hx, hb, hml, hr, hts, hown, hlocks, hK, hEs, hA, hnm⟩ := id X
  refine lv_iload_n hx hb d_F_ruleNumbered_0 rfl (lv_at hl 1 rfl) ?_
  refine lv_iconst (v := 0) hx hb d_F_ruleNumbered_1 (by decide) ?_
  refine lv_aload_n hx hb d_F_ruleNumbered_2 rfl (lv_at hl 0 rfl) ?_
  refine g_F_52 X hb hP he rfl d_F_ruleNumbered_3 ?_
  refine lv_iconst (v := 1) hx hb d_F_ruleNumbered_6 (by decide) ?_
  refine lv_isub hx hb d_F_ruleNumbered_7 ?_
  refine k_F_47 X ⟨Nat.le_of_ble_eq_true rfl, Nat.le_of_ble_eq_true rfl⟩ ⟨Nat.le_of_ble_eq_true rfl, Nat.le_of_ble_eq_true rfl⟩ hl.1 hP hS (by exact Nat.le_of_ble_eq_true rfl) d_F_ruleNumbered_8 (fun r_1 H locs er_1 hP hS => ?_)
  refine lv_if_eq (tgt := 23) hx hb d_F_ruleNumbered_11 (by decide) (fun c_2 => ?_) (fun c_2 => ?_)
  · have t_1 := bi_0.mp (er_1 ▸ c_2)
    refine lv_null hx hb d_F_ruleNumbered_23 ?_
    exact h_aret (r := none) hx hb hr hlocks (Nat.le_of_ble_eq_true rfl) (Nat.le_of_ble_eq_true rfl) hP hS (⟨(ordQ_no (bi_0.mp (er_1 ▸ c_2))).symm, rfl⟩) d_F_ruleNumbered_24
  · have t_1 := bi_n0.mp (er_1 ▸ c_2)
    obtain ⟨k, hk, rfl⟩ := wi_ord (by omega) (bi_n0.mp (er_1 ▸ c_2))
    refine lv_aload_n hx hb d_F_ruleNumbered_14 rfl (lv_at hl 0 rfl) ?_
    refine g_F_11 X hb hP he rfl d_F_ruleNumbered_15 ?_
    refine lv_iload_n hx hb d_F_ruleNumbered_18 rfl (lv_at hl 1 rfl) ?_
    refine n_aald X hb hP 3 hr1 rfl ⟨by omega, by decide⟩ d_F_ruleNumbered_19 ?_
    refine lv_goto (tgt := 24) hx hb d_F_ruleNumbered_20 (by decide) ?_
    exact h_aret (r := (fR k)) hx hb hr hlocks (Nat.le_of_ble_eq_true rfl) (Nat.le_of_ble_eq_true rfl) hP hS (⟨(ordQ_at (by omega) hk).symm, rfl⟩) d_F_ruleNumbered_24
theorem k_F_58 {p : Program} {l : Launch} {e : Env} {R : Room} {s : State} {m : MethodId} {args : Array Value} {below : List Frame} {meth : Method} {c : Code} {H : Heap} {locs : List Loc} {cells slots : Nat} {Q : State → Prop} {cc : ByteArray} {pc : Nat} {ls : Array Slot} {rest : List Value} {D : va_G} {A : Nat → Prop} {t : Nat → ClassId} {g : hG} {nL : Nat} {ret0 : Option FieldType} {nm : String} (X : Cx p s m args meth c R_F cc nL ret0 TB D vwCl (tyL t) EX A nm) (hR : 1 + 1 ≤ R.frames ∧ 8 + (2 + 11) + 22 ≤ R.locals) (hf : cells + 0 ≤ R.cells ∧ slots + 0 ≤ R.slots) (hls : ls.size = nL) (hP : hw D vwCl A g H) (hS : va_S A s.heap H locs) {a : Nat} {ra rn la ln ia dr cd cr : Nat} {bl : Int32} {fR : Nat → Option Nat} {x : Int32} {fs9 : List Value} (he9 : g a = some (.inr (0, fs9))) (he : g a = some (cFi ra (nI rn) la (nI ln) ia dr cd cr bl)) (hr1 : g ra = some (arQ t 3 10 fR)) (hn : rn ≤ 10) (hW : (rest.map fun v => v.category).sum ≤ 8) (hdg : decode cc pc = .ok (.invokevirtual 58, 3)) (kk : ∀ (r : Option Nat) (H1 : Heap) (locs1 : List Loc), r = ordQ fR rn x → hw D vwCl A (g) H1 → va_S A s.heap H1 locs1 → W p l e R s m args below meth c H1 locs1 (cells + 0) (slots + 0) Q (F0 m (pc + 3) ls (va_rf r :: rest))) : W p l e R s m args below meth c H locs cells slots Q (F0 m pc ls (.int x :: .ref a :: rest)) :=
  h_cq (runV (C := R_F) (T := F_F) (N := 9) X (c_F_ruleNumbered l D t A g a ra rn la ln ia dr cd cr bl fR x he hr1 hn) (tbm 158 (by decide +kernel)) (tbm 160 (by decide +kernel)) (tbm 1 (by decide +kernel)) (tbm 20 (by decide +kernel)) (tbm 161 (by decide +kernel)) rfl (n := 1) (by decide +kernel) hR hf hP he9 hS hls rfl rfl hW hdg) hS (fun r u H1 locs1 hp hP1 hS1 => kk r H1 locs1 hp.1 (hp.2 ▸ hP1) hS1)

set_option maxRecDepth 100000 in
theorem c_F_lentLoanNumbered (l : Launch) (D : va_G) (t : Nat → ClassId) (A : Nat → Prop) (g : hG) (a : Nat) (ra rn la ln ia dr cd cr : Nat) (bl : Int32) (fL : Nat → Option Nat) (aL : Nat → Nat) (lc : Nat → LC) (x : Int32) (he : g a = some (cFi ra (nI rn) la (nI ln) ia dr cd cr bl)) (hl1 : g la = some (arQ t 4 120 fL)) (hn : ln ≤ 120) (hL : ∀ i, i < ln → fL i = some (aL i)) (hLc : ∀ i, i < ln → g (aL i) = some (cLc (lc i))) : Met l y_F_lentLoanNumbered (Cond.code y_F_lentLoanNumbered b_F_lentLoanNumbered 3 (some (.object "FineRows$Loan")) :: TB) ({ frames := 1, cells := 0, slots := 0, locals := 22 } : Room) (va_Pc [.ref a, .int x] (hI D vwCl (tyL t) EX A g)) (va_Qq (fun r u => r = lnQ aL lc ln x ∧ u = g) (fun u v => hw D vwCl A u v.heap) A) 0 0 A := by
  refine Met.ofH (cc := b_F_lentLoanNumbered) (maxL := 3) (ret := (some (.object "FineRows$Loan"))) (lv := [(0, .ref a), (1, .int x)]) (by decide) (Nat.le_of_ble_eq_true rfl) rfl ?_
  intro p e s m below meth c ls X hP hS hl
  obtain ⟨hx, hb, hml, hr, hts, hown, hlocks, hK, hEs, hA, hnm⟩ := id X
  refine lv_iload_n hx hb d_F_lentLoanNumbered_0 rfl (lv_at hl 1 rfl) ?_
  refine lv_iconst (v := 1) hx hb d_F_lentLoanNumbered_1 (by decide) ?_
  refine lv_aload_n hx hb d_F_lentLoanNumbered_2 rfl (lv_at hl 0 rfl) ?_
  refine g_F_93 X hb hP he rfl d_F_lentLoanNumbered_3 ?_
  refine k_F_47 X ⟨Nat.le_of_ble_eq_true rfl, Nat.le_of_ble_eq_true rfl⟩ ⟨Nat.le_of_ble_eq_true rfl, Nat.le_of_ble_eq_true rfl⟩ hl.1 hP hS (by exact Nat.le_of_ble_eq_true rfl) d_F_lentLoanNumbered_6 (fun r_1 H locs er_1 hP hS => ?_)
  refine lv_if_ne (tgt := 14) hx hb d_F_lentLoanNumbered_9 (by decide) (fun c_2 => ?_) (fun c_2 => ?_)
  · have t_1 := bi_n0.mp (er_1 ▸ c_2)
    obtain ⟨k, hk, rfl⟩ := wi_num (by omega) (bi_n0.mp (er_1 ▸ c_2))
    refine lv_aload_n hx hb d_F_lentLoanNumbered_14 rfl (lv_at hl 0 rfl) ?_
    refine g_F_17 X hb hP he rfl d_F_lentLoanNumbered_15 ?_
    refine lv_iload_n hx hb d_F_lentLoanNumbered_18 rfl (lv_at hl 1 rfl) ?_
    refine lv_iconst (v := 1) hx hb d_F_lentLoanNumbered_19 (by decide) ?_
    refine lv_isub hx hb d_F_lentLoanNumbered_20 ?_
    rw [nI_pred]
    refine n_aald X hb hP 4 hl1 rfl ⟨by omega, by decide⟩ d_F_lentLoanNumbered_21 ?_
    refine lv_some (y := (aL k)) (hL k hk) ?_
    refine lv_astore_n (lv' := [(2, .ref (aL k)), (0, .ref a), (1, .int (nI (k + 1)))]) hx hb d_F_lentLoanNumbered_22 rfl hl (by decide) rfl (fun ls hl => ?_)
    refine lv_aload_n hx hb d_F_lentLoanNumbered_23 rfl (lv_at hl 0 rfl) ?_
    refine lv_ifnull hx hb d_F_lentLoanNumbered_24 ?_
    refine lv_aload_n hx hb d_F_lentLoanNumbered_27 rfl (lv_at hl 0 rfl) ?_
    refine k_F_192 X ⟨Nat.le_of_ble_eq_true rfl, Nat.le_of_ble_eq_true rfl⟩ ⟨Nat.le_of_ble_eq_true rfl, Nat.le_of_ble_eq_true rfl⟩ hl.1 hP hS (hLc k hk) (hLc k hk) (by exact Nat.le_of_ble_eq_true rfl) d_F_lentLoanNumbered_28 (fun r_3 H locs er_3 hP hS => ?_)
    refine lv_if_eq (tgt := 38) hx hb d_F_lentLoanNumbered_31 (by decide) (fun c_4 => ?_) (fun c_4 => ?_)
    · have t_3 := bi_0.mp (er_3 ▸ c_4)
      refine lv_null hx hb d_F_lentLoanNumbered_38 ?_
      exact h_aret (r := none) hx hb hr hlocks (Nat.le_of_ble_eq_true rfl) (Nat.le_of_ble_eq_true rfl) hP hS (⟨(lnQ_not (by omega) hk (bi_0.mp (er_3 ▸ c_4))).symm, rfl⟩) d_F_lentLoanNumbered_39
    · have t_3 := bi_n0.mp (er_3 ▸ c_4)
      refine lv_aload_n hx hb d_F_lentLoanNumbered_34 rfl (lv_at hl 0 rfl) ?_
      refine lv_goto (tgt := 39) hx hb d_F_lentLoanNumbered_35 (by decide) ?_
      exact h_aret (r := some (aL k)) hx hb hr hlocks (Nat.le_of_ble_eq_true rfl) (Nat.le_of_ble_eq_true rfl) hP hS (⟨(lnQ_yes (by omega) hk (bi_n0.mp (er_3 ▸ c_4))).symm, rfl⟩) d_F_lentLoanNumbered_39
  · have t_1 := bi_0.mp (er_1 ▸ c_2)
    refine lv_null hx hb d_F_lentLoanNumbered_12 ?_
    exact h_aret (r := none) hx hb hr hlocks (Nat.le_of_ble_eq_true rfl) (Nat.le_of_ble_eq_true rfl) hP hS (⟨(lnQ_no (bi_0.mp (er_1 ▸ c_2))).symm, rfl⟩) d_F_lentLoanNumbered_13
theorem k_F_99 {p : Program} {l : Launch} {e : Env} {R : Room} {s : State} {m : MethodId} {args : Array Value} {below : List Frame} {meth : Method} {c : Code} {H : Heap} {locs : List Loc} {cells slots : Nat} {Q : State → Prop} {cc : ByteArray} {pc : Nat} {ls : Array Slot} {rest : List Value} {D : va_G} {A : Nat → Prop} {t : Nat → ClassId} {g : hG} {nL : Nat} {ret0 : Option FieldType} {nm : String} (X : Cx p s m args meth c R_F cc nL ret0 TB D vwCl (tyL t) EX A nm) (hR : 1 + 1 ≤ R.frames ∧ 8 + (3 + 11) + 22 ≤ R.locals) (hf : cells + 0 ≤ R.cells ∧ slots + 0 ≤ R.slots) (hls : ls.size = nL) (hP : hw D vwCl A g H) (hS : va_S A s.heap H locs) {a : Nat} {ra rn la ln ia dr cd cr : Nat} {bl : Int32} {fL : Nat → Option Nat} {aL : Nat → Nat} {lc : Nat → LC} {x : Int32} {fs9 : List Value} (he9 : g a = some (.inr (0, fs9))) (he : g a = some (cFi ra (nI rn) la (nI ln) ia dr cd cr bl)) (hl1 : g la = some (arQ t 4 120 fL)) (hn : ln ≤ 120) (hL : ∀ i, i < ln → fL i = some (aL i)) (hLc : ∀ i, i < ln → g (aL i) = some (cLc (lc i))) (hW : (rest.map fun v => v.category).sum ≤ 8) (hdg : decode cc pc = .ok (.invokevirtual 99, 3)) (kk : ∀ (r : Option Nat) (H1 : Heap) (locs1 : List Loc), r = lnQ aL lc ln x → hw D vwCl A (g) H1 → va_S A s.heap H1 locs1 → W p l e R s m args below meth c H1 locs1 (cells + 0) (slots + 0) Q (F0 m (pc + 3) ls (va_rf r :: rest))) : W p l e R s m args below meth c H locs cells slots Q (F0 m pc ls (.int x :: .ref a :: rest)) :=
  h_cq (runV (C := R_F) (T := F_F) (N := 9) X (c_F_lentLoanNumbered l D t A g a ra rn la ln ia dr cd cr bl fL aL lc x he hl1 hn hL hLc) (tbm 204 (by decide +kernel)) (tbm 206 (by decide +kernel)) (tbm 2 (by decide +kernel)) (tbm 20 (by decide +kernel)) (tbm 207 (by decide +kernel)) rfl (n := 1) (by decide +kernel) hR hf hP he9 hS hls rfl rfl hW hdg) hS (fun r u H1 locs1 hp hP1 hS1 => kk r H1 locs1 hp.1 (hp.2 ▸ hP1) hS1)

set_option maxRecDepth 100000 in
theorem c_F_overdueCents (l : Launch) (D : va_G) (t : Nat → ClassId) (A : Nat → Prop) (g : hG) (a b : Nat) (ra rn la ln ia dr cd cr : Nat) (bl : Int32) (w : LC) (v : RV) (n ad : Nat) (f : Nat → Int64) (x : Int64) (he : g a = some (cFi ra (nI rn) la (nI ln) ia dr cd cr bl)) (hb0 : g b = some (cLc w)) (hr1 : g w.2.2.1 = some (cRu v)) (hc0 : g cd = some (cCl ad (nI n))) (ha : g ad = some (arJ t 100 f)) (hn : n ≤ 100) : Met l y_F_overdueCents (Cond.code y_F_overdueCents b_F_overdueCents 4 (some .long) :: TB) ({ frames := 2, cells := 0, slots := 0, locals := 50 } : Room) (va_Pc [.ref a, .ref b, .long x] (hI D vwCl (tyL t) EX A g)) (va_Ql (fun r u => r = rvCents v (opD f n w.2.2.2.1 x) ∧ u = g) (fun u v => hw D vwCl A u v.heap) A) 0 0 A := by
  refine Met.ofH (cc := b_F_overdueCents) (maxL := 4) (ret := (some .long)) (lv := [(0, .ref a), (1, .ref b), (2, .long x)]) (by decide) (Nat.le_of_ble_eq_true rfl) rfl ?_
  intro p e s m below meth c ls X hP hS hl
  obtain ⟨hx, hb, hml, hr, hts, hown, hlocks, hK, hEs, hA, hnm⟩ := id X
  refine lv_aload_n hx hb d_F_overdueCents_0 rfl (lv_at hl 1 rfl) ?_
  refine g_F_195 X hb hP hb0 rfl d_F_overdueCents_1 ?_
  refine lv_aload_n hx hb d_F_overdueCents_4 rfl (lv_at hl 0 rfl) ?_
  refine g_F_34 X hb hP he rfl d_F_overdueCents_5 ?_
  refine lv_aload_n hx hb d_F_overdueCents_8 rfl (lv_at hl 1 rfl) ?_
  refine g_F_199 X hb hP hb0 rfl d_F_overdueCents_9 ?_
  refine lv_lload_n hx hb d_F_overdueCents_12 rfl (lv_at hl 2 rfl) ?_
  refine k_F_202 X ⟨Nat.le_of_ble_eq_true rfl, Nat.le_of_ble_eq_true rfl⟩ ⟨Nat.le_of_ble_eq_true rfl, Nat.le_of_ble_eq_true rfl⟩ hl.1 hP hS hc0 hc0 ha hn (by exact Nat.le_of_ble_eq_true rfl) d_F_overdueCents_13 (fun r_1 H locs er_1 hP hS => ?_)
  refine k_F_205 X ⟨Nat.le_of_ble_eq_true rfl, Nat.le_of_ble_eq_true rfl⟩ ⟨Nat.le_of_ble_eq_true rfl, Nat.le_of_ble_eq_true rfl⟩ hl.1 hP hS hr1 hr1 (by exact Nat.le_of_ble_eq_true rfl) d_F_overdueCents_16 (fun r_2 H locs er_2 hP hS => ?_)
  exact h_lret hx hb hr hlocks (Nat.le_of_ble_eq_true rfl) (Nat.le_of_ble_eq_true rfl) hP hS (⟨by rw [er_2, er_1], rfl⟩) d_F_overdueCents_19
theorem k_F_105 {p : Program} {l : Launch} {e : Env} {R : Room} {s : State} {m : MethodId} {args : Array Value} {below : List Frame} {meth : Method} {c : Code} {H : Heap} {locs : List Loc} {cells slots : Nat} {Q : State → Prop} {cc : ByteArray} {pc : Nat} {ls : Array Slot} {rest : List Value} {D : va_G} {A : Nat → Prop} {t : Nat → ClassId} {g : hG} {nL : Nat} {ret0 : Option FieldType} {nm : String} (X : Cx p s m args meth c R_F cc nL ret0 TB D vwCl (tyL t) EX A nm) (hR : 2 + 1 ≤ R.frames ∧ 8 + (4 + 11) + 50 ≤ R.locals) (hf : cells + 0 ≤ R.cells ∧ slots + 0 ≤ R.slots) (hls : ls.size = nL) (hP : hw D vwCl A g H) (hS : va_S A s.heap H locs) {a b : Nat} {ra rn la ln ia dr cd cr : Nat} {bl : Int32} {w : LC} {v : RV} {n ad : Nat} {f : Nat → Int64} {x : Int64} {fs9 : List Value} (he9 : g a = some (.inr (0, fs9))) (he : g a = some (cFi ra (nI rn) la (nI ln) ia dr cd cr bl)) (hb0 : g b = some (cLc w)) (hr1 : g w.2.2.1 = some (cRu v)) (hc0 : g cd = some (cCl ad (nI n))) (ha : g ad = some (arJ t 100 f)) (hn : n ≤ 100) (hW : (rest.map fun v => v.category).sum ≤ 8) (hdg : decode cc pc = .ok (.invokevirtual 105, 3)) (kk : ∀ (r : Int64) (H1 : Heap) (locs1 : List Loc), r = rvCents v (opD f n w.2.2.2.1 x) → hw D vwCl A (g) H1 → va_S A s.heap H1 locs1 → W p l e R s m args below meth c H1 locs1 (cells + 0) (slots + 0) Q (F0 m (pc + 3) ls (.long r :: rest))) : W p l e R s m args below meth c H locs cells slots Q (F0 m pc ls (.long x :: .ref b :: .ref a :: rest)) :=
  h_cl (runV (C := R_F) (T := F_F) (N := 9) X (c_F_overdueCents l D t A g a b ra rn la ln ia dr cd cr bl w v n ad f x he hb0 hr1 hc0 ha hn) (tbm 213 (by decide +kernel)) (tbm 215 (by decide +kernel)) (tbm 3 (by decide +kernel)) (tbm 20 (by decide +kernel)) (tbm 216 (by decide +kernel)) rfl (n := 2) (by decide +kernel) hR hf hP he9 hS hls rfl rfl hW hdg) hS (fun r u H1 locs1 hp hP1 hS1 => kk r H1 locs1 hp.1 (hp.2 ▸ hP1) hS1)

set_option maxRecDepth 100000 in
theorem c_F_endLoan (l : Launch) (D : va_G) (t : Nat → ClassId) (A : Nat → Prop) (g : hG) (a b : Nat) (ra rn la ln ia dr cd cr : Nat) (bl : Int32) (i : Nat) (pn : Int32) (rl : Nat) (du : Int64) (lo : Option Nat) (en : Int32) (fI : Nat → Option Nat) (he : g a = some (cFi ra (nI rn) la (nI ln) ia dr cd cr bl)) (hb0 : g b = some (cLo (nI i) pn rl du lo en)) (hi1 : g ia = some (arQ t 4 60 fI)) (hi : i < 60) : Met l y_F_endLoan (Cond.code y_F_endLoan b_F_endLoan 2 none :: TB) ({ frames := 2, cells := 0, slots := 0, locals := 42 } : Room) (va_Pc [.ref a, .ref b] (hI D vwCl (tyL t) EX A g)) (va_Qv (fun u => u = va_up (va_up g b (some (cLo (nI i) pn rl du lo 1))) ia (some (arQ t 4 60 (va_up fI i none)))) (fun u v => hw D vwCl A u v.heap) A) 0 0 A := by
  refine Met.ofH (cc := b_F_endLoan) (maxL := 2) (ret := none) (lv := [(0, .ref a), (1, .ref b)]) (by decide) (Nat.le_of_ble_eq_true rfl) rfl ?_
  intro p e s m below meth c ls X hP hS hl
  obtain ⟨hx, hb, hml, hr, hts, hown, hlocks, hK, hEs, hA, hnm⟩ := id X
  refine lv_aload_n hx hb d_F_endLoan_0 rfl (lv_at hl 1 rfl) ?_
  refine lv_iconst (v := 1) hx hb d_F_endLoan_1 (by decide) ?_
  refine p_F_208 X hb hP hS hb0 (Nat.le_of_ble_eq_true rfl) rfl rfl d_F_endLoan_2 (fun H locs hP hS => ?_)
  have he_1 := up_at (o := some (.inr (4, [.int (nI i), .int pn, .ref rl, .long du, va_rf lo, .int 1]))) he (hw_kd he hb0 rfl)
  have he_2 := up_at (o := some (.inr (4, [.int (nI i), .int pn, .ref rl, .long du, va_rf lo, .int 1]))) hi1 (hw_kd hi1 hb0 rfl)
  have he_3 := va_up_self g b (some (.inr (4, [.int (nI i), .int pn, .ref rl, .long du, va_rf lo, .int 1]) : va_E))
  have hP : hw D vwCl A (va_up g b (some (.inr (4, [.int (nI i), .int pn, .ref rl, .long du, va_rf lo, .int 1])))) H := hP
  refine lv_aload_n hx hb d_F_endLoan_5 rfl (lv_at hl 1 rfl) ?_
  refine g_F_212 X hb hP he_3 rfl d_F_endLoan_6 ?_
  refine k_F_86 X ⟨Nat.le_of_ble_eq_true rfl, Nat.le_of_ble_eq_true rfl⟩ ⟨Nat.le_of_ble_eq_true rfl, Nat.le_of_ble_eq_true rfl⟩ hl.1 hP hS (by exact Nat.le_of_ble_eq_true rfl) d_F_endLoan_9 (fun r_4 H locs er_4 hP hS => ?_)
  refine lv_if_eq (tgt := 25) hx hb d_F_endLoan_12 (by decide) (fun c_5 => ?_) (fun c_5 => ?_)
  · have t_4 := bi_0.mp (er_4 ▸ c_5)
    exact absurd (er_4.symm.trans c_5) (by rw [wi_pl_of (M := 59) (n := 59) rfl (by decide) (by omega)]; decide)
  · have t_4 := bi_n0.mp (er_4 ▸ c_5)
    refine lv_aload_n hx hb d_F_endLoan_15 rfl (lv_at hl 0 rfl) ?_
    refine g_F_21 X hb hP he_1 rfl d_F_endLoan_16 ?_
    refine lv_aload_n hx hb d_F_endLoan_19 rfl (lv_at hl 1 rfl) ?_
    refine g_F_212 X hb hP he_3 rfl d_F_endLoan_20 ?_
    refine lv_null hx hb d_F_endLoan_23 ?_
    refine n_aastN X hb hP hS 4 he_2 rfl ⟨by omega, by decide⟩ d_F_endLoan_24 (fun H locs hP hS => ?_)
    have he_6 := up_at (o := some (arQ t 4 60 (va_up fI i none))) he_1 (hw_kd he_1 he_2 rfl)
    have he_7 := up_at (o := some (arQ t 4 60 (va_up fI i none))) he_3 (hw_kd he_3 he_2 rfl)
    have he_8 := va_up_self (va_up g b (some (.inr (4, [.int (nI i), .int pn, .ref rl, .long du, va_rf lo, .int 1])))) ia (some (arQ t 4 60 (va_up fI i none) : va_E))
    have hP : hw D vwCl A (va_up (va_up g b (some (.inr (4, [.int (nI i), .int pn, .ref rl, .long du, va_rf lo, .int 1])))) ia (some (arQ t 4 60 (va_up fI i none)))) H := hP
    exact h_vret hx hb hr hlocks (Nat.le_of_ble_eq_true rfl) (Nat.le_of_ble_eq_true rfl) hP hS (rfl) d_F_endLoan_25
theorem k_F_113 {p : Program} {l : Launch} {e : Env} {R : Room} {s : State} {m : MethodId} {args : Array Value} {below : List Frame} {meth : Method} {c : Code} {H : Heap} {locs : List Loc} {cells slots : Nat} {Q : State → Prop} {cc : ByteArray} {pc : Nat} {ls : Array Slot} {rest : List Value} {D : va_G} {A : Nat → Prop} {t : Nat → ClassId} {g : hG} {nL : Nat} {ret0 : Option FieldType} {nm : String} (X : Cx p s m args meth c R_F cc nL ret0 TB D vwCl (tyL t) EX A nm) (hR : 2 + 1 ≤ R.frames ∧ 8 + (2 + 11) + 42 ≤ R.locals) (hf : cells + 0 ≤ R.cells ∧ slots + 0 ≤ R.slots) (hls : ls.size = nL) (hP : hw D vwCl A g H) (hS : va_S A s.heap H locs) {a b : Nat} {ra rn la ln ia dr cd cr : Nat} {bl : Int32} {i : Nat} {pn : Int32} {rl : Nat} {du : Int64} {lo : Option Nat} {en : Int32} {fI : Nat → Option Nat} {fs9 : List Value} (he9 : g a = some (.inr (0, fs9))) (he : g a = some (cFi ra (nI rn) la (nI ln) ia dr cd cr bl)) (hb0 : g b = some (cLo (nI i) pn rl du lo en)) (hi1 : g ia = some (arQ t 4 60 fI)) (hi : i < 60) (hW : (rest.map fun v => v.category).sum ≤ 8) (hdg : decode cc pc = .ok (.invokevirtual 113, 3)) (kk : ∀ (H1 : Heap) (locs1 : List Loc), hw D vwCl A (va_up (va_up g b (some (cLo (nI i) pn rl du lo 1))) ia (some (arQ t 4 60 (va_up fI i none)))) H1 → va_S A s.heap H1 locs1 → W p l e R s m args below meth c H1 locs1 (cells + 0) (slots + 0) Q (F0 m (pc + 3) ls rest)) : W p l e R s m args below meth c H locs cells slots Q (F0 m pc ls (.ref b :: .ref a :: rest)) :=
  h_cv (runV (C := R_F) (T := F_F) (N := 9) X (c_F_endLoan l D t A g a b ra rn la ln ia dr cd cr bl i pn rl du lo en fI he hb0 hi1 hi) (tbm 236 (by decide +kernel)) (tbm 238 (by decide +kernel)) (tbm 4 (by decide +kernel)) (tbm 20 (by decide +kernel)) (tbm 239 (by decide +kernel)) rfl (n := 1) (by decide +kernel) hR hf hP he9 hS hls rfl rfl hW hdg) hS (fun u H1 locs1 hp hP1 hS1 => kk H1 locs1 (hp ▸ hP1) hS1)

set_option maxRecDepth 100000 in
theorem c_F_chargeOverdue (l : Launch) (D : va_G) (t : Nat → ClassId) (A : Nat → Prop) (g : hG) (a b : Nat) (ra rn la ln ia dr cd cr : Nat) (bl : Int32) (bn bd n : Nat) (fN fB : Nat → Option Nat) (aB : Nat → Nat) (db : Nat → DC) (it pn : Int32) (rl : Nat) (du : Int64) (lo : Option Nat) (en : Int32) (am dy : Int64) (he : g a = some (cFi ra (nI rn) la (nI ln) ia dr cd cr bl)) (hb0 : g b = some (cLo it pn rl du lo en)) (hd0 : g dr = some (cBr bn bd (nI n))) (hN0 : g bn = some (arQ t 5 200 fN)) (hB0 : g bd = some (arQ t 5 200 fB)) (hne : bn ≠ bd) (hn : n ≤ 200) (hB : ∀ i, i < n → fB i = some (aB i)) (hD : ∀ i, i < n → g (aB i) = some (cDv (db i))) (hfull : 0 < am → n < 200) : Met l y_F_chargeOverdue (Cond.code y_F_chargeOverdue b_F_chargeOverdue 6 (some .int) :: TB) ({ frames := 3, cells := 1, slots := 7, locals := 78 } : Room) (va_Pc [.ref a, .ref b, .long am, .long dy] (hI D vwCl (tyL t) EX A g)) (va_Qi (fun r u => (am ≤ 0 ∧ r = 0 ∧ u = g) ∨ (0 < am ∧ r = nI (n + 1) ∧ ∃ o, g o = none ∧ u = bAdd t g dr bn bd n fN fB (insP db dy n) o (cDe pn rl 0 am dy am 0))) (fun u v => hw D vwCl A u v.heap) A) 1 7 A := by
  refine Met.ofH (cc := b_F_chargeOverdue) (maxL := 6) (ret := (some .int)) (lv := [(0, .ref a), (1, .ref b), (2, .long am), (4, .long dy)]) (by decide) (Nat.le_of_ble_eq_true rfl) rfl ?_
  intro p e s m below meth c ls X hP hS hl
  obtain ⟨hx, hb, hml, hr, hts, hown, hlocks, hK, hEs, hA, hnm⟩ := id X
  refine lv_lload_n hx hb d_F_chargeOverdue_0 rfl (lv_at hl 2 rfl) ?_
  refine lv_lconst (v := 0) hx hb d_F_chargeOverdue_1 (by decide) ?_
  refine W.lcmp hx hb d_F_chargeOverdue_2 ?_
  refine lv_if_le (tgt := 21) hx hb d_F_chargeOverdue_3 (by decide) (fun c_1 => ?_) (fun c_1 => ?_)
  · rw [lg_cmp_le] at c_1
    refine lv_iconst (v := 0) hx hb d_F_chargeOverdue_21 (by decide) ?_
    exact h_iret hx hb hr hlocks (Nat.le_of_ble_eq_true rfl) (Nat.le_of_ble_eq_true rfl) hP hS (Or.inl ⟨c_1, rfl, rfl⟩) d_F_chargeOverdue_22
  · rw [lg_cmp_le] at c_1
    refine lv_aload_n hx hb d_F_chargeOverdue_6 rfl (lv_at hl 0 rfl) ?_
    refine g_F_27 X hb hP he rfl d_F_chargeOverdue_7 ?_
    refine lv_aload_n hx hb d_F_chargeOverdue_10 rfl (lv_at hl 1 rfl) ?_
    refine lv_iconst (v := 0) hx hb d_F_chargeOverdue_11 (by decide) ?_
    refine lv_lload_n hx hb d_F_chargeOverdue_12 rfl (lv_at hl 2 rfl) ?_
    refine lv_lload hx hb d_F_chargeOverdue_13 (lv_at hl 3 rfl) ?_
    refine k_F_121 X ⟨Nat.le_of_ble_eq_true rfl, Nat.le_of_ble_eq_true rfl⟩ ⟨Nat.le_of_ble_eq_true rfl, Nat.le_of_ble_eq_true rfl⟩ hl.1 hP hS hd0 hd0 hN0 hB0 hb0 hne (hfull (Int64.not_le.mp c_1)) hB hD (by exact Nat.le_of_ble_eq_true rfl) d_F_chargeOverdue_15 (fun r_2 u H locs hr_2 hP hS => ?_)
    refine lv_goto (tgt := 22) hx hb d_F_chargeOverdue_18 (by decide) ?_
    exact h_iret hx hb hr hlocks (Nat.le_of_ble_eq_true rfl) (Nat.le_of_ble_eq_true rfl) hP hS (Or.inr ⟨Int64.not_le.mp c_1, hr_2.1, hr_2.2⟩) d_F_chargeOverdue_22
theorem k_F_117 {p : Program} {l : Launch} {e : Env} {R : Room} {s : State} {m : MethodId} {args : Array Value} {below : List Frame} {meth : Method} {c : Code} {H : Heap} {locs : List Loc} {cells slots : Nat} {Q : State → Prop} {cc : ByteArray} {pc : Nat} {ls : Array Slot} {rest : List Value} {D : va_G} {A : Nat → Prop} {t : Nat → ClassId} {g : hG} {nL : Nat} {ret0 : Option FieldType} {nm : String} (X : Cx p s m args meth c R_F cc nL ret0 TB D vwCl (tyL t) EX A nm) (hR : 3 + 1 ≤ R.frames ∧ 8 + (6 + 11) + 78 ≤ R.locals) (hf : cells + 1 ≤ R.cells ∧ slots + 7 ≤ R.slots) (hls : ls.size = nL) (hP : hw D vwCl A g H) (hS : va_S A s.heap H locs) {a b : Nat} {ra rn la ln ia dr cd cr : Nat} {bl : Int32} {bn bd n : Nat} {fN fB : Nat → Option Nat} {aB : Nat → Nat} {db : Nat → DC} {it pn : Int32} {rl : Nat} {du : Int64} {lo : Option Nat} {en : Int32} {am dy : Int64} {fs9 : List Value} (he9 : g a = some (.inr (0, fs9))) (he : g a = some (cFi ra (nI rn) la (nI ln) ia dr cd cr bl)) (hb0 : g b = some (cLo it pn rl du lo en)) (hd0 : g dr = some (cBr bn bd (nI n))) (hN0 : g bn = some (arQ t 5 200 fN)) (hB0 : g bd = some (arQ t 5 200 fB)) (hne : bn ≠ bd) (hn : n ≤ 200) (hB : ∀ i, i < n → fB i = some (aB i)) (hD : ∀ i, i < n → g (aB i) = some (cDv (db i))) (hfull : 0 < am → n < 200) (hW : (rest.map fun v => v.category).sum ≤ 8) (hdg : decode cc pc = .ok (.invokevirtual 117, 3)) (kk : ∀ (r : Int32) (u : hG) (H1 : Heap) (locs1 : List Loc), ((fun r u => (am ≤ 0 ∧ r = 0 ∧ u = g) ∨ (0 < am ∧ r = nI (n + 1) ∧ ∃ o, g o = none ∧ u = bAdd t g dr bn bd n fN fB (insP db dy n) o (cDe pn rl 0 am dy am 0))) r u) → hw D vwCl A u H1 → va_S A s.heap H1 locs1 → W p l e R s m args below meth c H1 locs1 (cells + 1) (slots + 7) Q (F0 m (pc + 3) ls (.int r :: rest))) : W p l e R s m args below meth c H locs cells slots Q (F0 m pc ls (.long dy :: .long am :: .ref b :: .ref a :: rest)) :=
  h_ci (runV (C := R_F) (T := F_F) (N := 9) X (c_F_chargeOverdue l D t A g a b ra rn la ln ia dr cd cr bl bn bd n fN fB aB db it pn rl du lo en am dy he hb0 hd0 hN0 hB0 hne hn hB hD hfull) (tbm 240 (by decide +kernel)) (tbm 242 (by decide +kernel)) (tbm 5 (by decide +kernel)) (tbm 20 (by decide +kernel)) (tbm 243 (by decide +kernel)) rfl (n := 3) (by decide +kernel) hR hf hP he9 hS hls rfl rfl hW hdg) hS kk

set_option maxRecDepth 100000 in
theorem c_F_addCredit (l : Launch) (D : va_G) (t : Nat → ClassId) (A : Nat → Prop) (g : hG) (a : Nat) (ra rn la ln ia dr cd cr : Nat) (bl : Int32) (k : Nat) (y : Int64) (fK : Nat → Int64) (he : g a = some (cFi ra (nI rn) la (nI ln) ia dr cd cr bl)) (hk1 : g cr = some (arJ t 30 fK)) (hk : k < 30) : Met l y_F_addCredit (Cond.code y_F_addCredit b_F_addCredit 4 none :: TB) ({ frames := 2, cells := 0, slots := 0, locals := 42 } : Room) (va_Pc [.ref a, .int (nI k), .long y] (hI D vwCl (tyL t) EX A g)) (va_Qv (fun u => u = va_up g cr (some (arJ t 30 (va_up fK k (fK k + y))))) (fun u v => hw D vwCl A u v.heap) A) 0 0 A := by
  refine Met.ofH (cc := b_F_addCredit) (maxL := 4) (ret := none) (lv := [(0, .ref a), (1, .int (nI k)), (2, .long y)]) (by decide) (Nat.le_of_ble_eq_true rfl) rfl ?_
  intro p e s m below meth c ls X hP hS hl
  obtain ⟨hx, hb, hml, hr, hts, hown, hlocks, hK, hEs, hA, hnm⟩ := id X
  refine lv_iload_n hx hb d_F_addCredit_0 rfl (lv_at hl 1 rfl) ?_
  refine k_F_90 X ⟨Nat.le_of_ble_eq_true rfl, Nat.le_of_ble_eq_true rfl⟩ ⟨Nat.le_of_ble_eq_true rfl, Nat.le_of_ble_eq_true rfl⟩ hl.1 hP hS (by exact Nat.le_of_ble_eq_true rfl) d_F_addCredit_1 (fun r_1 H locs er_1 hP hS => ?_)
  refine lv_if_eq (tgt := 17) hx hb d_F_addCredit_4 (by decide) (fun c_2 => ?_) (fun c_2 => ?_)
  · have t_1 := bi_0.mp (er_1 ▸ c_2)
    exact absurd (er_1.symm.trans c_2) (by rw [wi_pl_of (M := 29) (n := 29) rfl (by decide) (by omega)]; decide)
  · have t_1 := bi_n0.mp (er_1 ▸ c_2)
    refine lv_aload_n hx hb d_F_addCredit_7 rfl (lv_at hl 0 rfl) ?_
    refine g_F_38 X hb hP he rfl d_F_addCredit_8 ?_
    refine lv_iload_n hx hb d_F_addCredit_11 rfl (lv_at hl 1 rfl) ?_
    refine lv_dup2_11 hx hb d_F_addCredit_12 rfl rfl ?_
    refine n_lald X hb hP hk1 ⟨by omega, by decide⟩ d_F_addCredit_13 ?_
    refine lv_lload_n hx hb d_F_addCredit_14 rfl (lv_at hl 2 rfl) ?_
    refine lv_ladd hx hb d_F_addCredit_15 ?_
    refine lv_topl (fun x_3 ex_3 => ?_)
    refine n_last X hb hP hS hk1 ⟨by omega, by decide⟩ d_F_addCredit_16 (fun H locs hP hS => ?_)
    have he_4 := up_at (o := some (arJ t 30 (va_up fK k x_3))) he (hw_kd he hk1 rfl)
    have he_5 := va_up_self g cr (some (arJ t 30 (va_up fK k x_3) : va_E))
    have hP : hw D vwCl A (va_up g cr (some (arJ t 30 (va_up fK k x_3)))) H := hP
    exact h_vret hx hb hr hlocks (Nat.le_of_ble_eq_true rfl) (Nat.le_of_ble_eq_true rfl) hP hS (by rw [ex_3]) d_F_addCredit_17
theorem k_F_144 {p : Program} {l : Launch} {e : Env} {R : Room} {s : State} {m : MethodId} {args : Array Value} {below : List Frame} {meth : Method} {c : Code} {H : Heap} {locs : List Loc} {cells slots : Nat} {Q : State → Prop} {cc : ByteArray} {pc : Nat} {ls : Array Slot} {rest : List Value} {D : va_G} {A : Nat → Prop} {t : Nat → ClassId} {g : hG} {nL : Nat} {ret0 : Option FieldType} {nm : String} (X : Cx p s m args meth c R_F cc nL ret0 TB D vwCl (tyL t) EX A nm) (hR : 2 + 1 ≤ R.frames ∧ 8 + (4 + 11) + 42 ≤ R.locals) (hf : cells + 0 ≤ R.cells ∧ slots + 0 ≤ R.slots) (hls : ls.size = nL) (hP : hw D vwCl A g H) (hS : va_S A s.heap H locs) {a : Nat} {ra rn la ln ia dr cd cr : Nat} {bl : Int32} {k : Nat} {y : Int64} {fK : Nat → Int64} {fs9 : List Value} (he9 : g a = some (.inr (0, fs9))) (he : g a = some (cFi ra (nI rn) la (nI ln) ia dr cd cr bl)) (hk1 : g cr = some (arJ t 30 fK)) (hk : k < 30) (hW : (rest.map fun v => v.category).sum ≤ 8) (hdg : decode cc pc = .ok (.invokevirtual 144, 3)) (kk : ∀ (H1 : Heap) (locs1 : List Loc), hw D vwCl A (va_up g cr (some (arJ t 30 (va_up fK k (fK k + y))))) H1 → va_S A s.heap H1 locs1 → W p l e R s m args below meth c H1 locs1 (cells + 0) (slots + 0) Q (F0 m (pc + 3) ls rest)) : W p l e R s m args below meth c H locs cells slots Q (F0 m pc ls (.long y :: .int (nI k) :: .ref a :: rest)) :=
  h_cv (runV (C := R_F) (T := F_F) (N := 9) X (c_F_addCredit l D t A g a ra rn la ln ia dr cd cr bl k y fK he hk1 hk) (tbm 301 (by decide +kernel)) (tbm 303 (by decide +kernel)) (tbm 6 (by decide +kernel)) (tbm 20 (by decide +kernel)) (tbm 304 (by decide +kernel)) rfl (n := 2) (by decide +kernel) hR hf hP he9 hS hls rfl rfl hW hdg) hS (fun u H1 locs1 hp hP1 hS1 => kk H1 locs1 (hp ▸ hP1) hS1)

set_option maxRecDepth 100000 in
theorem c_F_balance (l : Launch) (D : va_G) (t : Nat → ClassId) (A : Nat → Prop) (g : hG) (a : Nat) (ra rn la ln ia dr cd cr : Nat) (bl : Int32) (bn bd n : Nat) (fN : Nat → Option Nat) (aN : Nat → Nat) (dv : Nat → DC) (fK : Nat → Int64) (x : Int32) (he : g a = some (cFi ra (nI rn) la (nI ln) ia dr cd cr bl)) (hd0 : g dr = some (cBr bn bd (nI n))) (hN0 : g bn = some (arQ t 5 200 fN)) (hn : n ≤ 200) (hN : ∀ i, i < n → fN i = some (aN i)) (hD : ∀ i, i < n → g (aN i) = some (cDv (dv i))) (hk1 : g cr = some (arJ t 30 fK)) : Met l y_F_balance (Cond.code y_F_balance b_F_balance 2 (some .long) :: TB) ({ frames := 2, cells := 0, slots := 0, locals := 42 } : Room) (va_Pc [.ref a, .int x] (hI D vwCl (tyL t) EX A g)) (va_Ql (fun r u => r = balJ dv n fK x ∧ u = g) (fun u v => hw D vwCl A u v.heap) A) 0 0 A := by
  refine Met.ofH (cc := b_F_balance) (maxL := 2) (ret := (some .long)) (lv := [(0, .ref a), (1, .int x)]) (by decide) (Nat.le_of_ble_eq_true rfl) rfl ?_
  intro p e s m below meth c ls X hP hS hl
  obtain ⟨hx, hb, hml, hr, hts, hown, hlocks, hK, hEs, hA, hnm⟩ := id X
  refine lv_iload_n hx hb d_F_balance_0 rfl (lv_at hl 1 rfl) ?_
  refine k_F_90 X ⟨Nat.le_of_ble_eq_true rfl, Nat.le_of_ble_eq_true rfl⟩ ⟨Nat.le_of_ble_eq_true rfl, Nat.le_of_ble_eq_true rfl⟩ hl.1 hP hS (by exact Nat.le_of_ble_eq_true rfl) d_F_balance_1 (fun r_1 H locs er_1 hP hS => ?_)
  refine lv_if_eq (tgt := 25) hx hb d_F_balance_4 (by decide) (fun c_2 => ?_) (fun c_2 => ?_)
  · have t_1 := bi_0.mp (er_1 ▸ c_2)
    refine lv_lconst (v := 0) hx hb d_F_balance_25 (by decide) ?_
    exact h_lret hx hb hr hlocks (Nat.le_of_ble_eq_true rfl) (Nat.le_of_ble_eq_true rfl) hP hS (⟨(balJ_no (bi_0.mp (er_1 ▸ c_2))).symm, rfl⟩) d_F_balance_26
  · have t_1 := bi_n0.mp (er_1 ▸ c_2)
    obtain ⟨k, hk, rfl⟩ := wi_pl (M := 29) (n := 29) rfl (by decide) (bi_n0.mp (er_1 ▸ c_2))
    refine lv_aload_n hx hb d_F_balance_7 rfl (lv_at hl 0 rfl) ?_
    refine g_F_27 X hb hP he rfl d_F_balance_8 ?_
    refine lv_iload_n hx hb d_F_balance_11 rfl (lv_at hl 1 rfl) ?_
    refine k_F_175 X ⟨Nat.le_of_ble_eq_true rfl, Nat.le_of_ble_eq_true rfl⟩ ⟨Nat.le_of_ble_eq_true rfl, Nat.le_of_ble_eq_true rfl⟩ hl.1 hP hS hd0 hd0 hN0 hn hN hD (by exact Nat.le_of_ble_eq_true rfl) d_F_balance_12 (fun r_3 H locs er_3 hP hS => ?_)
    refine lv_aload_n hx hb d_F_balance_15 rfl (lv_at hl 0 rfl) ?_
    refine g_F_38 X hb hP he rfl d_F_balance_16 ?_
    refine lv_iload_n hx hb d_F_balance_19 rfl (lv_at hl 1 rfl) ?_
    refine n_lald X hb hP hk1 ⟨by omega, by decide⟩ d_F_balance_20 ?_
    refine lv_lsub hx hb d_F_balance_21 ?_
    refine lv_goto (tgt := 26) hx hb d_F_balance_22 (by decide) ?_
    exact h_lret hx hb hr hlocks (Nat.le_of_ble_eq_true rfl) (Nat.le_of_ble_eq_true rfl) hP hS (⟨by rw [er_3, balJ_at (by omega)], rfl⟩) d_F_balance_26
theorem k_F_159 {p : Program} {l : Launch} {e : Env} {R : Room} {s : State} {m : MethodId} {args : Array Value} {below : List Frame} {meth : Method} {c : Code} {H : Heap} {locs : List Loc} {cells slots : Nat} {Q : State → Prop} {cc : ByteArray} {pc : Nat} {ls : Array Slot} {rest : List Value} {D : va_G} {A : Nat → Prop} {t : Nat → ClassId} {g : hG} {nL : Nat} {ret0 : Option FieldType} {nm : String} (X : Cx p s m args meth c R_F cc nL ret0 TB D vwCl (tyL t) EX A nm) (hR : 2 + 1 ≤ R.frames ∧ 8 + (2 + 11) + 42 ≤ R.locals) (hf : cells + 0 ≤ R.cells ∧ slots + 0 ≤ R.slots) (hls : ls.size = nL) (hP : hw D vwCl A g H) (hS : va_S A s.heap H locs) {a : Nat} {ra rn la ln ia dr cd cr : Nat} {bl : Int32} {bn bd n : Nat} {fN : Nat → Option Nat} {aN : Nat → Nat} {dv : Nat → DC} {fK : Nat → Int64} {x : Int32} {fs9 : List Value} (he9 : g a = some (.inr (0, fs9))) (he : g a = some (cFi ra (nI rn) la (nI ln) ia dr cd cr bl)) (hd0 : g dr = some (cBr bn bd (nI n))) (hN0 : g bn = some (arQ t 5 200 fN)) (hn : n ≤ 200) (hN : ∀ i, i < n → fN i = some (aN i)) (hD : ∀ i, i < n → g (aN i) = some (cDv (dv i))) (hk1 : g cr = some (arJ t 30 fK)) (hW : (rest.map fun v => v.category).sum ≤ 8) (hdg : decode cc pc = .ok (.invokevirtual 159, 3)) (kk : ∀ (r : Int64) (H1 : Heap) (locs1 : List Loc), r = balJ dv n fK x → hw D vwCl A (g) H1 → va_S A s.heap H1 locs1 → W p l e R s m args below meth c H1 locs1 (cells + 0) (slots + 0) Q (F0 m (pc + 3) ls (.long r :: rest))) : W p l e R s m args below meth c H locs cells slots Q (F0 m pc ls (.int x :: .ref a :: rest)) :=
  h_cl (runV (C := R_F) (T := F_F) (N := 9) X (c_F_balance l D t A g a ra rn la ln ia dr cd cr bl bn bd n fN aN dv fK x he hd0 hN0 hn hN hD hk1) (tbm 327 (by decide +kernel)) (tbm 329 (by decide +kernel)) (tbm 7 (by decide +kernel)) (tbm 20 (by decide +kernel)) (tbm 330 (by decide +kernel)) rfl (n := 1) (by decide +kernel) hR hf hP he9 hS hls rfl rfl hW hdg) hS (fun r u H1 locs1 hp hP1 hS1 => kk r H1 locs1 hp.1 (hp.2 ▸ hP1) hS1)
end
section
/-! THE STATE, as both sides have it. A loan: item, person, rule, due, state (1 lent, 2 back, 3 lost), loss (0: none, else the debt's number). A debt: loan, amount, left, paid, sort, day. All places from 0 on. -/
abbrev LV : Type := Nat × Nat × Nat × Int64 × Nat × Nat
abbrev DV : Type := Nat × Nat × Nat × Nat × Int32 × Int64
abbrev SS : Type := (Nat × (Nat → RV)) × (Nat × (Nat → LV)) × (Nat × (Nat → DV) × (Nat → Nat)) × (Nat × (Nat → Int64)) × (Nat → Nat) × Int32 × (Nat → Option Nat)
abbrev sNR (σ : SS) : Nat := σ.1.1
abbrev sRV (σ : SS) : Nat → RV := σ.1.2
abbrev sNL (σ : SS) : Nat := σ.2.1.1
abbrev sLV (σ : SS) : Nat → LV := σ.2.1.2
abbrev sND (σ : SS) : Nat := σ.2.2.1.1
abbrev sDV (σ : SS) : Nat → DV := σ.2.2.1.2.1
abbrev sOD (σ : SS) : Nat → Nat := σ.2.2.1.2.2
abbrev sNC (σ : SS) : Nat := σ.2.2.2.1.1
abbrev sCD (σ : SS) : Nat → Int64 := σ.2.2.2.1.2
abbrev sKR (σ : SS) : Nat → Nat := σ.2.2.2.2.1
abbrev sTH (σ : SS) : Int32 := σ.2.2.2.2.2.1
abbrev sIT (σ : SS) : Nat → Option Nat := σ.2.2.2.2.2.2
def lcOf (aR aD : Nat → Nat) (v : LV) : LC := (nI v.1, nI v.2.1, aR v.2.2.1, v.2.2.2.1, (if v.2.2.2.2.2 = 0 then none else some (aD (v.2.2.2.2.2 - 1))), if v.2.2.2.2.1 = 2 then 1 else 0)
def dcOf (aR : Nat → Nat) (L : Nat → LV) (v : DV) : DC := (nI (L v.1).2.1, aR (L v.1).2.2.1, v.2.2.2.2.1, lN v.2.1, v.2.2.2.2.2, lN v.2.2.1, lN v.2.2.2.1)
def inj (f : Nat → Nat) (n : Nat) : Prop := ∀ i j, i < n → j < n → f i = f j → i = j
/-- what holds of the numbers -/
def Inv (σ : SS) : Prop :=
  (sNR σ ≤ 10 ∧ sNL σ ≤ 120 ∧ sND σ ≤ 200 ∧ sNC σ ≤ 100) ∧
  (∀ k, k < sNR σ → 0 ≤ (sRV σ k).1 ∧ (∃ q, q ≤ 10000000 ∧ (sRV σ k).2.1 = nI q) ∧ 0 ≤ (sRV σ k).2.2.1 ∧ 0 ≤ (sRV σ k).2.2.2.1 ∧ 0 ≤ (sRV σ k).2.2.2.2 ∧ ((sRV σ k).2.2.2.2 = 0 → (sRV σ k).2.2.2.1 = 0)) ∧
  (∀ k, k < sNL σ → (sLV σ k).1 < 60 ∧ (sLV σ k).2.1 < 30 ∧ (sLV σ k).2.2.1 < sNR σ ∧ (1 ≤ (sLV σ k).2.2.2.2.1 ∧ (sLV σ k).2.2.2.2.1 ≤ 3) ∧ (sLV σ k).2.2.2.2.2 ≤ sND σ ∧ ((sLV σ k).2.2.2.2.1 = 1 → (sLV σ k).2.2.2.2.2 = 0) ∧ ((sLV σ k).2.2.2.2.1 = 3 → 0 < (sLV σ k).2.2.2.2.2)) ∧
  (∀ k, k < sND σ → (sDV σ k).1 < sNL σ ∧ (sDV σ k).2.1 ≤ 10000000 ∧ (sDV σ k).2.2.1 + (sDV σ k).2.2.2.1 ≤ (sDV σ k).2.1) ∧
  (∀ i, i < 60 → ∀ k, sIT σ i = some k ↔ (k < sNL σ ∧ (sLV σ k).1 = i ∧ (sLV σ k).2.2.2.2.1 ≠ 2)) ∧
  ((∀ i, i < sND σ → sOD σ i < sND σ) ∧ (∀ d, d < sND σ → ∃ i, i < sND σ ∧ sOD σ i = d) ∧ ∀ i j, i < j → j < sND σ → (sDV σ (sOD σ i)).2.2.2.2.2 < (sDV σ (sOD σ j)).2.2.2.2.2 ∨ ((sDV σ (sOD σ i)).2.2.2.2.2 = (sDV σ (sOD σ j)).2.2.2.2.2 ∧ sOD σ i < sOD σ j))
/-- the class holds the state -/
def RC (F : Nat → Prop) (t : Nat → ClassId) (g : hG) (ad aR aL aD : Nat → Nat) (fR fL fI fN fB : Nat → Option Nat) (σ : SS) : Prop :=
  (g (ad 0) = some (cFi (ad 1) (nI (sNR σ)) (ad 2) (nI (sNL σ)) (ad 3) (ad 4) (ad 5) (ad 6) (sTH σ))) ∧
  (g (ad 1) = some (arQ t 3 10 fR) ∧ ∀ k, k < sNR σ → fR k = some (aR k)) ∧
  (g (ad 2) = some (arQ t 4 120 fL) ∧ ∀ k, k < sNL σ → fL k = some (aL k)) ∧
  (g (ad 3) = some (arQ t 4 60 fI) ∧ ∀ i, i < 60 → fI i = (sIT σ i).map aL) ∧
  (g (ad 4) = some (cBr (ad 7) (ad 8) (nI (sND σ)))) ∧
  (g (ad 5) = some (cCl (ad 9) (nI (sNC σ)))) ∧
  (g (ad 6) = some (arJ t 30 (fun i => lN (sKR σ i)))) ∧
  (g (ad 7) = some (arQ t 5 200 fN) ∧ ∀ k, k < sND σ → fN k = some (aD k)) ∧
  (g (ad 8) = some (arQ t 5 200 fB) ∧ ∀ k, k < sND σ → fB k = some (aD (sOD σ k))) ∧
  (g (ad 9) = some (arJ t 100 (sCD σ))) ∧
  (∀ k, k < sNR σ → g (aR k) = some (cRu (sRV σ k))) ∧
  (∀ k, k < sNL σ → g (aL k) = some (cLc (lcOf aR aD (sLV σ k)))) ∧
  (∀ k, k < sND σ → g (aD k) = some (cDv (dcOf aR (sLV σ) (sDV σ k)))) ∧
  ad 7 ≠ ad 8 ∧ (inj aR (sNR σ) ∧ inj aL (sNL σ) ∧ inj aD (sND σ)) ∧
  ((∀ i, i < 10 → F (ad i)) ∧ (∀ k, k < sNR σ → F (aR k)) ∧ (∀ k, k < sNL σ → F (aL k)) ∧ ∀ k, k < sND σ → F (aD k))
def RCx (F : Nat → Prop) (t : Nat → ClassId) (ad : Nat → Nat) (σ : SS) (g : hG) : Prop := ∃ aR aL aD fR fL fI fN fB, RC F t g ad aR aL aD fR fL fI fN fB σ
/-- what the class's cells may be, once cells were made -/
def gr (F : Nat → Prop) (g : hG) : Nat → Prop := fun a => F a ∨ g a = none
theorem RC.mono {F F' : Nat → Prop} {t : Nat → ClassId} {g : hG} {ad aR aL aD : Nat → Nat} {fR fL fI fN fB : Nat → Option Nat} {σ : SS} (h : RC F t g ad aR aL aD fR fL fI fN fB σ) (hF : ∀ a, F a → F' a) : RC F' t g ad aR aL aD fR fL fI fN fB σ := by
  obtain ⟨h0, h1, h2, h3, h4, h5, h6, h7, h8, h9, hR, hL, hD, h78, hi, f0, f1, f2, f3⟩ := h
  exact ⟨h0, h1, h2, h3, h4, h5, h6, h7, h8, h9, hR, hL, hD, h78, hi, fun i h => hF _ (f0 i h), fun i h => hF _ (f1 i h), fun i h => hF _ (f2 i h), fun i h => hF _ (f3 i h)⟩
theorem RCx.mono {F F' : Nat → Prop} {t : Nat → ClassId} {g : hG} {ad : Nat → Nat} {σ : SS} (h : RCx F t ad σ g) (hF : ∀ a, F a → F' a) : RCx F' t ad σ g := by
  obtain ⟨aR, aL, aD, fR, fL, fI, fN, fB, h⟩ := h
  exact ⟨aR, aL, aD, fR, fL, fI, fN, fB, h.mono hF⟩
/-- cells outside F may change -/
theorem RC.keep {F G : Nat → Prop} {t : Nat → ClassId} {g u : hG} {ad aR aL aD : Nat → Nat} {fR fL fI fN fB : Nat → Option Nat} {σ : SS} (h : RC F t g ad aR aL aD fR fL fI fN fB σ) (hk : Keep G g u) (hFG : ∀ a, F a → ¬ G a) : RC F t u ad aR aL aD fR fL fI fN fB σ := by
  obtain ⟨h0, ⟨h1, h1f⟩, ⟨h2, h2f⟩, ⟨h3, h3f⟩, h4, h5, h6, ⟨h7, h7f⟩, ⟨h8, h8f⟩, h9, hR, hL, hD, h78, hi, f0, f1, f2, f3⟩ := h
  have K : ∀ {a : Nat} {x : va_E}, F a → g a = some x → u a = some x := fun {a x} hF hg => by
    rw [hk a (hFG a hF) (by rw [hg]; exact fun q => by cases q)]; exact hg
  exact ⟨K (f0 0 (by decide)) h0, ⟨K (f0 1 (by decide)) h1, h1f⟩, ⟨K (f0 2 (by decide)) h2, h2f⟩, ⟨K (f0 3 (by decide)) h3, h3f⟩, K (f0 4 (by decide)) h4, K (f0 5 (by decide)) h5, K (f0 6 (by decide)) h6, ⟨K (f0 7 (by decide)) h7, h7f⟩, ⟨K (f0 8 (by decide)) h8, h8f⟩, K (f0 9 (by decide)) h9, fun k hk => K (f1 k hk) (hR k hk), fun k hk => K (f2 k hk) (hL k hk), fun k hk => K (f3 k hk) (hD k hk), h78, hi, f0, f1, f2, f3⟩
theorem up_map {α β : Type} (h : α → β) (f : Nat → α) (k : Nat) (v : α) : (fun i => h (va_up f k v i)) = va_up (fun i => h (f i)) k (h v) := by
  funext i
  by_cases e : i = k
  · subst e; simp [va_up]
  · simp [va_up, e]
end
section
theorem inj_up {f : Nat → Nat} {n q : Nat} (h : inj f n) (hq : ∀ k, k < n → f k ≠ q) : inj (va_up f n q) (n + 1) := by
  intro i j hi hj e
  by_cases h1 : i = n
  · by_cases h2 : j = n
    · omega
    · rw [h1, va_up_self, va_up_ne f q h2] at e
      exact absurd e.symm (hq j (by omega))
  · by_cases h2 : j = n
    · rw [h2, va_up_self, va_up_ne f q h1] at e
      exact absurd e (hq i (by omega))
    · rw [va_up_ne f q h1, va_up_ne f q h2] at e
      exact h i j (by omega) (by omega) e
theorem lc_aR {aR aD : Nat → Nat} {v : LV} {n q : Nat} (h : v.2.2.1 < n) : lcOf (va_up aR n q) aD v = lcOf aR aD v := by
  have : ¬ v.2.2.1 = n := by omega
  simp [lcOf, va_up, this]
theorem lc_aD {aR aD : Nat → Nat} {v : LV} {n q : Nat} (h : v.2.2.2.2.2 ≤ n) : lcOf aR (va_up aD n q) v = lcOf aR aD v := by
  by_cases h0 : v.2.2.2.2.2 = 0
  · simp [lcOf, h0]
  · have : ¬ v.2.2.2.2.2 - 1 = n := by omega
    simp [lcOf, va_up, this]
theorem dc_aR {aR : Nat → Nat} {L : Nat → LV} {v : DV} {n q : Nat} (h : (L v.1).2.2.1 < n) : dcOf (va_up aR n q) L v = dcOf aR L v := by
  have : ¬ (L v.1).2.2.1 = n := by omega
  simp [dcOf, va_up, this]
theorem dc_L {aR : Nat → Nat} {L L' : Nat → LV} {v : DV} (h : (L' v.1).2.1 = (L v.1).2.1 ∧ (L' v.1).2.2.1 = (L v.1).2.2.1) : dcOf aR L' v = dcOf aR L v := by
  simp [dcOf, h.1, h.2]
end
section
theorem lt_s1 {k n : Nat} (h : k < n + 1) (e : ¬ k = n) : k < n := by omega
theorem map_up {f : Nat → Nat} {o : Option Nat} {n q : Nat} (h : ∀ k, o = some k → k ≠ n) : o.map f = o.map (va_up f n q) := by
  cases o with
  | none => rfl
  | some k => simp [va_up, h k rfl]
theorem up_all {α : Type} {f : Nat → α} {n : Nat} {v : α} {aR : Nat → Nat} {q : Nat} {Pp : Nat → α → Prop} (h : ∀ k, k < n → Pp (aR k) (f k)) (hq : Pp q v) : ∀ k, k < n + 1 → Pp (va_up aR n q k) (va_up f n v k) := fun k hk => by
  by_cases e : k = n
  · subst e; rw [va_up_self, va_up_self]; exact hq
  · rw [va_up_ne aR _ e, va_up_ne f _ e]; exact h k (lt_s1 hk e)
theorem up_all1 {n : Nat} {aR : Nat → Nat} {q : Nat} {Pp : Nat → Prop} (h : ∀ k, k < n → Pp (aR k)) (hq : Pp q) : ∀ k, k < n + 1 → Pp (va_up aR n q k) := fun k hk => by
  by_cases e : k = n
  · subst e; rw [va_up_self]; exact hq
  · rw [va_up_ne aR _ e]; exact h k (lt_s1 hk e)
theorem it_up {fI it : Nat → Option Nat} {aL : Nat → Nat} {n q i : Nat} (h : ∀ j, j < 60 → fI j = (it j).map aL) (hn : ∀ j, j < 60 → ∀ k, it j = some k → k ≠ n) : ∀ j, j < 60 → va_up fI i (some q) j = (va_up it i (some n) j).map (va_up aL n q) := fun j hj => by
  by_cases e : j = i
  · subst e; rw [va_up_self, va_up_self]; simp [va_up_self]
  · rw [va_up_ne fI _ e, va_up_ne it _ e, h j hj]; exact map_up (hn j hj)
theorem it_no {fI it : Nat → Option Nat} {aL : Nat → Nat} {i : Nat} (h : ∀ j, j < 60 → fI j = (it j).map aL) : ∀ j, j < 60 → va_up fI i none j = (va_up it i none j).map aL := fun j hj => by
  by_cases e : j = i
  · subst e; rw [va_up_self, va_up_self]; rfl
  · rw [va_up_ne fI _ e, va_up_ne it _ e, h j hj]
theorem dc_up {aR : Nat → Nat} {L : Nat → LV} {k : Nat} {v : LV} {w : DV} (hv : v.2.1 = (L k).2.1 ∧ v.2.2.1 = (L k).2.2.1) : dcOf aR (va_up L k v) w = dcOf aR L w := by
  refine dc_L ?_
  by_cases e : w.1 = k
  · rw [e, va_up_self]; exact hv
  · rw [va_up_ne L v e]; exact ⟨rfl, rfl⟩
theorem dc_new {aR : Nat → Nat} {L : Nat → LV} {n : Nat} {v : LV} {w : DV} (h : w.1 < n) : dcOf aR (va_up L n v) w = dcOf aR L w := by
  refine dc_L ?_
  have hne : ¬ w.1 = n := by omega
  rw [va_up_ne L v hne]; exact ⟨rfl, rfl⟩
/-- the order with the new debt n at place p -/
def insO (od : Nat → Nat) (n p : Nat) : Nat → Nat := fun j => if j < p then od j else if j = p then n else od (j - 1)
theorem ins_ok {fB : Nat → Option Nat} {od aD : Nat → Nat} {n q pp : Nat} (h : ∀ k, k < n → fB k = some (aD (od k))) (ho : ∀ i, i < n → od i < n) (hpp : pp ≤ n) : ∀ k, k < n + 1 → insF fB n pp q k = some (va_up aD n q (insO od n pp k)) := fun k hk => by
  by_cases e : k = pp
  · subst e
    have h1 : ¬ k < k := by omega
    simp [insF, insO, va_up]
  · by_cases h1 : k < pp
    · have h2 : k ≤ pp := by omega
      have h3 : ¬ od k = n := by have := ho k (by omega); omega
      simp [insF, insO, va_up, shf, e, h1, h2, h3, h k (by omega)]
    · have h2 : ¬ k ≤ pp := by omega
      have h4 : k ≤ n := by omega
      have h3 : ¬ od (k - 1) = n := by have := ho (k - 1) (by omega); omega
      simp [insF, insO, va_up, shf, e, h1, h2, h4, h3, h (k - 1) (by omega)]
theorem RC.th {F : Nat → Prop} {t : Nat → ClassId} {g : hG} {ad aR aL aD : Nat → Nat} {fR fL fI fN fB : Nat → Option Nat} {σ : SS} (h : RC F t g ad aR aL aD fR fL fI fN fB σ) (x : Int32)  : RC F t (va_up g (ad 0) (some (cFi (ad 1) (nI (sNR σ)) (ad 2) (nI (sNL σ)) (ad 3) (ad 4) (ad 5) (ad 6) x))) ad aR aL aD fR fL fI fN fB ((σ.1, σ.2.1, σ.2.2.1, σ.2.2.2.1, σ.2.2.2.2.1, x, σ.2.2.2.2.2.2)) := by
  obtain ⟨h0, ⟨h1, h1f⟩, ⟨h2, h2f⟩, ⟨h3, h3f⟩, h4, h5, h6, ⟨h7, h7f⟩, ⟨h8, h8f⟩, h9, hR, hL, hD, h78, ⟨iR, iL, iD⟩, f0, f1, f2, f3⟩ := h
  have k0 : (va_up g (ad 0) (some (cFi (ad 1) (nI (sNR σ)) (ad 2) (nI (sNL σ)) (ad 3) (ad 4) (ad 5) (ad 6) x))) (ad 0) = _ := va_up_self g (ad 0) (some (cFi (ad 1) (nI (sNR σ)) (ad 2) (nI (sNL σ)) (ad 3) (ad 4) (ad 5) (ad 6) x : va_E))
  have k1 : (va_up g (ad 0) (some (cFi (ad 1) (nI (sNR σ)) (ad 2) (nI (sNL σ)) (ad 3) (ad 4) (ad 5) (ad 6) x))) (ad 1) = _ := up_at h1 (hw_kd h1 h0 rfl)
  have k2 : (va_up g (ad 0) (some (cFi (ad 1) (nI (sNR σ)) (ad 2) (nI (sNL σ)) (ad 3) (ad 4) (ad 5) (ad 6) x))) (ad 2) = _ := up_at h2 (hw_kd h2 h0 rfl)
  have k3 : (va_up g (ad 0) (some (cFi (ad 1) (nI (sNR σ)) (ad 2) (nI (sNL σ)) (ad 3) (ad 4) (ad 5) (ad 6) x))) (ad 3) = _ := up_at h3 (hw_kd h3 h0 rfl)
  have k4 : (va_up g (ad 0) (some (cFi (ad 1) (nI (sNR σ)) (ad 2) (nI (sNL σ)) (ad 3) (ad 4) (ad 5) (ad 6) x))) (ad 4) = _ := up_at h4 (hw_kd h4 h0 rfl)
  have k5 : (va_up g (ad 0) (some (cFi (ad 1) (nI (sNR σ)) (ad 2) (nI (sNL σ)) (ad 3) (ad 4) (ad 5) (ad 6) x))) (ad 5) = _ := up_at h5 (hw_kd h5 h0 rfl)
  have k6 : (va_up g (ad 0) (some (cFi (ad 1) (nI (sNR σ)) (ad 2) (nI (sNL σ)) (ad 3) (ad 4) (ad 5) (ad 6) x))) (ad 6) = _ := up_at h6 (hw_kd h6 h0 rfl)
  have k7 : (va_up g (ad 0) (some (cFi (ad 1) (nI (sNR σ)) (ad 2) (nI (sNL σ)) (ad 3) (ad 4) (ad 5) (ad 6) x))) (ad 7) = _ := up_at h7 (hw_kd h7 h0 rfl)
  have k8 : (va_up g (ad 0) (some (cFi (ad 1) (nI (sNR σ)) (ad 2) (nI (sNL σ)) (ad 3) (ad 4) (ad 5) (ad 6) x))) (ad 8) = _ := up_at h8 (hw_kd h8 h0 rfl)
  have k9 : (va_up g (ad 0) (some (cFi (ad 1) (nI (sNR σ)) (ad 2) (nI (sNL σ)) (ad 3) (ad 4) (ad 5) (ad 6) x))) (ad 9) = _ := up_at h9 (hw_kd h9 h0 rfl)
  have kR : ∀ z, z < sNR σ → (va_up g (ad 0) (some (cFi (ad 1) (nI (sNR σ)) (ad 2) (nI (sNL σ)) (ad 3) (ad 4) (ad 5) (ad 6) x))) (aR z) = some (cRu (sRV σ z)) := fun z hz => up_at (hR z hz) (hw_kd (hR z hz) h0 rfl)
  have kL : ∀ z, z < sNL σ → (va_up g (ad 0) (some (cFi (ad 1) (nI (sNR σ)) (ad 2) (nI (sNL σ)) (ad 3) (ad 4) (ad 5) (ad 6) x))) (aL z) = some (cLc (lcOf aR aD (sLV σ z))) := fun z hz => up_at (hL z hz) (hw_kd (hL z hz) h0 rfl)
  have kD : ∀ z, z < sND σ → (va_up g (ad 0) (some (cFi (ad 1) (nI (sNR σ)) (ad 2) (nI (sNL σ)) (ad 3) (ad 4) (ad 5) (ad 6) x))) (aD z) = some (cDv (dcOf aR (sLV σ) (sDV σ z))) := fun z hz => up_at (hD z hz) (hw_kd (hD z hz) h0 rfl)
  refine ⟨k0, ⟨k1, h1f⟩, ⟨k2, h2f⟩, ⟨k3, h3f⟩, k4, k5, k6, ⟨k7, h7f⟩, ⟨k8, h8f⟩, k9, kR, kL, kD, h78, ⟨iR, iL, iD⟩, f0, f1, f2, f3⟩
theorem RC.closed {F : Nat → Prop} {t : Nat → ClassId} {g : hG} {ad aR aL aD : Nat → Nat} {fR fL fI fN fB : Nat → Option Nat} {σ : SS} (h : RC F t g ad aR aL aD fR fL fI fN fB σ) (x : Int64)  : RC F t (va_up (va_up g (ad 9) (some (arJ t 100 (va_up (sCD σ) (sNC σ) x)))) (ad 5) (some (cCl (ad 9) (nI (sNC σ + 1))))) ad aR aL aD fR fL fI fN fB ((σ.1, σ.2.1, σ.2.2.1, (sNC σ + 1, va_up (sCD σ) (sNC σ) x), σ.2.2.2.2)) := by
  obtain ⟨h0, ⟨h1, h1f⟩, ⟨h2, h2f⟩, ⟨h3, h3f⟩, h4, h5, h6, ⟨h7, h7f⟩, ⟨h8, h8f⟩, h9, hR, hL, hD, h78, ⟨iR, iL, iD⟩, f0, f1, f2, f3⟩ := h
  have k0 : (va_up (va_up g (ad 9) (some (arJ t 100 (va_up (sCD σ) (sNC σ) x)))) (ad 5) (some (cCl (ad 9) (nI (sNC σ + 1))))) (ad 0) = _ := up_at (up_at h0 (hw_kd h0 h9 rfl)) (hw_kd h0 h5 rfl)
  have k1 : (va_up (va_up g (ad 9) (some (arJ t 100 (va_up (sCD σ) (sNC σ) x)))) (ad 5) (some (cCl (ad 9) (nI (sNC σ + 1))))) (ad 1) = _ := up_at (up_at h1 (hw_kd h1 h9 rfl)) (hw_kd h1 h5 rfl)
  have k2 : (va_up (va_up g (ad 9) (some (arJ t 100 (va_up (sCD σ) (sNC σ) x)))) (ad 5) (some (cCl (ad 9) (nI (sNC σ + 1))))) (ad 2) = _ := up_at (up_at h2 (hw_kd h2 h9 rfl)) (hw_kd h2 h5 rfl)
  have k3 : (va_up (va_up g (ad 9) (some (arJ t 100 (va_up (sCD σ) (sNC σ) x)))) (ad 5) (some (cCl (ad 9) (nI (sNC σ + 1))))) (ad 3) = _ := up_at (up_at h3 (hw_kd h3 h9 rfl)) (hw_kd h3 h5 rfl)
  have k4 : (va_up (va_up g (ad 9) (some (arJ t 100 (va_up (sCD σ) (sNC σ) x)))) (ad 5) (some (cCl (ad 9) (nI (sNC σ + 1))))) (ad 4) = _ := up_at (up_at h4 (hw_kd h4 h9 rfl)) (hw_kd h4 h5 rfl)
  have k5 : (va_up (va_up g (ad 9) (some (arJ t 100 (va_up (sCD σ) (sNC σ) x)))) (ad 5) (some (cCl (ad 9) (nI (sNC σ + 1))))) (ad 5) = _ := va_up_self (va_up g (ad 9) (some (arJ t 100 (va_up (sCD σ) (sNC σ) x)))) (ad 5) (some (cCl (ad 9) (nI (sNC σ + 1)) : va_E))
  have k6 : (va_up (va_up g (ad 9) (some (arJ t 100 (va_up (sCD σ) (sNC σ) x)))) (ad 5) (some (cCl (ad 9) (nI (sNC σ + 1))))) (ad 6) = _ := up_at (up_at h6 (hw_kd h6 h9 rfl)) (hw_kd h6 h5 rfl)
  have k7 : (va_up (va_up g (ad 9) (some (arJ t 100 (va_up (sCD σ) (sNC σ) x)))) (ad 5) (some (cCl (ad 9) (nI (sNC σ + 1))))) (ad 7) = _ := up_at (up_at h7 (hw_kd h7 h9 rfl)) (hw_kd h7 h5 rfl)
  have k8 : (va_up (va_up g (ad 9) (some (arJ t 100 (va_up (sCD σ) (sNC σ) x)))) (ad 5) (some (cCl (ad 9) (nI (sNC σ + 1))))) (ad 8) = _ := up_at (up_at h8 (hw_kd h8 h9 rfl)) (hw_kd h8 h5 rfl)
  have k9 : (va_up (va_up g (ad 9) (some (arJ t 100 (va_up (sCD σ) (sNC σ) x)))) (ad 5) (some (cCl (ad 9) (nI (sNC σ + 1))))) (ad 9) = _ := up_at (va_up_self g (ad 9) (some (arJ t 100 (va_up (sCD σ) (sNC σ) x) : va_E))) (hw_kd h9 h5 rfl)
  have kR : ∀ z, z < sNR σ → (va_up (va_up g (ad 9) (some (arJ t 100 (va_up (sCD σ) (sNC σ) x)))) (ad 5) (some (cCl (ad 9) (nI (sNC σ + 1))))) (aR z) = some (cRu (sRV σ z)) := fun z hz => up_at (up_at (hR z hz) (hw_kd (hR z hz) h9 rfl)) (hw_kd (hR z hz) h5 rfl)
  have kL : ∀ z, z < sNL σ → (va_up (va_up g (ad 9) (some (arJ t 100 (va_up (sCD σ) (sNC σ) x)))) (ad 5) (some (cCl (ad 9) (nI (sNC σ + 1))))) (aL z) = some (cLc (lcOf aR aD (sLV σ z))) := fun z hz => up_at (up_at (hL z hz) (hw_kd (hL z hz) h9 rfl)) (hw_kd (hL z hz) h5 rfl)
  have kD : ∀ z, z < sND σ → (va_up (va_up g (ad 9) (some (arJ t 100 (va_up (sCD σ) (sNC σ) x)))) (ad 5) (some (cCl (ad 9) (nI (sNC σ + 1))))) (aD z) = some (cDv (dcOf aR (sLV σ) (sDV σ z))) := fun z hz => up_at (up_at (hD z hz) (hw_kd (hD z hz) h9 rfl)) (hw_kd (hD z hz) h5 rfl)
  refine ⟨k0, ⟨k1, h1f⟩, ⟨k2, h2f⟩, ⟨k3, h3f⟩, k4, k5, k6, ⟨k7, h7f⟩, ⟨k8, h8f⟩, k9, kR, kL, kD, h78, ⟨iR, iL, iD⟩, f0, f1, f2, f3⟩
theorem RC.credit {F : Nat → Prop} {t : Nat → ClassId} {g : hG} {ad aR aL aD : Nat → Nat} {fR fL fI fN fB : Nat → Option Nat} {σ : SS} (h : RC F t g ad aR aL aD fR fL fI fN fB σ) (k v : Nat)  : RC F t (va_up g (ad 6) (some (arJ t 30 (va_up (fun i => lN (sKR σ i)) k (lN v))))) ad aR aL aD fR fL fI fN fB ((σ.1, σ.2.1, σ.2.2.1, σ.2.2.2.1, va_up (sKR σ) k v, σ.2.2.2.2.2)) := by
  obtain ⟨h0, ⟨h1, h1f⟩, ⟨h2, h2f⟩, ⟨h3, h3f⟩, h4, h5, h6, ⟨h7, h7f⟩, ⟨h8, h8f⟩, h9, hR, hL, hD, h78, ⟨iR, iL, iD⟩, f0, f1, f2, f3⟩ := h
  have k0 : (va_up g (ad 6) (some (arJ t 30 (va_up (fun i => lN (sKR σ i)) k (lN v))))) (ad 0) = _ := up_at h0 (hw_kd h0 h6 rfl)
  have k1 : (va_up g (ad 6) (some (arJ t 30 (va_up (fun i => lN (sKR σ i)) k (lN v))))) (ad 1) = _ := up_at h1 (hw_kd h1 h6 rfl)
  have k2 : (va_up g (ad 6) (some (arJ t 30 (va_up (fun i => lN (sKR σ i)) k (lN v))))) (ad 2) = _ := up_at h2 (hw_kd h2 h6 rfl)
  have k3 : (va_up g (ad 6) (some (arJ t 30 (va_up (fun i => lN (sKR σ i)) k (lN v))))) (ad 3) = _ := up_at h3 (hw_kd h3 h6 rfl)
  have k4 : (va_up g (ad 6) (some (arJ t 30 (va_up (fun i => lN (sKR σ i)) k (lN v))))) (ad 4) = _ := up_at h4 (hw_kd h4 h6 rfl)
  have k5 : (va_up g (ad 6) (some (arJ t 30 (va_up (fun i => lN (sKR σ i)) k (lN v))))) (ad 5) = _ := up_at h5 (hw_kd h5 h6 rfl)
  have k6 : (va_up g (ad 6) (some (arJ t 30 (va_up (fun i => lN (sKR σ i)) k (lN v))))) (ad 6) = _ := va_up_self g (ad 6) (some (arJ t 30 (va_up (fun i => lN (sKR σ i)) k (lN v)) : va_E))
  have k7 : (va_up g (ad 6) (some (arJ t 30 (va_up (fun i => lN (sKR σ i)) k (lN v))))) (ad 7) = _ := up_at h7 (hw_kd h7 h6 rfl)
  have k8 : (va_up g (ad 6) (some (arJ t 30 (va_up (fun i => lN (sKR σ i)) k (lN v))))) (ad 8) = _ := up_at h8 (hw_kd h8 h6 rfl)
  have k9 : (va_up g (ad 6) (some (arJ t 30 (va_up (fun i => lN (sKR σ i)) k (lN v))))) (ad 9) = _ := up_at h9 (hw_kd h9 h6 rfl)
  have kR : ∀ z, z < sNR σ → (va_up g (ad 6) (some (arJ t 30 (va_up (fun i => lN (sKR σ i)) k (lN v))))) (aR z) = some (cRu (sRV σ z)) := fun z hz => up_at (hR z hz) (hw_kd (hR z hz) h6 rfl)
  have kL : ∀ z, z < sNL σ → (va_up g (ad 6) (some (arJ t 30 (va_up (fun i => lN (sKR σ i)) k (lN v))))) (aL z) = some (cLc (lcOf aR aD (sLV σ z))) := fun z hz => up_at (hL z hz) (hw_kd (hL z hz) h6 rfl)
  have kD : ∀ z, z < sND σ → (va_up g (ad 6) (some (arJ t 30 (va_up (fun i => lN (sKR σ i)) k (lN v))))) (aD z) = some (cDv (dcOf aR (sLV σ) (sDV σ z))) := fun z hz => up_at (hD z hz) (hw_kd (hD z hz) h6 rfl)
  refine ⟨k0, ⟨k1, h1f⟩, ⟨k2, h2f⟩, ⟨k3, h3f⟩, k4, k5, by rw [k6]; exact congrArg (fun z => some (arJ t 30 z)) (up_map lN (sKR σ) k v).symm, ⟨k7, h7f⟩, ⟨k8, h8f⟩, k9, kR, kL, kD, h78, ⟨iR, iL, iD⟩, f0, f1, f2, f3⟩
theorem RC.rule {F : Nat → Prop} {t : Nat → ClassId} {g : hG} {ad aR aL aD : Nat → Nat} {fR fL fI fN fB : Nat → Option Nat} {σ : SS} (h : RC F t g ad aR aL aD fR fL fI fN fB σ) (k : Nat) (v : RV) (hk : k < sNR σ) : RC F t (va_up g (aR k) (some (cRu v))) ad aR aL aD fR fL fI fN fB (((sNR σ, va_up (sRV σ) k v), σ.2)) := by
  obtain ⟨h0, ⟨h1, h1f⟩, ⟨h2, h2f⟩, ⟨h3, h3f⟩, h4, h5, h6, ⟨h7, h7f⟩, ⟨h8, h8f⟩, h9, hR, hL, hD, h78, ⟨iR, iL, iD⟩, f0, f1, f2, f3⟩ := h
  have k0 : (va_up g (aR k) (some (cRu v))) (ad 0) = _ := up_at h0 (hw_kd h0 (hR k hk) rfl)
  have k1 : (va_up g (aR k) (some (cRu v))) (ad 1) = _ := up_at h1 (hw_kd h1 (hR k hk) rfl)
  have k2 : (va_up g (aR k) (some (cRu v))) (ad 2) = _ := up_at h2 (hw_kd h2 (hR k hk) rfl)
  have k3 : (va_up g (aR k) (some (cRu v))) (ad 3) = _ := up_at h3 (hw_kd h3 (hR k hk) rfl)
  have k4 : (va_up g (aR k) (some (cRu v))) (ad 4) = _ := up_at h4 (hw_kd h4 (hR k hk) rfl)
  have k5 : (va_up g (aR k) (some (cRu v))) (ad 5) = _ := up_at h5 (hw_kd h5 (hR k hk) rfl)
  have k6 : (va_up g (aR k) (some (cRu v))) (ad 6) = _ := up_at h6 (hw_kd h6 (hR k hk) rfl)
  have k7 : (va_up g (aR k) (some (cRu v))) (ad 7) = _ := up_at h7 (hw_kd h7 (hR k hk) rfl)
  have k8 : (va_up g (aR k) (some (cRu v))) (ad 8) = _ := up_at h8 (hw_kd h8 (hR k hk) rfl)
  have k9 : (va_up g (aR k) (some (cRu v))) (ad 9) = _ := up_at h9 (hw_kd h9 (hR k hk) rfl)
  have kR : ∀ j, j < sNR σ → (va_up g (aR k) (some (cRu v))) (aR j) = some (cRu (va_up (sRV σ) k v j)) := fun j hj => by
    by_cases e : j = k
    · subst e; rw [va_up_self, va_up_self]
    · rw [va_up_ne (sRV σ) v e]; exact up_at (hR j hj) (fun q => e (iR j k hj hk q))
  have kL : ∀ z, z < sNL σ → (va_up g (aR k) (some (cRu v))) (aL z) = some (cLc (lcOf aR aD (sLV σ z))) := fun z hz => up_at (hL z hz) (hw_kd (hL z hz) (hR k hk) rfl)
  have kD : ∀ z, z < sND σ → (va_up g (aR k) (some (cRu v))) (aD z) = some (cDv (dcOf aR (sLV σ) (sDV σ z))) := fun z hz => up_at (hD z hz) (hw_kd (hD z hz) (hR k hk) rfl)
  refine ⟨k0, ⟨k1, h1f⟩, ⟨k2, h2f⟩, ⟨k3, h3f⟩, k4, k5, k6, ⟨k7, h7f⟩, ⟨k8, h8f⟩, k9, kR, kL, kD, h78, ⟨iR, iL, iD⟩, f0, f1, f2, f3⟩
theorem RC.ruleNew {F : Nat → Prop} {t : Nat → ClassId} {g : hG} {ad aR aL aD : Nat → Nat} {fR fL fI fN fB : Nat → Option Nat} {σ : SS} (h : RC F t g ad aR aL aD fR fL fI fN fB σ) (q : Nat) (v : RV) (hq : g q = none) (hI : Inv σ) : RC (gr F g) t (va_up (va_up (va_up g q (some (cRu v))) (ad 1) (some (arQ t 3 10 (va_up fR (sNR σ) (some q))))) (ad 0) (some (cFi (ad 1) (nI (sNR σ + 1)) (ad 2) (nI (sNL σ)) (ad 3) (ad 4) (ad 5) (ad 6) (sTH σ)))) ad (va_up aR (sNR σ) q) aL aD (va_up fR (sNR σ) (some q)) fL fI fN fB (((sNR σ + 1, va_up (sRV σ) (sNR σ) v), σ.2)) := by
  obtain ⟨h0, ⟨h1, h1f⟩, ⟨h2, h2f⟩, ⟨h3, h3f⟩, h4, h5, h6, ⟨h7, h7f⟩, ⟨h8, h8f⟩, h9, hR, hL, hD, h78, ⟨iR, iL, iD⟩, f0, f1, f2, f3⟩ := h
  have kq := up_at (o := some (cFi (ad 1) (nI (sNR σ + 1)) (ad 2) (nI (sNL σ)) (ad 3) (ad 4) (ad 5) (ad 6) (sTH σ))) (up_at (o := some (arQ t 3 10 (va_up fR (sNR σ) (some q)))) (va_up_self g q (some (cRu v))) (hw_new h1 hq).symm) (hw_new h0 hq).symm
  have k0 : (va_up (va_up (va_up g q (some (cRu v))) (ad 1) (some (arQ t 3 10 (va_up fR (sNR σ) (some q))))) (ad 0) (some (cFi (ad 1) (nI (sNR σ + 1)) (ad 2) (nI (sNL σ)) (ad 3) (ad 4) (ad 5) (ad 6) (sTH σ)))) (ad 0) = _ := va_up_self (va_up (va_up g q (some (cRu v))) (ad 1) (some (arQ t 3 10 (va_up fR (sNR σ) (some q))))) (ad 0) (some (cFi (ad 1) (nI (sNR σ + 1)) (ad 2) (nI (sNL σ)) (ad 3) (ad 4) (ad 5) (ad 6) (sTH σ) : va_E))
  have k1 : (va_up (va_up (va_up g q (some (cRu v))) (ad 1) (some (arQ t 3 10 (va_up fR (sNR σ) (some q))))) (ad 0) (some (cFi (ad 1) (nI (sNR σ + 1)) (ad 2) (nI (sNL σ)) (ad 3) (ad 4) (ad 5) (ad 6) (sTH σ)))) (ad 1) = _ := up_at (va_up_self (va_up g q (some (cRu v))) (ad 1) (some (arQ t 3 10 (va_up fR (sNR σ) (some q)) : va_E))) (hw_kd h1 h0 rfl)
  have k2 : (va_up (va_up (va_up g q (some (cRu v))) (ad 1) (some (arQ t 3 10 (va_up fR (sNR σ) (some q))))) (ad 0) (some (cFi (ad 1) (nI (sNR σ + 1)) (ad 2) (nI (sNL σ)) (ad 3) (ad 4) (ad 5) (ad 6) (sTH σ)))) (ad 2) = _ := up_at (up_at (up_at h2 (hw_new h2 hq)) (hw_kd h2 h1 rfl)) (hw_kd h2 h0 rfl)
  have k3 : (va_up (va_up (va_up g q (some (cRu v))) (ad 1) (some (arQ t 3 10 (va_up fR (sNR σ) (some q))))) (ad 0) (some (cFi (ad 1) (nI (sNR σ + 1)) (ad 2) (nI (sNL σ)) (ad 3) (ad 4) (ad 5) (ad 6) (sTH σ)))) (ad 3) = _ := up_at (up_at (up_at h3 (hw_new h3 hq)) (hw_kd h3 h1 rfl)) (hw_kd h3 h0 rfl)
  have k4 : (va_up (va_up (va_up g q (some (cRu v))) (ad 1) (some (arQ t 3 10 (va_up fR (sNR σ) (some q))))) (ad 0) (some (cFi (ad 1) (nI (sNR σ + 1)) (ad 2) (nI (sNL σ)) (ad 3) (ad 4) (ad 5) (ad 6) (sTH σ)))) (ad 4) = _ := up_at (up_at (up_at h4 (hw_new h4 hq)) (hw_kd h4 h1 rfl)) (hw_kd h4 h0 rfl)
  have k5 : (va_up (va_up (va_up g q (some (cRu v))) (ad 1) (some (arQ t 3 10 (va_up fR (sNR σ) (some q))))) (ad 0) (some (cFi (ad 1) (nI (sNR σ + 1)) (ad 2) (nI (sNL σ)) (ad 3) (ad 4) (ad 5) (ad 6) (sTH σ)))) (ad 5) = _ := up_at (up_at (up_at h5 (hw_new h5 hq)) (hw_kd h5 h1 rfl)) (hw_kd h5 h0 rfl)
  have k6 : (va_up (va_up (va_up g q (some (cRu v))) (ad 1) (some (arQ t 3 10 (va_up fR (sNR σ) (some q))))) (ad 0) (some (cFi (ad 1) (nI (sNR σ + 1)) (ad 2) (nI (sNL σ)) (ad 3) (ad 4) (ad 5) (ad 6) (sTH σ)))) (ad 6) = _ := up_at (up_at (up_at h6 (hw_new h6 hq)) (hw_kd h6 h1 rfl)) (hw_kd h6 h0 rfl)
  have k7 : (va_up (va_up (va_up g q (some (cRu v))) (ad 1) (some (arQ t 3 10 (va_up fR (sNR σ) (some q))))) (ad 0) (some (cFi (ad 1) (nI (sNR σ + 1)) (ad 2) (nI (sNL σ)) (ad 3) (ad 4) (ad 5) (ad 6) (sTH σ)))) (ad 7) = _ := up_at (up_at (up_at h7 (hw_new h7 hq)) (hw_kd h7 h1 rfl)) (hw_kd h7 h0 rfl)
  have k8 : (va_up (va_up (va_up g q (some (cRu v))) (ad 1) (some (arQ t 3 10 (va_up fR (sNR σ) (some q))))) (ad 0) (some (cFi (ad 1) (nI (sNR σ + 1)) (ad 2) (nI (sNL σ)) (ad 3) (ad 4) (ad 5) (ad 6) (sTH σ)))) (ad 8) = _ := up_at (up_at (up_at h8 (hw_new h8 hq)) (hw_kd h8 h1 rfl)) (hw_kd h8 h0 rfl)
  have k9 : (va_up (va_up (va_up g q (some (cRu v))) (ad 1) (some (arQ t 3 10 (va_up fR (sNR σ) (some q))))) (ad 0) (some (cFi (ad 1) (nI (sNR σ + 1)) (ad 2) (nI (sNL σ)) (ad 3) (ad 4) (ad 5) (ad 6) (sTH σ)))) (ad 9) = _ := up_at (up_at (up_at h9 (hw_new h9 hq)) (hw_kd h9 h1 rfl)) (hw_kd h9 h0 rfl)
  have kR : ∀ z, z < sNR σ → (va_up (va_up (va_up g q (some (cRu v))) (ad 1) (some (arQ t 3 10 (va_up fR (sNR σ) (some q))))) (ad 0) (some (cFi (ad 1) (nI (sNR σ + 1)) (ad 2) (nI (sNL σ)) (ad 3) (ad 4) (ad 5) (ad 6) (sTH σ)))) (aR z) = some (cRu (sRV σ z)) := fun z hz => up_at (up_at (up_at (hR z hz) (hw_new (hR z hz) hq)) (hw_kd (hR z hz) h1 rfl)) (hw_kd (hR z hz) h0 rfl)
  have kL : ∀ z, z < sNL σ → (va_up (va_up (va_up g q (some (cRu v))) (ad 1) (some (arQ t 3 10 (va_up fR (sNR σ) (some q))))) (ad 0) (some (cFi (ad 1) (nI (sNR σ + 1)) (ad 2) (nI (sNL σ)) (ad 3) (ad 4) (ad 5) (ad 6) (sTH σ)))) (aL z) = some (cLc (lcOf aR aD (sLV σ z))) := fun z hz => up_at (up_at (up_at (hL z hz) (hw_new (hL z hz) hq)) (hw_kd (hL z hz) h1 rfl)) (hw_kd (hL z hz) h0 rfl)
  have kD : ∀ z, z < sND σ → (va_up (va_up (va_up g q (some (cRu v))) (ad 1) (some (arQ t 3 10 (va_up fR (sNR σ) (some q))))) (ad 0) (some (cFi (ad 1) (nI (sNR σ + 1)) (ad 2) (nI (sNL σ)) (ad 3) (ad 4) (ad 5) (ad 6) (sTH σ)))) (aD z) = some (cDv (dcOf aR (sLV σ) (sDV σ z))) := fun z hz => up_at (up_at (up_at (hD z hz) (hw_new (hD z hz) hq)) (hw_kd (hD z hz) h1 rfl)) (hw_kd (hD z hz) h0 rfl)
  refine ⟨k0, ⟨k1, up_all (Pp := fun a x => x = some a) h1f rfl⟩, ⟨k2, h2f⟩, ⟨k3, h3f⟩, k4, k5, k6, ⟨k7, h7f⟩, ⟨k8, h8f⟩, k9, up_all (Pp := fun a x => (va_up (va_up (va_up g q (some (cRu v))) (ad 1) (some (arQ t 3 10 (va_up fR (sNR σ) (some q))))) (ad 0) (some (cFi (ad 1) (nI (sNR σ + 1)) (ad 2) (nI (sNL σ)) (ad 3) (ad 4) (ad 5) (ad 6) (sTH σ)))) a = some (cRu x)) kR kq, fun k hk => by rw [lc_aR (hI.2.2.1 k hk).2.2.1]; exact kL k hk, fun k hk => by rw [dc_aR (hI.2.2.1 _ (hI.2.2.2.1 k hk).1).2.2.1]; exact kD k hk, h78, ⟨inj_up iR (fun k hk => hw_new (hR k hk) hq), iL, iD⟩, fun i h => Or.inl (f0 i h), up_all1 (Pp := gr F g) (fun k hk => Or.inl (f1 k hk)) (Or.inr hq), fun k hk => Or.inl (f2 k hk), fun k hk => Or.inl (f3 k hk)⟩
theorem RC.loanNew {F : Nat → Prop} {t : Nat → ClassId} {g : hG} {ad aR aL aD : Nat → Nat} {fR fL fI fN fB : Nat → Option Nat} {σ : SS} (h : RC F t g ad aR aL aD fR fL fI fN fB σ) (q i pn rl : Nat) (du : Int64) (hq : g q = none) (hI : Inv σ) (hi : i < 60) : RC (gr F g) t (va_up (va_up (va_up (va_up g q (some (cLo (nI i) (nI pn) (aR rl) du none 0))) (ad 3) (some (arQ t 4 60 (va_up fI i (some q))))) (ad 2) (some (arQ t 4 120 (va_up fL (sNL σ) (some q))))) (ad 0) (some (cFi (ad 1) (nI (sNR σ)) (ad 2) (nI (sNL σ + 1)) (ad 3) (ad 4) (ad 5) (ad 6) (sTH σ)))) ad aR (va_up aL (sNL σ) q) aD fR (va_up fL (sNL σ) (some q)) (va_up fI i (some q)) fN fB ((σ.1, (sNL σ + 1, va_up (sLV σ) (sNL σ) (i, pn, rl, du, 1, 0)), σ.2.2.1, σ.2.2.2.1, σ.2.2.2.2.1, sTH σ, va_up (sIT σ) i (some (sNL σ)))) := by
  obtain ⟨h0, ⟨h1, h1f⟩, ⟨h2, h2f⟩, ⟨h3, h3f⟩, h4, h5, h6, ⟨h7, h7f⟩, ⟨h8, h8f⟩, h9, hR, hL, hD, h78, ⟨iR, iL, iD⟩, f0, f1, f2, f3⟩ := h
  have kq := up_at (o := some (cFi (ad 1) (nI (sNR σ)) (ad 2) (nI (sNL σ + 1)) (ad 3) (ad 4) (ad 5) (ad 6) (sTH σ))) (up_at (o := some (arQ t 4 120 (va_up fL (sNL σ) (some q)))) (up_at (o := some (arQ t 4 60 (va_up fI i (some q)))) (va_up_self g q (some (cLo (nI i) (nI pn) (aR rl) du none 0))) (hw_new h3 hq).symm) (hw_new h2 hq).symm) (hw_new h0 hq).symm
  have k0 : (va_up (va_up (va_up (va_up g q (some (cLo (nI i) (nI pn) (aR rl) du none 0))) (ad 3) (some (arQ t 4 60 (va_up fI i (some q))))) (ad 2) (some (arQ t 4 120 (va_up fL (sNL σ) (some q))))) (ad 0) (some (cFi (ad 1) (nI (sNR σ)) (ad 2) (nI (sNL σ + 1)) (ad 3) (ad 4) (ad 5) (ad 6) (sTH σ)))) (ad 0) = _ := va_up_self (va_up (va_up (va_up g q (some (cLo (nI i) (nI pn) (aR rl) du none 0))) (ad 3) (some (arQ t 4 60 (va_up fI i (some q))))) (ad 2) (some (arQ t 4 120 (va_up fL (sNL σ) (some q))))) (ad 0) (some (cFi (ad 1) (nI (sNR σ)) (ad 2) (nI (sNL σ + 1)) (ad 3) (ad 4) (ad 5) (ad 6) (sTH σ) : va_E))
  have k1 : (va_up (va_up (va_up (va_up g q (some (cLo (nI i) (nI pn) (aR rl) du none 0))) (ad 3) (some (arQ t 4 60 (va_up fI i (some q))))) (ad 2) (some (arQ t 4 120 (va_up fL (sNL σ) (some q))))) (ad 0) (some (cFi (ad 1) (nI (sNR σ)) (ad 2) (nI (sNL σ + 1)) (ad 3) (ad 4) (ad 5) (ad 6) (sTH σ)))) (ad 1) = _ := up_at (up_at (up_at (up_at h1 (hw_new h1 hq)) (hw_kd h1 h3 rfl)) (hw_kd h1 h2 rfl)) (hw_kd h1 h0 rfl)
  have k2 : (va_up (va_up (va_up (va_up g q (some (cLo (nI i) (nI pn) (aR rl) du none 0))) (ad 3) (some (arQ t 4 60 (va_up fI i (some q))))) (ad 2) (some (arQ t 4 120 (va_up fL (sNL σ) (some q))))) (ad 0) (some (cFi (ad 1) (nI (sNR σ)) (ad 2) (nI (sNL σ + 1)) (ad 3) (ad 4) (ad 5) (ad 6) (sTH σ)))) (ad 2) = _ := up_at (va_up_self (va_up (va_up g q (some (cLo (nI i) (nI pn) (aR rl) du none 0))) (ad 3) (some (arQ t 4 60 (va_up fI i (some q))))) (ad 2) (some (arQ t 4 120 (va_up fL (sNL σ) (some q)) : va_E))) (hw_kd h2 h0 rfl)
  have k3 : (va_up (va_up (va_up (va_up g q (some (cLo (nI i) (nI pn) (aR rl) du none 0))) (ad 3) (some (arQ t 4 60 (va_up fI i (some q))))) (ad 2) (some (arQ t 4 120 (va_up fL (sNL σ) (some q))))) (ad 0) (some (cFi (ad 1) (nI (sNR σ)) (ad 2) (nI (sNL σ + 1)) (ad 3) (ad 4) (ad 5) (ad 6) (sTH σ)))) (ad 3) = _ := up_at (up_at (va_up_self (va_up g q (some (cLo (nI i) (nI pn) (aR rl) du none 0))) (ad 3) (some (arQ t 4 60 (va_up fI i (some q)) : va_E))) (hw_kd h3 h2 rfl)) (hw_kd h3 h0 rfl)
  have k4 : (va_up (va_up (va_up (va_up g q (some (cLo (nI i) (nI pn) (aR rl) du none 0))) (ad 3) (some (arQ t 4 60 (va_up fI i (some q))))) (ad 2) (some (arQ t 4 120 (va_up fL (sNL σ) (some q))))) (ad 0) (some (cFi (ad 1) (nI (sNR σ)) (ad 2) (nI (sNL σ + 1)) (ad 3) (ad 4) (ad 5) (ad 6) (sTH σ)))) (ad 4) = _ := up_at (up_at (up_at (up_at h4 (hw_new h4 hq)) (hw_kd h4 h3 rfl)) (hw_kd h4 h2 rfl)) (hw_kd h4 h0 rfl)
  have k5 : (va_up (va_up (va_up (va_up g q (some (cLo (nI i) (nI pn) (aR rl) du none 0))) (ad 3) (some (arQ t 4 60 (va_up fI i (some q))))) (ad 2) (some (arQ t 4 120 (va_up fL (sNL σ) (some q))))) (ad 0) (some (cFi (ad 1) (nI (sNR σ)) (ad 2) (nI (sNL σ + 1)) (ad 3) (ad 4) (ad 5) (ad 6) (sTH σ)))) (ad 5) = _ := up_at (up_at (up_at (up_at h5 (hw_new h5 hq)) (hw_kd h5 h3 rfl)) (hw_kd h5 h2 rfl)) (hw_kd h5 h0 rfl)
  have k6 : (va_up (va_up (va_up (va_up g q (some (cLo (nI i) (nI pn) (aR rl) du none 0))) (ad 3) (some (arQ t 4 60 (va_up fI i (some q))))) (ad 2) (some (arQ t 4 120 (va_up fL (sNL σ) (some q))))) (ad 0) (some (cFi (ad 1) (nI (sNR σ)) (ad 2) (nI (sNL σ + 1)) (ad 3) (ad 4) (ad 5) (ad 6) (sTH σ)))) (ad 6) = _ := up_at (up_at (up_at (up_at h6 (hw_new h6 hq)) (hw_kd h6 h3 rfl)) (hw_kd h6 h2 rfl)) (hw_kd h6 h0 rfl)
  have k7 : (va_up (va_up (va_up (va_up g q (some (cLo (nI i) (nI pn) (aR rl) du none 0))) (ad 3) (some (arQ t 4 60 (va_up fI i (some q))))) (ad 2) (some (arQ t 4 120 (va_up fL (sNL σ) (some q))))) (ad 0) (some (cFi (ad 1) (nI (sNR σ)) (ad 2) (nI (sNL σ + 1)) (ad 3) (ad 4) (ad 5) (ad 6) (sTH σ)))) (ad 7) = _ := up_at (up_at (up_at (up_at h7 (hw_new h7 hq)) (hw_kd h7 h3 rfl)) (hw_kd h7 h2 rfl)) (hw_kd h7 h0 rfl)
  have k8 : (va_up (va_up (va_up (va_up g q (some (cLo (nI i) (nI pn) (aR rl) du none 0))) (ad 3) (some (arQ t 4 60 (va_up fI i (some q))))) (ad 2) (some (arQ t 4 120 (va_up fL (sNL σ) (some q))))) (ad 0) (some (cFi (ad 1) (nI (sNR σ)) (ad 2) (nI (sNL σ + 1)) (ad 3) (ad 4) (ad 5) (ad 6) (sTH σ)))) (ad 8) = _ := up_at (up_at (up_at (up_at h8 (hw_new h8 hq)) (hw_kd h8 h3 rfl)) (hw_kd h8 h2 rfl)) (hw_kd h8 h0 rfl)
  have k9 : (va_up (va_up (va_up (va_up g q (some (cLo (nI i) (nI pn) (aR rl) du none 0))) (ad 3) (some (arQ t 4 60 (va_up fI i (some q))))) (ad 2) (some (arQ t 4 120 (va_up fL (sNL σ) (some q))))) (ad 0) (some (cFi (ad 1) (nI (sNR σ)) (ad 2) (nI (sNL σ + 1)) (ad 3) (ad 4) (ad 5) (ad 6) (sTH σ)))) (ad 9) = _ := up_at (up_at (up_at (up_at h9 (hw_new h9 hq)) (hw_kd h9 h3 rfl)) (hw_kd h9 h2 rfl)) (hw_kd h9 h0 rfl)
  have kR : ∀ z, z < sNR σ → (va_up (va_up (va_up (va_up g q (some (cLo (nI i) (nI pn) (aR rl) du none 0))) (ad 3) (some (arQ t 4 60 (va_up fI i (some q))))) (ad 2) (some (arQ t 4 120 (va_up fL (sNL σ) (some q))))) (ad 0) (some (cFi (ad 1) (nI (sNR σ)) (ad 2) (nI (sNL σ + 1)) (ad 3) (ad 4) (ad 5) (ad 6) (sTH σ)))) (aR z) = some (cRu (sRV σ z)) := fun z hz => up_at (up_at (up_at (up_at (hR z hz) (hw_new (hR z hz) hq)) (hw_kd (hR z hz) h3 rfl)) (hw_kd (hR z hz) h2 rfl)) (hw_kd (hR z hz) h0 rfl)
  have kL : ∀ z, z < sNL σ → (va_up (va_up (va_up (va_up g q (some (cLo (nI i) (nI pn) (aR rl) du none 0))) (ad 3) (some (arQ t 4 60 (va_up fI i (some q))))) (ad 2) (some (arQ t 4 120 (va_up fL (sNL σ) (some q))))) (ad 0) (some (cFi (ad 1) (nI (sNR σ)) (ad 2) (nI (sNL σ + 1)) (ad 3) (ad 4) (ad 5) (ad 6) (sTH σ)))) (aL z) = some (cLc (lcOf aR aD (sLV σ z))) := fun z hz => up_at (up_at (up_at (up_at (hL z hz) (hw_new (hL z hz) hq)) (hw_kd (hL z hz) h3 rfl)) (hw_kd (hL z hz) h2 rfl)) (hw_kd (hL z hz) h0 rfl)
  have kD : ∀ z, z < sND σ → (va_up (va_up (va_up (va_up g q (some (cLo (nI i) (nI pn) (aR rl) du none 0))) (ad 3) (some (arQ t 4 60 (va_up fI i (some q))))) (ad 2) (some (arQ t 4 120 (va_up fL (sNL σ) (some q))))) (ad 0) (some (cFi (ad 1) (nI (sNR σ)) (ad 2) (nI (sNL σ + 1)) (ad 3) (ad 4) (ad 5) (ad 6) (sTH σ)))) (aD z) = some (cDv (dcOf aR (sLV σ) (sDV σ z))) := fun z hz => up_at (up_at (up_at (up_at (hD z hz) (hw_new (hD z hz) hq)) (hw_kd (hD z hz) h3 rfl)) (hw_kd (hD z hz) h2 rfl)) (hw_kd (hD z hz) h0 rfl)
  refine ⟨k0, ⟨k1, h1f⟩, ⟨k2, up_all (Pp := fun a x => x = some a) h2f rfl⟩, ⟨k3, it_up h3f (fun j hj k hk => by have := ((hI.2.2.2.2.1 j hj k).mp hk).1; omega)⟩, k4, k5, k6, ⟨k7, h7f⟩, ⟨k8, h8f⟩, k9, kR, up_all (Pp := fun a x => (va_up (va_up (va_up (va_up g q (some (cLo (nI i) (nI pn) (aR rl) du none 0))) (ad 3) (some (arQ t 4 60 (va_up fI i (some q))))) (ad 2) (some (arQ t 4 120 (va_up fL (sNL σ) (some q))))) (ad 0) (some (cFi (ad 1) (nI (sNR σ)) (ad 2) (nI (sNL σ + 1)) (ad 3) (ad 4) (ad 5) (ad 6) (sTH σ)))) a = some (cLc (lcOf aR aD x))) kL kq, fun k hk => (kD k hk).trans (by rw [dc_new (hI.2.2.2.1 k hk).1]), h78, ⟨iR, inj_up iL (fun k hk => hw_new (hL k hk) hq), iD⟩, fun i h => Or.inl (f0 i h), fun k hk => Or.inl (f1 k hk), up_all1 (Pp := gr F g) (fun k hk => Or.inl (f2 k hk)) (Or.inr hq), fun k hk => Or.inl (f3 k hk)⟩
theorem RC.loan {F : Nat → Prop} {t : Nat → ClassId} {g : hG} {ad aR aL aD : Nat → Nat} {fR fL fI fN fB : Nat → Option Nat} {σ : SS} (h : RC F t g ad aR aL aD fR fL fI fN fB σ) (k : Nat) (v : LV) (hk : k < sNL σ) (hv : v.2.1 = (sLV σ k).2.1 ∧ v.2.2.1 = (sLV σ k).2.2.1) : RC F t (va_up g (aL k) (some (cLc (lcOf aR aD v)))) ad aR aL aD fR fL fI fN fB ((σ.1, (sNL σ, va_up (sLV σ) k v), σ.2.2)) := by
  obtain ⟨h0, ⟨h1, h1f⟩, ⟨h2, h2f⟩, ⟨h3, h3f⟩, h4, h5, h6, ⟨h7, h7f⟩, ⟨h8, h8f⟩, h9, hR, hL, hD, h78, ⟨iR, iL, iD⟩, f0, f1, f2, f3⟩ := h
  have k0 : (va_up g (aL k) (some (cLc (lcOf aR aD v)))) (ad 0) = _ := up_at h0 (hw_kd h0 (hL k hk) rfl)
  have k1 : (va_up g (aL k) (some (cLc (lcOf aR aD v)))) (ad 1) = _ := up_at h1 (hw_kd h1 (hL k hk) rfl)
  have k2 : (va_up g (aL k) (some (cLc (lcOf aR aD v)))) (ad 2) = _ := up_at h2 (hw_kd h2 (hL k hk) rfl)
  have k3 : (va_up g (aL k) (some (cLc (lcOf aR aD v)))) (ad 3) = _ := up_at h3 (hw_kd h3 (hL k hk) rfl)
  have k4 : (va_up g (aL k) (some (cLc (lcOf aR aD v)))) (ad 4) = _ := up_at h4 (hw_kd h4 (hL k hk) rfl)
  have k5 : (va_up g (aL k) (some (cLc (lcOf aR aD v)))) (ad 5) = _ := up_at h5 (hw_kd h5 (hL k hk) rfl)
  have k6 : (va_up g (aL k) (some (cLc (lcOf aR aD v)))) (ad 6) = _ := up_at h6 (hw_kd h6 (hL k hk) rfl)
  have k7 : (va_up g (aL k) (some (cLc (lcOf aR aD v)))) (ad 7) = _ := up_at h7 (hw_kd h7 (hL k hk) rfl)
  have k8 : (va_up g (aL k) (some (cLc (lcOf aR aD v)))) (ad 8) = _ := up_at h8 (hw_kd h8 (hL k hk) rfl)
  have k9 : (va_up g (aL k) (some (cLc (lcOf aR aD v)))) (ad 9) = _ := up_at h9 (hw_kd h9 (hL k hk) rfl)
  have kR : ∀ z, z < sNR σ → (va_up g (aL k) (some (cLc (lcOf aR aD v)))) (aR z) = some (cRu (sRV σ z)) := fun z hz => up_at (hR z hz) (hw_kd (hR z hz) (hL k hk) rfl)
  have kL : ∀ j, j < sNL σ → (va_up g (aL k) (some (cLc (lcOf aR aD v)))) (aL j) = some (cLc (lcOf aR aD (va_up (sLV σ) k v j))) := fun j hj => by
    by_cases e : j = k
    · subst e; rw [va_up_self, va_up_self]
    · rw [va_up_ne (sLV σ) v e]; exact up_at (hL j hj) (fun q => e (iL j k hj hk q))
  have kD : ∀ z, z < sND σ → (va_up g (aL k) (some (cLc (lcOf aR aD v)))) (aD z) = some (cDv (dcOf aR (sLV σ) (sDV σ z))) := fun z hz => up_at (hD z hz) (hw_kd (hD z hz) (hL k hk) rfl)
  refine ⟨k0, ⟨k1, h1f⟩, ⟨k2, h2f⟩, ⟨k3, h3f⟩, k4, k5, k6, ⟨k7, h7f⟩, ⟨k8, h8f⟩, k9, kR, kL, fun z hz => (kD z hz).trans (by rw [dc_up hv]), h78, ⟨iR, iL, iD⟩, f0, f1, f2, f3⟩
theorem RC.item {F : Nat → Prop} {t : Nat → ClassId} {g : hG} {ad aR aL aD : Nat → Nat} {fR fL fI fN fB : Nat → Option Nat} {σ : SS} (h : RC F t g ad aR aL aD fR fL fI fN fB σ) (i : Nat)  : RC F t (va_up g (ad 3) (some (arQ t 4 60 (va_up fI i none)))) ad aR aL aD fR fL (va_up fI i none) fN fB ((σ.1, σ.2.1, σ.2.2.1, σ.2.2.2.1, σ.2.2.2.2.1, sTH σ, va_up (sIT σ) i none)) := by
  obtain ⟨h0, ⟨h1, h1f⟩, ⟨h2, h2f⟩, ⟨h3, h3f⟩, h4, h5, h6, ⟨h7, h7f⟩, ⟨h8, h8f⟩, h9, hR, hL, hD, h78, ⟨iR, iL, iD⟩, f0, f1, f2, f3⟩ := h
  have k0 : (va_up g (ad 3) (some (arQ t 4 60 (va_up fI i none)))) (ad 0) = _ := up_at h0 (hw_kd h0 h3 rfl)
  have k1 : (va_up g (ad 3) (some (arQ t 4 60 (va_up fI i none)))) (ad 1) = _ := up_at h1 (hw_kd h1 h3 rfl)
  have k2 : (va_up g (ad 3) (some (arQ t 4 60 (va_up fI i none)))) (ad 2) = _ := up_at h2 (hw_kd h2 h3 rfl)
  have k3 : (va_up g (ad 3) (some (arQ t 4 60 (va_up fI i none)))) (ad 3) = _ := va_up_self g (ad 3) (some (arQ t 4 60 (va_up fI i none) : va_E))
  have k4 : (va_up g (ad 3) (some (arQ t 4 60 (va_up fI i none)))) (ad 4) = _ := up_at h4 (hw_kd h4 h3 rfl)
  have k5 : (va_up g (ad 3) (some (arQ t 4 60 (va_up fI i none)))) (ad 5) = _ := up_at h5 (hw_kd h5 h3 rfl)
  have k6 : (va_up g (ad 3) (some (arQ t 4 60 (va_up fI i none)))) (ad 6) = _ := up_at h6 (hw_kd h6 h3 rfl)
  have k7 : (va_up g (ad 3) (some (arQ t 4 60 (va_up fI i none)))) (ad 7) = _ := up_at h7 (hw_kd h7 h3 rfl)
  have k8 : (va_up g (ad 3) (some (arQ t 4 60 (va_up fI i none)))) (ad 8) = _ := up_at h8 (hw_kd h8 h3 rfl)
  have k9 : (va_up g (ad 3) (some (arQ t 4 60 (va_up fI i none)))) (ad 9) = _ := up_at h9 (hw_kd h9 h3 rfl)
  have kR : ∀ z, z < sNR σ → (va_up g (ad 3) (some (arQ t 4 60 (va_up fI i none)))) (aR z) = some (cRu (sRV σ z)) := fun z hz => up_at (hR z hz) (hw_kd (hR z hz) h3 rfl)
  have kL : ∀ z, z < sNL σ → (va_up g (ad 3) (some (arQ t 4 60 (va_up fI i none)))) (aL z) = some (cLc (lcOf aR aD (sLV σ z))) := fun z hz => up_at (hL z hz) (hw_kd (hL z hz) h3 rfl)
  have kD : ∀ z, z < sND σ → (va_up g (ad 3) (some (arQ t 4 60 (va_up fI i none)))) (aD z) = some (cDv (dcOf aR (sLV σ) (sDV σ z))) := fun z hz => up_at (hD z hz) (hw_kd (hD z hz) h3 rfl)
  refine ⟨k0, ⟨k1, h1f⟩, ⟨k2, h2f⟩, ⟨k3, it_no h3f⟩, k4, k5, k6, ⟨k7, h7f⟩, ⟨k8, h8f⟩, k9, kR, kL, kD, h78, ⟨iR, iL, iD⟩, f0, f1, f2, f3⟩
theorem RC.debt {F : Nat → Prop} {t : Nat → ClassId} {g : hG} {ad aR aL aD : Nat → Nat} {fR fL fI fN fB : Nat → Option Nat} {σ : SS} (h : RC F t g ad aR aL aD fR fL fI fN fB σ) (k : Nat) (v : DV) (hk : k < sND σ) : RC F t (va_up g (aD k) (some (cDv (dcOf aR (sLV σ) v)))) ad aR aL aD fR fL fI fN fB ((σ.1, σ.2.1, (sND σ, va_up (sDV σ) k v, sOD σ), σ.2.2.2)) := by
  obtain ⟨h0, ⟨h1, h1f⟩, ⟨h2, h2f⟩, ⟨h3, h3f⟩, h4, h5, h6, ⟨h7, h7f⟩, ⟨h8, h8f⟩, h9, hR, hL, hD, h78, ⟨iR, iL, iD⟩, f0, f1, f2, f3⟩ := h
  have k0 : (va_up g (aD k) (some (cDv (dcOf aR (sLV σ) v)))) (ad 0) = _ := up_at h0 (hw_kd h0 (hD k hk) rfl)
  have k1 : (va_up g (aD k) (some (cDv (dcOf aR (sLV σ) v)))) (ad 1) = _ := up_at h1 (hw_kd h1 (hD k hk) rfl)
  have k2 : (va_up g (aD k) (some (cDv (dcOf aR (sLV σ) v)))) (ad 2) = _ := up_at h2 (hw_kd h2 (hD k hk) rfl)
  have k3 : (va_up g (aD k) (some (cDv (dcOf aR (sLV σ) v)))) (ad 3) = _ := up_at h3 (hw_kd h3 (hD k hk) rfl)
  have k4 : (va_up g (aD k) (some (cDv (dcOf aR (sLV σ) v)))) (ad 4) = _ := up_at h4 (hw_kd h4 (hD k hk) rfl)
  have k5 : (va_up g (aD k) (some (cDv (dcOf aR (sLV σ) v)))) (ad 5) = _ := up_at h5 (hw_kd h5 (hD k hk) rfl)
  have k6 : (va_up g (aD k) (some (cDv (dcOf aR (sLV σ) v)))) (ad 6) = _ := up_at h6 (hw_kd h6 (hD k hk) rfl)
  have k7 : (va_up g (aD k) (some (cDv (dcOf aR (sLV σ) v)))) (ad 7) = _ := up_at h7 (hw_kd h7 (hD k hk) rfl)
  have k8 : (va_up g (aD k) (some (cDv (dcOf aR (sLV σ) v)))) (ad 8) = _ := up_at h8 (hw_kd h8 (hD k hk) rfl)
  have k9 : (va_up g (aD k) (some (cDv (dcOf aR (sLV σ) v)))) (ad 9) = _ := up_at h9 (hw_kd h9 (hD k hk) rfl)
  have kR : ∀ z, z < sNR σ → (va_up g (aD k) (some (cDv (dcOf aR (sLV σ) v)))) (aR z) = some (cRu (sRV σ z)) := fun z hz => up_at (hR z hz) (hw_kd (hR z hz) (hD k hk) rfl)
  have kL : ∀ z, z < sNL σ → (va_up g (aD k) (some (cDv (dcOf aR (sLV σ) v)))) (aL z) = some (cLc (lcOf aR aD (sLV σ z))) := fun z hz => up_at (hL z hz) (hw_kd (hL z hz) (hD k hk) rfl)
  have kD : ∀ j, j < sND σ → (va_up g (aD k) (some (cDv (dcOf aR (sLV σ) v)))) (aD j) = some (cDv (dcOf aR (sLV σ) (va_up (sDV σ) k v j))) := fun j hj => by
    by_cases e : j = k
    · subst e; rw [va_up_self, va_up_self]
    · rw [va_up_ne (sDV σ) v e]; exact up_at (hD j hj) (fun q => e (iD j k hj hk q))
  refine ⟨k0, ⟨k1, h1f⟩, ⟨k2, h2f⟩, ⟨k3, h3f⟩, k4, k5, k6, ⟨k7, h7f⟩, ⟨k8, h8f⟩, k9, kR, kL, kD, h78, ⟨iR, iL, iD⟩, f0, f1, f2, f3⟩
theorem RC.debtNew {F : Nat → Prop} {t : Nat → ClassId} {g : hG} {ad aR aL aD : Nat → Nat} {fR fL fI fN fB : Nat → Option Nat} {σ : SS} (h : RC F t g ad aR aL aD fR fL fI fN fB σ) (q pp : Nat) (v : DV) (hq : g q = none) (hI : Inv σ) (hpp : pp ≤ sND σ) (hn : sND σ < 200) : RC (gr F g) t (va_up (va_up (va_up (va_up g q (some (cDv (dcOf aR (sLV σ) v)))) (ad 8) (some (arQ t 5 200 (insF fB (sND σ) pp q)))) (ad 7) (some (arQ t 5 200 (va_up fN (sND σ) (some q))))) (ad 4) (some (cBr (ad 7) (ad 8) (nI (sND σ + 1))))) ad aR aL (va_up aD (sND σ) q) fR fL fI (va_up fN (sND σ) (some q)) (insF fB (sND σ) pp q) ((σ.1, σ.2.1, (sND σ + 1, va_up (sDV σ) (sND σ) v, insO (sOD σ) (sND σ) pp), σ.2.2.2)) := by
  obtain ⟨h0, ⟨h1, h1f⟩, ⟨h2, h2f⟩, ⟨h3, h3f⟩, h4, h5, h6, ⟨h7, h7f⟩, ⟨h8, h8f⟩, h9, hR, hL, hD, h78, ⟨iR, iL, iD⟩, f0, f1, f2, f3⟩ := h
  have kq := up_at (o := some (cBr (ad 7) (ad 8) (nI (sND σ + 1)))) (up_at (o := some (arQ t 5 200 (va_up fN (sND σ) (some q)))) (up_at (o := some (arQ t 5 200 (insF fB (sND σ) pp q))) (va_up_self g q (some (cDv (dcOf aR (sLV σ) v)))) (hw_new h8 hq).symm) (hw_new h7 hq).symm) (hw_new h4 hq).symm
  have k0 : (va_up (va_up (va_up (va_up g q (some (cDv (dcOf aR (sLV σ) v)))) (ad 8) (some (arQ t 5 200 (insF fB (sND σ) pp q)))) (ad 7) (some (arQ t 5 200 (va_up fN (sND σ) (some q))))) (ad 4) (some (cBr (ad 7) (ad 8) (nI (sND σ + 1))))) (ad 0) = _ := up_at (up_at (up_at (up_at h0 (hw_new h0 hq)) (hw_kd h0 h8 rfl)) (hw_kd h0 h7 rfl)) (hw_kd h0 h4 rfl)
  have k1 : (va_up (va_up (va_up (va_up g q (some (cDv (dcOf aR (sLV σ) v)))) (ad 8) (some (arQ t 5 200 (insF fB (sND σ) pp q)))) (ad 7) (some (arQ t 5 200 (va_up fN (sND σ) (some q))))) (ad 4) (some (cBr (ad 7) (ad 8) (nI (sND σ + 1))))) (ad 1) = _ := up_at (up_at (up_at (up_at h1 (hw_new h1 hq)) (hw_kd h1 h8 rfl)) (hw_kd h1 h7 rfl)) (hw_kd h1 h4 rfl)
  have k2 : (va_up (va_up (va_up (va_up g q (some (cDv (dcOf aR (sLV σ) v)))) (ad 8) (some (arQ t 5 200 (insF fB (sND σ) pp q)))) (ad 7) (some (arQ t 5 200 (va_up fN (sND σ) (some q))))) (ad 4) (some (cBr (ad 7) (ad 8) (nI (sND σ + 1))))) (ad 2) = _ := up_at (up_at (up_at (up_at h2 (hw_new h2 hq)) (hw_kd h2 h8 rfl)) (hw_kd h2 h7 rfl)) (hw_kd h2 h4 rfl)
  have k3 : (va_up (va_up (va_up (va_up g q (some (cDv (dcOf aR (sLV σ) v)))) (ad 8) (some (arQ t 5 200 (insF fB (sND σ) pp q)))) (ad 7) (some (arQ t 5 200 (va_up fN (sND σ) (some q))))) (ad 4) (some (cBr (ad 7) (ad 8) (nI (sND σ + 1))))) (ad 3) = _ := up_at (up_at (up_at (up_at h3 (hw_new h3 hq)) (hw_kd h3 h8 rfl)) (hw_kd h3 h7 rfl)) (hw_kd h3 h4 rfl)
  have k4 : (va_up (va_up (va_up (va_up g q (some (cDv (dcOf aR (sLV σ) v)))) (ad 8) (some (arQ t 5 200 (insF fB (sND σ) pp q)))) (ad 7) (some (arQ t 5 200 (va_up fN (sND σ) (some q))))) (ad 4) (some (cBr (ad 7) (ad 8) (nI (sND σ + 1))))) (ad 4) = _ := va_up_self (va_up (va_up (va_up g q (some (cDv (dcOf aR (sLV σ) v)))) (ad 8) (some (arQ t 5 200 (insF fB (sND σ) pp q)))) (ad 7) (some (arQ t 5 200 (va_up fN (sND σ) (some q))))) (ad 4) (some (cBr (ad 7) (ad 8) (nI (sND σ + 1)) : va_E))
  have k5 : (va_up (va_up (va_up (va_up g q (some (cDv (dcOf aR (sLV σ) v)))) (ad 8) (some (arQ t 5 200 (insF fB (sND σ) pp q)))) (ad 7) (some (arQ t 5 200 (va_up fN (sND σ) (some q))))) (ad 4) (some (cBr (ad 7) (ad 8) (nI (sND σ + 1))))) (ad 5) = _ := up_at (up_at (up_at (up_at h5 (hw_new h5 hq)) (hw_kd h5 h8 rfl)) (hw_kd h5 h7 rfl)) (hw_kd h5 h4 rfl)
  have k6 : (va_up (va_up (va_up (va_up g q (some (cDv (dcOf aR (sLV σ) v)))) (ad 8) (some (arQ t 5 200 (insF fB (sND σ) pp q)))) (ad 7) (some (arQ t 5 200 (va_up fN (sND σ) (some q))))) (ad 4) (some (cBr (ad 7) (ad 8) (nI (sND σ + 1))))) (ad 6) = _ := up_at (up_at (up_at (up_at h6 (hw_new h6 hq)) (hw_kd h6 h8 rfl)) (hw_kd h6 h7 rfl)) (hw_kd h6 h4 rfl)
  have k7 : (va_up (va_up (va_up (va_up g q (some (cDv (dcOf aR (sLV σ) v)))) (ad 8) (some (arQ t 5 200 (insF fB (sND σ) pp q)))) (ad 7) (some (arQ t 5 200 (va_up fN (sND σ) (some q))))) (ad 4) (some (cBr (ad 7) (ad 8) (nI (sND σ + 1))))) (ad 7) = _ := up_at (va_up_self (va_up (va_up g q (some (cDv (dcOf aR (sLV σ) v)))) (ad 8) (some (arQ t 5 200 (insF fB (sND σ) pp q)))) (ad 7) (some (arQ t 5 200 (va_up fN (sND σ) (some q)) : va_E))) (hw_kd h7 h4 rfl)
  have k8 : (va_up (va_up (va_up (va_up g q (some (cDv (dcOf aR (sLV σ) v)))) (ad 8) (some (arQ t 5 200 (insF fB (sND σ) pp q)))) (ad 7) (some (arQ t 5 200 (va_up fN (sND σ) (some q))))) (ad 4) (some (cBr (ad 7) (ad 8) (nI (sND σ + 1))))) (ad 8) = _ := up_at (up_at (va_up_self (va_up g q (some (cDv (dcOf aR (sLV σ) v)))) (ad 8) (some (arQ t 5 200 (insF fB (sND σ) pp q) : va_E))) (h78.symm)) (hw_kd h8 h4 rfl)
  have k9 : (va_up (va_up (va_up (va_up g q (some (cDv (dcOf aR (sLV σ) v)))) (ad 8) (some (arQ t 5 200 (insF fB (sND σ) pp q)))) (ad 7) (some (arQ t 5 200 (va_up fN (sND σ) (some q))))) (ad 4) (some (cBr (ad 7) (ad 8) (nI (sND σ + 1))))) (ad 9) = _ := up_at (up_at (up_at (up_at h9 (hw_new h9 hq)) (hw_kd h9 h8 rfl)) (hw_kd h9 h7 rfl)) (hw_kd h9 h4 rfl)
  have kR : ∀ z, z < sNR σ → (va_up (va_up (va_up (va_up g q (some (cDv (dcOf aR (sLV σ) v)))) (ad 8) (some (arQ t 5 200 (insF fB (sND σ) pp q)))) (ad 7) (some (arQ t 5 200 (va_up fN (sND σ) (some q))))) (ad 4) (some (cBr (ad 7) (ad 8) (nI (sND σ + 1))))) (aR z) = some (cRu (sRV σ z)) := fun z hz => up_at (up_at (up_at (up_at (hR z hz) (hw_new (hR z hz) hq)) (hw_kd (hR z hz) h8 rfl)) (hw_kd (hR z hz) h7 rfl)) (hw_kd (hR z hz) h4 rfl)
  have kL : ∀ z, z < sNL σ → (va_up (va_up (va_up (va_up g q (some (cDv (dcOf aR (sLV σ) v)))) (ad 8) (some (arQ t 5 200 (insF fB (sND σ) pp q)))) (ad 7) (some (arQ t 5 200 (va_up fN (sND σ) (some q))))) (ad 4) (some (cBr (ad 7) (ad 8) (nI (sND σ + 1))))) (aL z) = some (cLc (lcOf aR aD (sLV σ z))) := fun z hz => up_at (up_at (up_at (up_at (hL z hz) (hw_new (hL z hz) hq)) (hw_kd (hL z hz) h8 rfl)) (hw_kd (hL z hz) h7 rfl)) (hw_kd (hL z hz) h4 rfl)
  have kD : ∀ z, z < sND σ → (va_up (va_up (va_up (va_up g q (some (cDv (dcOf aR (sLV σ) v)))) (ad 8) (some (arQ t 5 200 (insF fB (sND σ) pp q)))) (ad 7) (some (arQ t 5 200 (va_up fN (sND σ) (some q))))) (ad 4) (some (cBr (ad 7) (ad 8) (nI (sND σ + 1))))) (aD z) = some (cDv (dcOf aR (sLV σ) (sDV σ z))) := fun z hz => up_at (up_at (up_at (up_at (hD z hz) (hw_new (hD z hz) hq)) (hw_kd (hD z hz) h8 rfl)) (hw_kd (hD z hz) h7 rfl)) (hw_kd (hD z hz) h4 rfl)
  refine ⟨k0, ⟨k1, h1f⟩, ⟨k2, h2f⟩, ⟨k3, h3f⟩, k4, k5, k6, ⟨k7, up_all (Pp := fun a x => x = some a) h7f rfl⟩, ⟨k8, ins_ok h8f hI.2.2.2.2.2.1 hpp⟩, k9, kR, fun k hk => by rw [lc_aD (hI.2.2.1 k hk).2.2.2.2.1]; exact kL k hk, up_all (Pp := fun a x => (va_up (va_up (va_up (va_up g q (some (cDv (dcOf aR (sLV σ) v)))) (ad 8) (some (arQ t 5 200 (insF fB (sND σ) pp q)))) (ad 7) (some (arQ t 5 200 (va_up fN (sND σ) (some q))))) (ad 4) (some (cBr (ad 7) (ad 8) (nI (sND σ + 1))))) a = some (cDv (dcOf aR (sLV σ) x))) kD kq, h78, ⟨iR, iL, inj_up iD (fun k hk => hw_new (hD k hk) hq)⟩, fun i h => Or.inl (f0 i h), fun k hk => Or.inl (f1 k hk), fun k hk => Or.inl (f2 k hk), up_all1 (Pp := gr F g) (fun k hk => Or.inl (f3 k hk)) (Or.inr hq)⟩
end
section
/-! WHAT EACH CALL ANSWERS, and the state behind it. -/
def spRule (σ : SS) (x y z : Int32) : Int32 × SS := if (wi x 0 100000 && wi y 0 10000000 && wi z 0 365 && decide (sNR σ < 10)) = true then (nI (sNR σ), ((sNR σ + 1, va_up (sRV σ) (sNR σ) (x, y, z, 0, 0)), σ.2)) else (-1, σ)
def okInt (σ : SS) (x y z : Int32) : Bool := wi x 0 (nI (sNR σ) - 1) && wi y 0 1000 && wi z 0 1000000
def spInt (σ : SS) (x y z : Int32) : Int32 × SS := if (okInt σ x y z && decide (¬ z = 0)) = true then (100000 * y / z, ((sNR σ, va_up (sRV σ) x.toInt.toNat ((sRV σ x.toInt.toNat).1, (sRV σ x.toInt.toNat).2.1, (sRV σ x.toInt.toNat).2.2.1, y, z)), σ.2)) else (-1, σ)
def spClosed (σ : SS) (x : Int64) : Int32 × SS := if (wd x && cadd (sCD σ) (sNC σ) x) = true then (nI (sNC σ + 1), (σ.1, σ.2.1, σ.2.2.1, (sNC σ + 1, va_up (sCD σ) (sNC σ) x), σ.2.2.2.2)) else (0, σ)
def spLoan (σ : SS) (x y z : Int32) (d : Int64) : Int32 × SS := if (wi x 0 59 && wi y 0 29 && wi z 0 (nI (sNR σ) - 1) && wd d && (sIT σ x.toInt.toNat).isNone && decide (sNL σ < 120)) = true then (nI (sNL σ + 1), (σ.1, (sNL σ + 1, va_up (sLV σ) (sNL σ) (x.toInt.toNat, y.toInt.toNat, z.toInt.toNat, d, 1, 0)), σ.2.2.1, σ.2.2.2.1, σ.2.2.2.2.1, sTH σ, va_up (sIT σ) x.toInt.toNat (some (sNL σ)))) else (0, σ)
def lateJ (σ : SS) (k : Nat) (x : Int64) : Int64 := rvCents (sRV σ (sLV σ k).2.2.1) (opD (sCD σ) (sNC σ) (sLV σ k).2.2.2.1 x)
def lentN (σ : SS) (x : Int32) : Option Nat := if (wi x 1 (nI (sNL σ)) && decide ((sLV σ (x.toInt.toNat - 1)).2.2.2.2.1 = 1)) = true then some (x.toInt.toNat - 1) else none
def spOver (σ : SS) (x : Int32) (d : Int64) : Int64 := match lentN σ x with
  | none => -1
  | some k => if wd d = true then lateJ σ k d else -1
def dayF (σ : SS) : Nat → Int64 := fun j => (sDV σ (sOD σ j)).2.2.2.2.2
def posD (f : Nat → Int64) (x : Int64) : Nat → Nat
  | 0 => 0
  | q + 1 => if x < f q then posD f x q else q + 1
/-- a debt more -/
def adD (σ : SS) (k : Nat) (am : Nat) (so : Int32) (d : Int64) : SS := (σ.1, σ.2.1, (sND σ + 1, va_up (sDV σ) (sND σ) (k, am, am, 0, so, d), insO (sOD σ) (sND σ) (posD (dayF σ) d (sND σ))), σ.2.2.2)
/-- a loan comes back -/
def enL (σ : SS) (k : Nat) : SS := (σ.1, (sNL σ, va_up (sLV σ) k ((sLV σ k).1, (sLV σ k).2.1, (sLV σ k).2.2.1, (sLV σ k).2.2.2.1, 2, (sLV σ k).2.2.2.2.2)), σ.2.2.1, σ.2.2.2.1, σ.2.2.2.2.1, sTH σ, va_up (sIT σ) (sLV σ k).1 none)
def lateN (σ : SS) (k : Nat) (x : Int64) : Nat := (lateJ σ k x).toInt.toNat
def chD (σ : SS) (k : Nat) (am : Int64) (d : Int64) : Int32 × SS := if 0 < am then (nI (sND σ + 1), adD σ k am.toInt.toNat 0 d) else (0, σ)
def spBack (σ : SS) (x : Int32) (d : Int64) : Int32 × SS := match lentN σ x with
  | none => (-1, σ)
  | some k => if (wd d && !(decide (0 < lateJ σ k d) && fullB (sND σ))) = true then chD (enL σ k) k (lateJ σ k d) d else (-1, σ)
def spLost (σ : SS) (x y : Int32) (d : Int64) : Int32 × SS := match lentN σ x with
  | none => (-1, σ)
  | some k => if (wd d && wi y 1 10000000 && !fullB (sND σ)) = true then (nI (sND σ + 1), (σ.1, (sNL σ, va_up (sLV σ) k ((sLV σ k).1, (sLV σ k).2.1, (sLV σ k).2.2.1, (sLV σ k).2.2.2.1, 3, sND σ + 1)), (adD σ k y.toInt.toNat 1 d).2.2)) else (-1, σ)
def stD (σ : SS) (k : Nat) (v : DV) : SS := (σ.1, σ.2.1, (sND σ, va_up (sDV σ) k v, sOD σ), σ.2.2.2)
def stK (σ : SS) (k v : Nat) : SS := (σ.1, σ.2.1, σ.2.2.1, σ.2.2.2.1, va_up (sKR σ) k v, σ.2.2.2.2.2)
def zeD (σ : SS) (k : Nat) : SS := stD σ k ((sDV σ k).1, (sDV σ k).2.1, 0, (sDV σ k).2.2.2.1, (sDV σ k).2.2.2.2.1, (sDV σ k).2.2.2.2.2)
def lostN (σ : SS) (x : Int32) : Option Nat := if wi x 0 59 = true then (match sIT σ x.toInt.toNat with | none => none | some k => if (sLV σ k).2.2.2.2.1 = 3 then some k else none) else none
def spFound (σ : SS) (x : Int32) (d : Int64) : Int64 × SS := match lostN σ x with
  | none => (-1, σ)
  | some k => if (wd d && !(decide (0 < lateJ σ k d) && fullB (sND σ))) = true then (lN (sDV σ ((sLV σ k).2.2.2.2.2 - 1)).2.2.2.1, (chD (enL (stK (zeD σ ((sLV σ k).2.2.2.2.2 - 1)) (sLV σ k).2.1 (sKR σ (sLV σ k).2.1 + (sDV σ ((sLV σ k).2.2.2.2.2 - 1)).2.2.2.1)) k) k (lateJ σ k d) d).2) else (-1, σ)
def dbtN (σ : SS) (x : Int32) : Option Nat := if wi x 1 (nI (sND σ)) = true then some (x.toInt.toNat - 1) else none
def spWaive (σ : SS) (x y : Int32) : Int64 × SS := match dbtN σ x with
  | none => (-1, σ)
  | some k => if wi y 0 100000 = true then (if y.toInt64 < lN (sDV σ k).2.2.1 then (0, σ) else (lN (sDV σ k).2.2.1, zeD σ k)) else (-1, σ)
/-- what is left of a person's debts, the interest of them -/
def sumL (σ : SS) (x : Int32) : Nat → Int64
  | 0 => 0
  | n + 1 => if nI (sLV σ (sDV σ n).1).2.1 = x then sumL σ x n + lN (sDV σ n).2.2.1 else sumL σ x n
def intD (σ : SS) (k : Nat) (y : Int64) : Int64 := dInt (sRV σ (sLV σ (sDV σ k).1).2.2.1) (lN (sDV σ k).2.2.1) (sDV σ k).2.2.2.2.2 y
def sumI (σ : SS) (x : Int32) (y : Int64) : Nat → Int64
  | 0 => 0
  | n + 1 => if nI (sLV σ (sDV σ n).1).2.1 = x then sumI σ x y n + intD σ n y else sumI σ x y n
def balS (σ : SS) (x : Int32) : Int64 := sumL σ x (sND σ) - lN (sKR σ x.toInt.toNat)
def spOwes (σ : SS) (x : Int32) (d : Int64) : Int64 := if wi x 0 29 = true then (if d < 0 then balS σ x else balS σ x + sumI σ x (mnJ d 1000000) (sND σ)) else -1000000000000001
def spPlan (σ : SS) (x y z : Int32) : Int64 := if (wi x 0 29 && wi y 1 12 && wi z 0 (y - 1)) = true then (if z.toInt64 < sumL σ x (sND σ) - sumL σ x (sND σ) / y.toInt64 * y.toInt64 then sumL σ x (sND σ) / y.toInt64 + 1 else sumL σ x (sND σ) / y.toInt64) else 0
def spTh (σ : SS) (x : Int32) : Int32 × SS := if wi x 1 1000000 = true then (sTH σ, (σ.1, σ.2.1, σ.2.2.1, σ.2.2.2.1, σ.2.2.2.2.1, x, σ.2.2.2.2.2.2)) else (-1, σ)
def spBlk (σ : SS) (x : Int32) : Bool := wi x 0 29 && decide ((sTH σ).toInt64 ≤ balS σ x)
def spDebt (σ : SS) (x y : Int32) : Int64 := match dbtN σ x with
  | none => -1
  | some k => if y = 0 then (nI (sLV σ (sDV σ k).1).2.1).toInt64 else if y = 1 then lN (sDV σ k).2.1 else if y = 2 then lN (sDV σ k).2.2.1 else if y = 3 then (sDV σ k).2.2.2.2.2 else if y = 4 then (sDV σ k).2.2.2.2.1.toInt64 else if y = 5 then intD σ k ((sDV σ k).2.2.2.2.2 + 30) else -1
def spShare (σ : SS) (x y z : Int32) : Int64 := match dbtN σ x with
  | none => -1
  | some k => if (wi z 1 1000 && wi y 1 z) = true then lN (sDV σ k).2.1 * y.toInt64 / z.toInt64 else -1
end
section
theorem ordQ_some {f : Nat → Option Nat} {aR : Nat → Nat} {n y : Nat} {x : Int32} (hn : n < 1000000) (hf : ∀ k, k < n → f k = some (aR k)) (h : ordQ f n x = some y) : ∃ k, k < n ∧ x = nI k ∧ y = aR k ∧ wi x 0 (nI n - 1) = true := by
  by_cases hw : wi x 0 (nI n - 1) = true
  · obtain ⟨k, hk, rfl⟩ := wi_ord hn hw
    rw [ordQ_at hn hk, hf k hk] at h
    exact ⟨k, hk, rfl, (Option.some.inj h).symm, hw⟩
  · rw [ordQ, if_neg hw] at h; cases h
theorem ordQ_none {f : Nat → Option Nat} {aR : Nat → Nat} {n : Nat} {x : Int32} (hn : n < 1000000) (hf : ∀ k, k < n → f k = some (aR k)) (h : ordQ f n x = none) : wi x 0 (nI n - 1) = false := by
  by_cases hw : wi x 0 (nI n - 1) = true
  · obtain ⟨k, hk, rfl⟩ := wi_ord hn hw
    rw [ordQ_at hn hk, hf k hk] at h; cases h
  · exact Bool.eq_false_iff.mpr hw
theorem numQ_some {f : Nat → Option Nat} {aR : Nat → Nat} {n y : Nat} {x : Int32} (hn : n < 1000000) (hf : ∀ k, k < n → f k = some (aR k)) (h : numQ f n x = some y) : ∃ k, k < n ∧ x = nI (k + 1) ∧ y = aR k ∧ wi x 1 (nI n) = true := by
  by_cases hw : wi x 1 (nI n) = true
  · obtain ⟨k, hk, rfl⟩ := wi_num hn hw
    rw [numQ_at hn hk, hf k hk] at h
    exact ⟨k, hk, rfl, (Option.some.inj h).symm, hw⟩
  · rw [numQ, if_neg hw] at h; cases h
theorem numQ_none {f : Nat → Option Nat} {aR : Nat → Nat} {n : Nat} {x : Int32} (hn : n < 1000000) (hf : ∀ k, k < n → f k = some (aR k)) (h : numQ f n x = none) : wi x 1 (nI n) = false := by
  by_cases hw : wi x 1 (nI n) = true
  · obtain ⟨k, hk, rfl⟩ := wi_num hn hw
    rw [numQ_at hn hk, hf k hk] at h; cases h
  · exact Bool.eq_false_iff.mpr hw
theorem lent_lc {aR aD : Nat → Nat} {v : LV} (h1 : v.2.2.2.2.1 = 1 → v.2.2.2.2.2 = 0) (h3 : v.2.2.2.2.1 = 3 → 0 < v.2.2.2.2.2) (hb : 1 ≤ v.2.2.2.2.1 ∧ v.2.2.2.2.1 ≤ 3) : lent (lcOf aR aD v).2.2.2.2.1 (lcOf aR aD v).2.2.2.2.2 = decide (v.2.2.2.2.1 = 1) := by
  have h : v.2.2.2.2.1 = 1 ∨ v.2.2.2.2.1 = 2 ∨ v.2.2.2.2.1 = 3 := by omega
  rcases h with e | e | e
  · simp [lent, lcOf, e, h1 e]
  · simp [lent, lcOf, e]
  · have : ¬ v.2.2.2.2.2 = 0 := by have := h3 e; omega
    simp [lent, lcOf, e, this]
theorem lnQ_S {σ : SS} (hV : Inv σ) {aR aL aD : Nat → Nat} {x : Int32} {y : Nat} (h : lnQ aL (fun k => lcOf aR aD (sLV σ k)) (sNL σ) x = some y) : ∃ k, k < sNL σ ∧ x = nI (k + 1) ∧ y = aL k ∧ (sLV σ k).2.2.2.2.1 = 1 ∧ lentN σ x = some k := by
  have hn := hV.1.2.1
  by_cases hw : wi x 1 (nI (sNL σ)) = true
  · obtain ⟨k, hk, rfl⟩ := wi_num (by omega) hw
    obtain ⟨-, -, -, hb, -, h1, h3⟩ := hV.2.2.1 k hk
    have e := lent_lc (aR := aR) (aD := aD) h1 h3 hb
    by_cases hs : (sLV σ k).2.2.2.2.1 = 1
    · rw [lnQ_yes (by omega) hk (by rw [e]; exact decide_eq_true hs)] at h
      refine ⟨k, hk, rfl, (Option.some.inj h).symm, hs, ?_⟩
      rw [lentN, hw, nI_k1 (by omega)]
      simp [hs]
    · rw [lnQ_not (by omega) hk (by rw [e]; exact decide_eq_false hs)] at h; cases h
  · rw [lnQ_no (Bool.eq_false_iff.mpr hw)] at h; cases h
theorem lnQ_N {σ : SS} (hV : Inv σ) {aR aL aD : Nat → Nat} {x : Int32} (h : lnQ aL (fun k => lcOf aR aD (sLV σ k)) (sNL σ) x = none) : lentN σ x = none := by
  have hn := hV.1.2.1
  by_cases hw : wi x 1 (nI (sNL σ)) = true
  · obtain ⟨k, hk, rfl⟩ := wi_num (by omega) hw
    obtain ⟨-, -, -, hb, -, h1, h3⟩ := hV.2.2.1 k hk
    have e := lent_lc (aR := aR) (aD := aD) h1 h3 hb
    by_cases hs : (sLV σ k).2.2.2.2.1 = 1
    · rw [lnQ_yes (by omega) hk (by rw [e]; exact decide_eq_true hs)] at h; cases h
    · rw [lentN, nI_k1 (by omega)]
      simp [hs]
  · simp [lentN, Bool.eq_false_iff.mpr hw]
theorem dbtN_some {σ : SS} (hV : Inv σ) {k : Nat} (hk : k < sND σ) : dbtN σ (nI (k + 1)) = some k := by
  have hn := hV.1.2.2.1
  rw [dbtN, if_pos (wi_num_of (by omega) hk), nI_k1 (by omega)]
theorem dbtN_none {σ : SS} {x : Int32} (h : wi x 1 (nI (sND σ)) = false) : dbtN σ x = none := by simp [dbtN, h]
theorem insP_pos (aR : Nat → Nat) (σ : SS) (x : Int64) : ∀ n, insP (fun j => dcOf aR (sLV σ) (sDV σ (sOD σ j))) x n = posD (dayF σ) x n
  | 0 => rfl
  | n + 1 => by
    rw [insP, posD, insP_pos aR σ x n]; rfl
theorem posD_le (f : Nat → Int64) (x : Int64) : ∀ q, posD f x q ≤ q
  | 0 => Nat.le_refl 0
  | q + 1 => by
    rw [posD]
    split
    · exact Nat.le_succ_of_le (posD_le f x q)
    · exact Nat.le_refl _
theorem sLe_sum (aR : Nat → Nat) (σ : SS) (x : Int32) : ∀ n, sLe (fun k => dcOf aR (sLV σ) (sDV σ k)) x n = sumL σ x n
  | 0 => rfl
  | n + 1 => by rw [sLe, sumL, sLe_sum aR σ x n]; rfl
theorem sIn_sum (aR : Nat → Nat) (σ : SS) (x : Int32) (y : Int64) : ∀ n, sIn (fun k => dcOf aR (sLV σ) (sDV σ k)) (fun k => sRV σ (sLV σ (sDV σ k).1).2.2.1) x y n = sumI σ x y n
  | 0 => rfl
  | n + 1 => by rw [sIn, sumI, sIn_sum aR σ x y n]; rfl
theorem lN_toNat {x : Int64} (h : 0 < x) : lN x.toInt.toNat = x := by
  have h0 : (0 : Int64).toInt = 0 := by decide
  have h1 : 0 < x.toInt := by rw [Int64.lt_iff_toInt_lt, h0] at h; exact h
  have h2 : x.toInt < 2 ^ 63 := Int64.toInt_lt x
  rw [← Int64.toInt_inj, pk_lT (by omega)]
  omega
end
section
set_option maxHeartbeats 4000000 in
set_option maxRecDepth 100000 in
theorem c_F_threshold (l : Launch) (D : va_G) (t : Nat → ClassId) (A : Nat → Prop) (g : hG) (F : Nat → Prop) (ad : Nat → Nat) (σ : SS) (x : Int32) (hRx : RCx F t ad σ g) (hV : Inv σ) : Met l y_F_threshold (Cond.code y_F_threshold b_F_threshold 3 (some .int) :: TB) ({ frames := 1, cells := 0, slots := 0, locals := 22 } : Room) (va_Pc [.ref (ad 0), .int x] (hI D vwCl (tyL t) EX A g)) (va_Qi (fun r u => r = (spTh σ x).1 ∧ RCx (gr F g) t ad (spTh σ x).2 u ∧ Keep F g u) (fun u v => hw D vwCl A u v.heap) A) 0 0 A := by
  refine Met.ofH (cc := b_F_threshold) (maxL := 3) (ret := (some .int)) (lv := [(0, .ref (ad 0)), (1, .int x)]) (by decide) (Nat.le_of_ble_eq_true rfl) rfl ?_
  intro p e s m below meth c ls X hP hS hl
  obtain ⟨hx, hb, hml, hr, hts, hown, hlocks, hK, hEs, hA, hnm⟩ := id X
  obtain ⟨aR, aL, aD, fR, fL, fI, fN, fB, hRc⟩ := id hRx
  obtain ⟨h0, ⟨h1, h1f⟩, ⟨h2, h2f⟩, ⟨h3, h3f⟩, h4, h5, h6, ⟨h7, h7f⟩, ⟨h8, h8f⟩, h9, hRr, hLl, hDd, h78, ⟨iR, iL, iD⟩, f0, f1, f2, f3⟩ := id hRc
  have hn1 := hV.1.1
  have hn2 := hV.1.2.1
  have hn3 := hV.1.2.2.1
  have hn4 := hV.1.2.2.2
  refine lv_iload_n hx hb d_F_threshold_0 rfl (lv_at hl 1 rfl) ?_
  refine lv_iconst (v := 1) hx hb d_F_threshold_1 (by decide) ?_
  refine lv_ldc (v := 1000000) hx hb hown (hts _ (tbm 357 (by decide +kernel))) d_F_threshold_2 ?_
  refine k_F_47 X ⟨Nat.le_of_ble_eq_true rfl, Nat.le_of_ble_eq_true rfl⟩ ⟨Nat.le_of_ble_eq_true rfl, Nat.le_of_ble_eq_true rfl⟩ hl.1 hP hS (by exact Nat.le_of_ble_eq_true rfl) d_F_threshold_4 (fun r_1 H locs er_1 hP hS => ?_)
  refine lv_if_ne (tgt := 12) hx hb d_F_threshold_7 (by decide) (fun c_2 => ?_) (fun c_2 => ?_)
  · have t_1 := bi_n0.mp (er_1 ▸ c_2)
    refine lv_aload_n hx hb d_F_threshold_12 rfl (lv_at hl 0 rfl) ?_
    refine g_F_42 X hb hP h0 rfl d_F_threshold_13 ?_
    refine lv_topi (fun x_3 ex_3 => ?_)
    refine lv_istore_n (lv' := [(2, .int x_3), (0, .ref (ad 0)), (1, .int x)]) hx hb d_F_threshold_16 rfl hl (by decide) rfl (fun ls hl => ?_)
    refine lv_aload_n hx hb d_F_threshold_17 rfl (lv_at hl 1 rfl) ?_
    refine lv_iload_n hx hb d_F_threshold_18 rfl (lv_at hl 2 rfl) ?_
    refine p_F_42 X hb hP hS h0 (Nat.le_of_ble_eq_true rfl) d_F_threshold_19 (fun H locs hP hS => ?_)
    have he_4 := va_up_self g (ad 0) (some (.inr (0, [.ref (ad 1), .int (nI (sNR σ)), .ref (ad 2), .int (nI (sNL σ)), .ref (ad 3), .ref (ad 4), .ref (ad 5), .ref (ad 6), .int x]) : va_E))
    have hP : hw D vwCl A (va_up g (ad 0) (some (.inr (0, [.ref (ad 1), .int (nI (sNR σ)), .ref (ad 2), .int (nI (sNL σ)), .ref (ad 3), .ref (ad 4), .ref (ad 5), .ref (ad 6), .int x])))) H := hP
    refine lv_iload_n hx hb d_F_threshold_22 rfl (lv_at hl 0 rfl) ?_
    have e9 : spTh σ x = (sTH σ, (σ.1, σ.2.1, σ.2.2.1, σ.2.2.2.1, σ.2.2.2.2.1, x, σ.2.2.2.2.2.2)) := by simp [spTh, t_1]
    exact h_iret hx hb hr hlocks (Nat.le_of_ble_eq_true rfl) (Nat.le_of_ble_eq_true rfl) hP hS (⟨by rw [e9, ex_3], by rw [e9]; exact ⟨_, _, _, _, _, _, _, _, (RC.th hRc x).mono (fun _ h => Or.inl h)⟩, Keep.up Keep.rf (Or.inl (f0 0 (by decide)))⟩) d_F_threshold_23
  · have t_1 := bi_0.mp (er_1 ▸ c_2)
    refine lv_iconst (v := (-1)) hx hb d_F_threshold_10 (by decide) ?_
    have e9 : spTh σ x = (-1, σ) := by simp [spTh, t_1]
    exact h_iret hx hb hr hlocks (Nat.le_of_ble_eq_true rfl) (Nat.le_of_ble_eq_true rfl) hP hS (⟨by rw [e9], by rw [e9]; exact hRx.mono (fun _ h => Or.inl h), Keep.rf⟩) d_F_threshold_11
theorem k_W_83 {p : Program} {l : Launch} {e : Env} {R : Room} {s : State} {m : MethodId} {args : Array Value} {below : List Frame} {meth : Method} {c : Code} {H : Heap} {locs : List Loc} {cells slots : Nat} {Q : State → Prop} {cc : ByteArray} {pc : Nat} {ls : Array Slot} {rest : List Value} {D : va_G} {A : Nat → Prop} {t : Nat → ClassId} {g : hG} {nL : Nat} {ret0 : Option FieldType} {nm : String} (X : Cx p s m args meth c R_W cc nL ret0 TB D vwCl (tyL t) EX A nm) (hR : 1 + 1 ≤ R.frames ∧ 8 + (3 + 11) + 22 ≤ R.locals) (hf : cells + 0 ≤ R.cells ∧ slots + 0 ≤ R.slots) (hls : ls.size = nL) (hP : hw D vwCl A g H) (hS : va_S A s.heap H locs) {F : Nat → Prop} {ad : Nat → Nat} {σ : SS} {x : Int32} {fs9 : List Value} (he9 : g (ad 0) = some (.inr (0, fs9))) (hRx : RCx F t ad σ g) (hV : Inv σ) (hW : (rest.map fun v => v.category).sum ≤ 8) (hdg : decode cc pc = .ok (.invokevirtual 83, 3)) (kk : ∀ (r : Int32) (u : hG) (H1 : Heap) (locs1 : List Loc), ((fun r u => r = (spTh σ x).1 ∧ RCx (gr F g) t ad (spTh σ x).2 u ∧ Keep F g u) r u) → hw D vwCl A u H1 → va_S A s.heap H1 locs1 → W p l e R s m args below meth c H1 locs1 (cells + 0) (slots + 0) Q (F0 m (pc + 3) ls (.int r :: rest))) : W p l e R s m args below meth c H locs cells slots Q (F0 m pc ls (.int x :: .ref (ad 0) :: rest)) :=
  h_ci (runV (C := R_F) (T := F_F) (N := 9) X (c_F_threshold l D t A g F ad σ x hRx hV) (tbm 353 (by decide +kernel)) (tbm 354 (by decide +kernel)) (tbm 355 (by decide +kernel)) (tbm 20 (by decide +kernel)) (tbm 356 (by decide +kernel)) rfl (n := 1) (by decide +kernel) hR hf hP he9 hS hls rfl rfl hW hdg) hS kk

set_option maxHeartbeats 4000000 in
set_option maxRecDepth 100000 in
theorem c_F_rule (l : Launch) (D : va_G) (t : Nat → ClassId) (A : Nat → Prop) (g : hG) (F : Nat → Prop) (ad : Nat → Nat) (σ : SS) (x y z : Int32) (hRx : RCx F t ad σ g) (hV : Inv σ) : Met l y_F_rule (Cond.code y_F_rule b_F_rule 5 (some .int) :: TB) ({ frames := 2, cells := 1, slots := 5, locals := 47 } : Room) (va_Pc [.ref (ad 0), .int x, .int y, .int z] (hI D vwCl (tyL t) EX A g)) (va_Qi (fun r u => r = (spRule σ x y z).1 ∧ RCx (gr F g) t ad (spRule σ x y z).2 u ∧ Keep F g u) (fun u v => hw D vwCl A u v.heap) A) 1 5 A := by
  refine Met.ofH (cc := b_F_rule) (maxL := 5) (ret := (some .int)) (lv := [(0, .ref (ad 0)), (1, .int x), (2, .int y), (3, .int z)]) (by decide) (Nat.le_of_ble_eq_true rfl) rfl ?_
  intro p e s m below meth c ls X hP hS hl
  obtain ⟨hx, hb, hml, hr, hts, hown, hlocks, hK, hEs, hA, hnm⟩ := id X
  obtain ⟨aR, aL, aD, fR, fL, fI, fN, fB, hRc⟩ := id hRx
  obtain ⟨h0, ⟨h1, h1f⟩, ⟨h2, h2f⟩, ⟨h3, h3f⟩, h4, h5, h6, ⟨h7, h7f⟩, ⟨h8, h8f⟩, h9, hRr, hLl, hDd, h78, ⟨iR, iL, iD⟩, f0, f1, f2, f3⟩ := id hRc
  have hn1 := hV.1.1
  have hn2 := hV.1.2.1
  have hn3 := hV.1.2.2.1
  have hn4 := hV.1.2.2.2
  refine lv_iload_n hx hb d_F_rule_0 rfl (lv_at hl 1 rfl) ?_
  refine lv_iconst (v := 0) hx hb d_F_rule_1 (by decide) ?_
  refine lv_ldc (v := 100000) hx hb hown (hts _ (tbm 110 (by decide +kernel))) d_F_rule_2 ?_
  refine k_F_47 X ⟨Nat.le_of_ble_eq_true rfl, Nat.le_of_ble_eq_true rfl⟩ ⟨Nat.le_of_ble_eq_true rfl, Nat.le_of_ble_eq_true rfl⟩ hl.1 hP hS (by exact Nat.le_of_ble_eq_true rfl) d_F_rule_4 (fun r_1 H locs er_1 hP hS => ?_)
  refine lv_if_eq (tgt := 40) hx hb d_F_rule_7 (by decide) (fun c_2 => ?_) (fun c_2 => ?_)
  · have t_1 := bi_0.mp (er_1 ▸ c_2)
    refine lv_iconst (v := (-1)) hx hb d_F_rule_40 (by decide) ?_
    have e9 : spRule σ x y z = (-1, σ) := by simp [spRule, t_1]
    exact h_iret hx hb hr hlocks (Nat.le_of_ble_eq_true rfl) (Nat.le_of_ble_eq_true rfl) hP hS (⟨by rw [e9], by rw [e9]; exact hRx.mono (fun _ h => Or.inl h), Keep.rf⟩) d_F_rule_41
  · have t_1 := bi_n0.mp (er_1 ▸ c_2)
    refine lv_iload_n hx hb d_F_rule_10 rfl (lv_at hl 2 rfl) ?_
    refine lv_iconst (v := 0) hx hb d_F_rule_11 (by decide) ?_
    refine lv_ldc (v := 10000000) hx hb hown (hts _ (tbm 114 (by decide +kernel))) d_F_rule_12 ?_
    refine k_F_47 X ⟨Nat.le_of_ble_eq_true rfl, Nat.le_of_ble_eq_true rfl⟩ ⟨Nat.le_of_ble_eq_true rfl, Nat.le_of_ble_eq_true rfl⟩ hl.1 hP hS (by exact Nat.le_of_ble_eq_true rfl) d_F_rule_14 (fun r_3 H locs er_3 hP hS => ?_)
    refine lv_if_eq (tgt := 40) hx hb d_F_rule_17 (by decide) (fun c_4 => ?_) (fun c_4 => ?_)
    · have t_3 := bi_0.mp (er_3 ▸ c_4)
      refine lv_iconst (v := (-1)) hx hb d_F_rule_40 (by decide) ?_
      have e9 : spRule σ x y z = (-1, σ) := by simp [spRule, t_1, t_3]
      exact h_iret hx hb hr hlocks (Nat.le_of_ble_eq_true rfl) (Nat.le_of_ble_eq_true rfl) hP hS (⟨by rw [e9], by rw [e9]; exact hRx.mono (fun _ h => Or.inl h), Keep.rf⟩) d_F_rule_41
    · have t_3 := bi_n0.mp (er_3 ▸ c_4)
      refine lv_iload_n hx hb d_F_rule_20 rfl (lv_at hl 3 rfl) ?_
      refine lv_iconst (v := 0) hx hb d_F_rule_21 (by decide) ?_
      refine lv_sipush (v := 365) hx hb d_F_rule_22 (by decide) ?_
      refine k_F_47 X ⟨Nat.le_of_ble_eq_true rfl, Nat.le_of_ble_eq_true rfl⟩ ⟨Nat.le_of_ble_eq_true rfl, Nat.le_of_ble_eq_true rfl⟩ hl.1 hP hS (by exact Nat.le_of_ble_eq_true rfl) d_F_rule_25 (fun r_5 H locs er_5 hP hS => ?_)
      refine lv_if_eq (tgt := 40) hx hb d_F_rule_28 (by decide) (fun c_6 => ?_) (fun c_6 => ?_)
      · have t_5 := bi_0.mp (er_5 ▸ c_6)
        refine lv_iconst (v := (-1)) hx hb d_F_rule_40 (by decide) ?_
        have e9 : spRule σ x y z = (-1, σ) := by simp [spRule, t_1, t_3, t_5]
        exact h_iret hx hb hr hlocks (Nat.le_of_ble_eq_true rfl) (Nat.le_of_ble_eq_true rfl) hP hS (⟨by rw [e9], by rw [e9]; exact hRx.mono (fun _ h => Or.inl h), Keep.rf⟩) d_F_rule_41
      · have t_5 := bi_n0.mp (er_5 ▸ c_6)
        refine lv_aload_n hx hb d_F_rule_31 rfl (lv_at hl 0 rfl) ?_
        refine g_F_52 X hb hP h0 rfl d_F_rule_32 ?_
        refine lv_bipush (v := 10) hx hb d_F_rule_35 (by decide) ?_
        refine lv_icmp_lt (tgt := 42) hx hb d_F_rule_37 (by decide) (fun c_7 => ?_) (fun c_7 => ?_)
        · have hlt : sNR σ < 10 := (nI_ltI (b := 10) (by omega) (by decide)).mp c_7
          refine lv_aload_n hx hb d_F_rule_42 rfl (lv_at hl 0 rfl) ?_
          refine g_F_52 X hb hP h0 rfl d_F_rule_43 ?_
          refine lv_istore (lv' := [(4, .int (nI (sNR σ))), (0, .ref (ad 0)), (1, .int x), (2, .int y), (3, .int z)]) hx hb d_F_rule_46 hl (by decide) rfl (fun ls hl => ?_)
          refine lv_aload_n hx hb d_F_rule_48 rfl (lv_at hl 1 rfl) ?_
          refine g_F_11 X hb hP h0 rfl d_F_rule_49 ?_
          refine lv_iload hx hb d_F_rule_52 (lv_at hl 0 rfl) ?_
          refine nw_F_9 X hb hP hS ⟨Nat.le_of_ble_eq_true rfl, Nat.le_of_ble_eq_true rfl⟩ d_F_rule_54 (fun q_8 H hq_8 hP hS => ?_)
          have he_9 := up_at (o := some (.inr (5, [.int 0, .int 0, .int 0, .int 0, .int 0]))) h0 (hw_new h0 hq_8)
          have he_10 := up_at (o := some (.inr (5, [.int 0, .int 0, .int 0, .int 0, .int 0]))) h1 (hw_new h1 hq_8)
          have he_11 := va_up_self g q_8 (some (.inr (5, [.int 0, .int 0, .int 0, .int 0, .int 0]) : va_E))
          have hP : hw D vwCl A (va_up g q_8 (some (.inr (5, [.int 0, .int 0, .int 0, .int 0, .int 0])))) H := hP
          refine lv_dup hx hb d_F_rule_57 rfl ?_
          refine lv_iload_n hx hb d_F_rule_58 rfl (lv_at hl 2 rfl) ?_
          refine lv_iload_n hx hb d_F_rule_59 rfl (lv_at hl 3 rfl) ?_
          refine lv_iload_n hx hb d_F_rule_60 rfl (lv_at hl 4 rfl) ?_
          refine k_F_55 X ⟨Nat.le_of_ble_eq_true rfl, Nat.le_of_ble_eq_true rfl⟩ ⟨Nat.le_of_ble_eq_true rfl, Nat.le_of_ble_eq_true rfl⟩ hl.1 hP hS he_11 (by exact Nat.le_of_ble_eq_true rfl) d_F_rule_61 (fun H locs hP hS => ?_)
          rw [bx_uu] at hP
          have he_13 := up_at (o := some (cRu (x, y, z, 0, 0))) h0 (hw_new h0 hq_8)
          have he_14 := up_at (o := some (cRu (x, y, z, 0, 0))) h1 (hw_new h1 hq_8)
          have he_15 := va_up_self g q_8 (some (cRu (x, y, z, 0, 0) : va_E))
          have hP : hw D vwCl A (va_up g q_8 (some (cRu (x, y, z, 0, 0)))) H := hP
          refine n_aast X hb hP hS 3 5 he_14 rfl he_15 rfl ⟨hlt, by decide⟩ d_F_rule_64 (fun H locs hP hS => ?_)
          have he_16 := up_at (o := some (arQ t 3 10 (va_up fR (sNR σ) (some q_8)))) he_13 (hw_kd he_13 he_14 rfl)
          have he_17 := up_at (o := some (arQ t 3 10 (va_up fR (sNR σ) (some q_8)))) he_15 (hw_kd he_15 he_14 rfl)
          have he_18 := va_up_self (va_up g q_8 (some (cRu (x, y, z, 0, 0)))) (ad 1) (some (arQ t 3 10 (va_up fR (sNR σ) (some q_8)) : va_E))
          have hP : hw D vwCl A (va_up (va_up g q_8 (some (cRu (x, y, z, 0, 0)))) (ad 1) (some (arQ t 3 10 (va_up fR (sNR σ) (some q_8))))) H := hP
          refine lv_aload_n hx hb d_F_rule_65 rfl (lv_at hl 1 rfl) ?_
          refine lv_dup hx hb d_F_rule_66 rfl ?_
          refine g_F_52 X hb hP he_16 rfl d_F_rule_67 ?_
          refine lv_iconst (v := 1) hx hb d_F_rule_70 (by decide) ?_
          refine lv_iadd hx hb d_F_rule_71 ?_
          refine lv_topi (fun x_19 ex_19 => ?_)
          refine p_F_52 X hb hP hS he_16 (Nat.le_of_ble_eq_true rfl) d_F_rule_72 (fun H locs hP hS => ?_)
          have he_20 := up_at (o := some (.inr (0, [.ref (ad 1), .int x_19, .ref (ad 2), .int (nI (sNL σ)), .ref (ad 3), .ref (ad 4), .ref (ad 5), .ref (ad 6), .int (sTH σ)]))) he_17 (hw_kd he_17 he_16 rfl)
          have he_21 := up_at (o := some (.inr (0, [.ref (ad 1), .int x_19, .ref (ad 2), .int (nI (sNL σ)), .ref (ad 3), .ref (ad 4), .ref (ad 5), .ref (ad 6), .int (sTH σ)]))) he_18 (hw_kd he_18 he_16 rfl)
          have he_22 := va_up_self (va_up (va_up g q_8 (some (cRu (x, y, z, 0, 0)))) (ad 1) (some (arQ t 3 10 (va_up fR (sNR σ) (some q_8))))) (ad 0) (some (.inr (0, [.ref (ad 1), .int x_19, .ref (ad 2), .int (nI (sNL σ)), .ref (ad 3), .ref (ad 4), .ref (ad 5), .ref (ad 6), .int (sTH σ)]) : va_E))
          have hP : hw D vwCl A (va_up (va_up (va_up g q_8 (some (cRu (x, y, z, 0, 0)))) (ad 1) (some (arQ t 3 10 (va_up fR (sNR σ) (some q_8))))) (ad 0) (some (.inr (0, [.ref (ad 1), .int x_19, .ref (ad 2), .int (nI (sNL σ)), .ref (ad 3), .ref (ad 4), .ref (ad 5), .ref (ad 6), .int (sTH σ)])))) H := hP
          obtain rfl : x_19 = nI (sNR σ + 1) := by rw [ex_19]; exact nI_1 _
          refine lv_iload hx hb d_F_rule_75 (lv_at hl 0 rfl) ?_
          have e9 : spRule σ x y z = (nI (sNR σ), ((sNR σ + 1, va_up (sRV σ) (sNR σ) (x, y, z, 0, 0)), σ.2)) := by simp [spRule, t_1, t_3, t_5, hlt]
          exact h_iret hx hb hr hlocks (Nat.le_of_ble_eq_true rfl) (Nat.le_of_ble_eq_true rfl) hP hS (⟨by rw [e9], by rw [e9]; exact ⟨_, _, _, _, _, _, _, _, RC.ruleNew hRc q_8 (x, y, z, 0, 0) hq_8 hV⟩, Keep.up (Keep.up (Keep.up Keep.rf (Or.inr hq_8)) (Or.inl (f0 1 (by decide)))) (Or.inl (f0 0 (by decide)))⟩) d_F_rule_77
        · have hlt : ¬ sNR σ < 10 := fun q => c_7 (nI_lt (b := 10) q (by decide))
          refine lv_iconst (v := (-1)) hx hb d_F_rule_40 (by decide) ?_
          have e9 : spRule σ x y z = (-1, σ) := by simp [spRule, t_1, t_3, t_5, hlt]
          exact h_iret hx hb hr hlocks (Nat.le_of_ble_eq_true rfl) (Nat.le_of_ble_eq_true rfl) hP hS (⟨by rw [e9], by rw [e9]; exact hRx.mono (fun _ h => Or.inl h), Keep.rf⟩) d_F_rule_41
theorem k_W_19 {p : Program} {l : Launch} {e : Env} {R : Room} {s : State} {m : MethodId} {args : Array Value} {below : List Frame} {meth : Method} {c : Code} {H : Heap} {locs : List Loc} {cells slots : Nat} {Q : State → Prop} {cc : ByteArray} {pc : Nat} {ls : Array Slot} {rest : List Value} {D : va_G} {A : Nat → Prop} {t : Nat → ClassId} {g : hG} {nL : Nat} {ret0 : Option FieldType} {nm : String} (X : Cx p s m args meth c R_W cc nL ret0 TB D vwCl (tyL t) EX A nm) (hR : 2 + 1 ≤ R.frames ∧ 8 + (5 + 11) + 47 ≤ R.locals) (hf : cells + 1 ≤ R.cells ∧ slots + 5 ≤ R.slots) (hls : ls.size = nL) (hP : hw D vwCl A g H) (hS : va_S A s.heap H locs) {F : Nat → Prop} {ad : Nat → Nat} {σ : SS} {x y z : Int32} {fs9 : List Value} (he9 : g (ad 0) = some (.inr (0, fs9))) (hRx : RCx F t ad σ g) (hV : Inv σ) (hW : (rest.map fun v => v.category).sum ≤ 8) (hdg : decode cc pc = .ok (.invokevirtual 19, 3)) (kk : ∀ (r : Int32) (u : hG) (H1 : Heap) (locs1 : List Loc), ((fun r u => r = (spRule σ x y z).1 ∧ RCx (gr F g) t ad (spRule σ x y z).2 u ∧ Keep F g u) r u) → hw D vwCl A u H1 → va_S A s.heap H1 locs1 → W p l e R s m args below meth c H1 locs1 (cells + 1) (slots + 5) Q (F0 m (pc + 3) ls (.int r :: rest))) : W p l e R s m args below meth c H locs cells slots Q (F0 m pc ls (.int z :: .int y :: .int x :: .ref (ad 0) :: rest)) :=
  h_ci (runV (C := R_F) (T := F_F) (N := 9) X (c_F_rule l D t A g F ad σ x y z hRx hV) (tbm 106 (by decide +kernel)) (tbm 107 (by decide +kernel)) (tbm 108 (by decide +kernel)) (tbm 20 (by decide +kernel)) (tbm 109 (by decide +kernel)) rfl (n := 3) (by decide +kernel) hR hf hP he9 hS hls rfl rfl hW hdg) hS kk
end
section
theorem pos_ne0 {z M : Int32} (h : wi z 1 M = true) : ¬ z.toInt64 = 0 := toI64_ne0 (fun q => by
  have h1 := (wi_iff.mp h).1
  rw [Int32.le_iff_toInt_le] at h1 q
  have e0 : (0 : Int32).toInt = 0 := by decide
  have e1 : (1 : Int32).toInt = 1 := by decide
  omega)
theorem balJ_S (aR : Nat → Nat) (σ : SS) {x : Int32} (h : wi x 0 29 = true) : balJ (fun k => dcOf aR (sLV σ) (sDV σ k)) (sND σ) (fun i => lN (sKR σ i)) x = balS σ x := by
  rw [balJ, if_pos h, sLe_sum]; rfl
end
section
set_option maxHeartbeats 4000000 in
set_option maxRecDepth 100000 in
theorem c_F_overdue (l : Launch) (D : va_G) (t : Nat → ClassId) (A : Nat → Prop) (g : hG) (F : Nat → Prop) (ad : Nat → Nat) (σ : SS) (x : Int32) (d : Int64) (hRx : RCx F t ad σ g) (hV : Inv σ) : Met l y_F_overdue (Cond.code y_F_overdue b_F_overdue 5 (some .long) :: TB) ({ frames := 3, cells := 0, slots := 0, locals := 73 } : Room) (va_Pc [.ref (ad 0), .int x, .long d] (hI D vwCl (tyL t) EX A g)) (va_Ql (fun r u => r = spOver σ x d ∧ u = g) (fun u v => hw D vwCl A u v.heap) A) 0 0 A := by
  refine Met.ofH (cc := b_F_overdue) (maxL := 5) (ret := (some .long)) (lv := [(0, .ref (ad 0)), (1, .int x), (2, .long d)]) (by decide) (Nat.le_of_ble_eq_true rfl) rfl ?_
  intro p e s m below meth c ls X hP hS hl
  obtain ⟨hx, hb, hml, hr, hts, hown, hlocks, hK, hEs, hA, hnm⟩ := id X
  obtain ⟨aR, aL, aD, fR, fL, fI, fN, fB, hRc⟩ := id hRx
  obtain ⟨h0, ⟨h1, h1f⟩, ⟨h2, h2f⟩, ⟨h3, h3f⟩, h4, h5, h6, ⟨h7, h7f⟩, ⟨h8, h8f⟩, h9, hRr, hLl, hDd, h78, ⟨iR, iL, iD⟩, f0, f1, f2, f3⟩ := id hRc
  have hn1 := hV.1.1
  have hn2 := hV.1.2.1
  have hn3 := hV.1.2.2.1
  have hn4 := hV.1.2.2.2
  refine lv_aload_n hx hb d_F_overdue_0 rfl (lv_at hl 0 rfl) ?_
  refine lv_iload_n hx hb d_F_overdue_1 rfl (lv_at hl 1 rfl) ?_
  refine k_F_99 X ⟨Nat.le_of_ble_eq_true rfl, Nat.le_of_ble_eq_true rfl⟩ ⟨Nat.le_of_ble_eq_true rfl, Nat.le_of_ble_eq_true rfl⟩ hl.1 hP hS h0 h0 h2 hn2 h2f hLl (by exact Nat.le_of_ble_eq_true rfl) d_F_overdue_2 (fun r_1 H locs er_1 hP hS => ?_)
  refine lv_topq (fun ey_2 => ?_) (fun y_2 ey_2 => ?_)
  · have hN := lnQ_N hV (er_1 ▸ ey_2)
    refine lv_astoreN (lv' := [(4, .null), (0, .ref (ad 0)), (1, .int x), (2, .long d)]) hx hb d_F_overdue_5 hl (by decide) rfl (fun ls hl => ?_)
    refine lv_aloadN hx hb d_F_overdue_7 (lv_at hl 0 rfl) ?_
    refine lv_ifnullN (tgt := 19) hx hb d_F_overdue_9 (by decide) ?_
    refine lv_ldc2 (v := (-1)) hx hb hown (hts _ (tbm 212 (by decide +kernel))) d_F_overdue_19 ?_
    exact h_lret hx hb hr hlocks (Nat.le_of_ble_eq_true rfl) (Nat.le_of_ble_eq_true rfl) hP hS (⟨by simp [spOver, hN], rfl⟩) d_F_overdue_22
  · obtain ⟨k, hk, rfl, rfl, hst, hln⟩ := lnQ_S hV (er_1 ▸ ey_2)
    refine lv_astore (lv' := [(4, .ref (aL k)), (0, .ref (ad 0)), (1, .int (nI (k + 1))), (2, .long d)]) hx hb d_F_overdue_5 hl (by decide) rfl (fun ls hl => ?_)
    refine lv_aload hx hb d_F_overdue_7 (lv_at hl 0 rfl) ?_
    refine lv_ifnull hx hb d_F_overdue_9 ?_
    refine lv_lload_n hx hb d_F_overdue_12 rfl (lv_at hl 3 rfl) ?_
    refine k_F_76 X ⟨Nat.le_of_ble_eq_true rfl, Nat.le_of_ble_eq_true rfl⟩ ⟨Nat.le_of_ble_eq_true rfl, Nat.le_of_ble_eq_true rfl⟩ hl.1 hP hS (by exact Nat.le_of_ble_eq_true rfl) d_F_overdue_13 (fun r_3 H locs er_3 hP hS => ?_)
    refine lv_if_ne (tgt := 23) hx hb d_F_overdue_16 (by decide) (fun c_4 => ?_) (fun c_4 => ?_)
    · have t_3 := bi_n0.mp (er_3 ▸ c_4)
      refine lv_aload_n hx hb d_F_overdue_23 rfl (lv_at hl 1 rfl) ?_
      refine lv_aload hx hb d_F_overdue_24 (lv_at hl 0 rfl) ?_
      refine lv_lload_n hx hb d_F_overdue_26 rfl (lv_at hl 3 rfl) ?_
      refine k_F_105 X ⟨Nat.le_of_ble_eq_true rfl, Nat.le_of_ble_eq_true rfl⟩ ⟨Nat.le_of_ble_eq_true rfl, Nat.le_of_ble_eq_true rfl⟩ hl.1 hP hS h0 h0 (hLl k hk) (hRr _ (hV.2.2.1 k hk).2.2.1) h5 h9 hn4 (by exact Nat.le_of_ble_eq_true rfl) d_F_overdue_27 (fun r_5 H locs er_5 hP hS => ?_)
      exact h_lret hx hb hr hlocks (Nat.le_of_ble_eq_true rfl) (Nat.le_of_ble_eq_true rfl) hP hS (⟨by rw [er_5, spOver, hln]; simp [t_3, lateJ, lcOf], rfl⟩) d_F_overdue_30
    · have t_3 := bi_0.mp (er_3 ▸ c_4)
      refine lv_ldc2 (v := (-1)) hx hb hown (hts _ (tbm 212 (by decide +kernel))) d_F_overdue_19 ?_
      exact h_lret hx hb hr hlocks (Nat.le_of_ble_eq_true rfl) (Nat.le_of_ble_eq_true rfl) hP hS (⟨by simp [spOver, hln, t_3], rfl⟩) d_F_overdue_22
theorem k_W_45 {p : Program} {l : Launch} {e : Env} {R : Room} {s : State} {m : MethodId} {args : Array Value} {below : List Frame} {meth : Method} {c : Code} {H : Heap} {locs : List Loc} {cells slots : Nat} {Q : State → Prop} {cc : ByteArray} {pc : Nat} {ls : Array Slot} {rest : List Value} {D : va_G} {A : Nat → Prop} {t : Nat → ClassId} {g : hG} {nL : Nat} {ret0 : Option FieldType} {nm : String} (X : Cx p s m args meth c R_W cc nL ret0 TB D vwCl (tyL t) EX A nm) (hR : 3 + 1 ≤ R.frames ∧ 8 + (5 + 11) + 73 ≤ R.locals) (hf : cells + 0 ≤ R.cells ∧ slots + 0 ≤ R.slots) (hls : ls.size = nL) (hP : hw D vwCl A g H) (hS : va_S A s.heap H locs) {F : Nat → Prop} {ad : Nat → Nat} {σ : SS} {x : Int32} {d : Int64} {fs9 : List Value} (he9 : g (ad 0) = some (.inr (0, fs9))) (hRx : RCx F t ad σ g) (hV : Inv σ) (hW : (rest.map fun v => v.category).sum ≤ 8) (hdg : decode cc pc = .ok (.invokevirtual 45, 3)) (kk : ∀ (r : Int64) (H1 : Heap) (locs1 : List Loc), r = spOver σ x d → hw D vwCl A (g) H1 → va_S A s.heap H1 locs1 → W p l e R s m args below meth c H1 locs1 (cells + 0) (slots + 0) Q (F0 m (pc + 3) ls (.long r :: rest))) : W p l e R s m args below meth c H locs cells slots Q (F0 m pc ls (.long d :: .int x :: .ref (ad 0) :: rest)) :=
  h_cl (runV (C := R_F) (T := F_F) (N := 9) X (c_F_overdue l D t A g F ad σ x d hRx hV) (tbm 200 (by decide +kernel)) (tbm 201 (by decide +kernel)) (tbm 202 (by decide +kernel)) (tbm 20 (by decide +kernel)) (tbm 203 (by decide +kernel)) rfl (n := 2) (by decide +kernel) hR hf hP he9 hS hls rfl rfl hW hdg) hS (fun r u H1 locs1 hp hP1 hS1 => kk r H1 locs1 hp.1 (hp.2 ▸ hP1) hS1)

set_option maxHeartbeats 4000000 in
set_option maxRecDepth 100000 in
theorem c_F_waive (l : Launch) (D : va_G) (t : Nat → ClassId) (A : Nat → Prop) (g : hG) (F : Nat → Prop) (ad : Nat → Nat) (σ : SS) (x y : Int32) (hRx : RCx F t ad σ g) (hV : Inv σ) : Met l y_F_waive (Cond.code y_F_waive b_F_waive 6 (some .long) :: TB) ({ frames := 2, cells := 0, slots := 0, locals := 43 } : Room) (va_Pc [.ref (ad 0), .int x, .int y] (hI D vwCl (tyL t) EX A g)) (va_Ql (fun r u => r = (spWaive σ x y).1 ∧ RCx (gr F g) t ad (spWaive σ x y).2 u ∧ Keep F g u) (fun u v => hw D vwCl A u v.heap) A) 0 0 A := by
  refine Met.ofH (cc := b_F_waive) (maxL := 6) (ret := (some .long)) (lv := [(0, .ref (ad 0)), (1, .int x), (2, .int y)]) (by decide) (Nat.le_of_ble_eq_true rfl) rfl ?_
  intro p e s m below meth c ls X hP hS hl
  obtain ⟨hx, hb, hml, hr, hts, hown, hlocks, hK, hEs, hA, hnm⟩ := id X
  obtain ⟨aR, aL, aD, fR, fL, fI, fN, fB, hRc⟩ := id hRx
  obtain ⟨h0, ⟨h1, h1f⟩, ⟨h2, h2f⟩, ⟨h3, h3f⟩, h4, h5, h6, ⟨h7, h7f⟩, ⟨h8, h8f⟩, h9, hRr, hLl, hDd, h78, ⟨iR, iL, iD⟩, f0, f1, f2, f3⟩ := id hRc
  have hn1 := hV.1.1
  have hn2 := hV.1.2.1
  have hn3 := hV.1.2.2.1
  have hn4 := hV.1.2.2.2
  refine lv_aload_n hx hb d_F_waive_0 rfl (lv_at hl 0 rfl) ?_
  refine g_F_27 X hb hP h0 rfl d_F_waive_1 ?_
  refine lv_iload_n hx hb d_F_waive_4 rfl (lv_at hl 1 rfl) ?_
  refine k_F_124 X ⟨Nat.le_of_ble_eq_true rfl, Nat.le_of_ble_eq_true rfl⟩ ⟨Nat.le_of_ble_eq_true rfl, Nat.le_of_ble_eq_true rfl⟩ hl.1 hP hS h4 h4 h7 hn3 (by exact Nat.le_of_ble_eq_true rfl) d_F_waive_5 (fun r_1 H locs er_1 hP hS => ?_)
  refine lv_topq (fun ey_2 => ?_) (fun y_2 ey_2 => ?_)
  · have hN := numQ_none (by omega) h7f (er_1 ▸ ey_2)
    refine lv_astore_nN (lv' := [(3, .null), (0, .ref (ad 0)), (1, .int x), (2, .int y)]) hx hb d_F_waive_8 rfl hl (by decide) rfl (fun ls hl => ?_)
    refine lv_aload_nN hx hb d_F_waive_9 rfl (lv_at hl 0 rfl) ?_
    refine lv_ifnullN (tgt := 23) hx hb d_F_waive_10 (by decide) ?_
    refine lv_ldc2 (v := (-1)) hx hb hown (hts _ (tbm 212 (by decide +kernel))) d_F_waive_23 ?_
    have e9 : spWaive σ x y = (-1, σ) := by simp [spWaive, dbtN_none hN]
    exact h_lret hx hb hr hlocks (Nat.le_of_ble_eq_true rfl) (Nat.le_of_ble_eq_true rfl) hP hS (⟨by rw [e9], by rw [e9]; exact hRx.mono (fun _ h => Or.inl h), Keep.rf⟩) d_F_waive_26
  · obtain ⟨k, hk, rfl, rfl, hwk⟩ := numQ_some (by omega) h7f (er_1 ▸ ey_2)
    refine lv_astore_n (lv' := [(3, .ref (aD k)), (0, .ref (ad 0)), (1, .int (nI (k + 1))), (2, .int y)]) hx hb d_F_waive_8 rfl hl (by decide) rfl (fun ls hl => ?_)
    refine lv_aload_n hx hb d_F_waive_9 rfl (lv_at hl 0 rfl) ?_
    refine lv_ifnull hx hb d_F_waive_10 ?_
    refine lv_iload_n hx hb d_F_waive_13 rfl (lv_at hl 3 rfl) ?_
    refine lv_iconst (v := 0) hx hb d_F_waive_14 (by decide) ?_
    refine lv_ldc (v := 100000) hx hb hown (hts _ (tbm 110 (by decide +kernel))) d_F_waive_15 ?_
    refine k_F_47 X ⟨Nat.le_of_ble_eq_true rfl, Nat.le_of_ble_eq_true rfl⟩ ⟨Nat.le_of_ble_eq_true rfl, Nat.le_of_ble_eq_true rfl⟩ hl.1 hP hS (by exact Nat.le_of_ble_eq_true rfl) d_F_waive_17 (fun r_3 H locs er_3 hP hS => ?_)
    refine lv_if_ne (tgt := 27) hx hb d_F_waive_20 (by decide) (fun c_4 => ?_) (fun c_4 => ?_)
    · have t_3 := bi_n0.mp (er_3 ▸ c_4)
      refine lv_aload_n hx hb d_F_waive_27 rfl (lv_at hl 0 rfl) ?_
      refine g_F_138 X hb hP (hDd k hk) rfl d_F_waive_28 ?_
      refine lv_iload_n hx hb d_F_waive_31 rfl (lv_at hl 3 rfl) ?_
      refine lv_i2l hx hb d_F_waive_32 rfl ?_
      refine W.lcmp hx hb d_F_waive_33 ?_
      refine lv_if_le (tgt := 39) hx hb d_F_waive_34 (by decide) (fun c_5 => ?_) (fun c_5 => ?_)
      · rw [lg_cmp_le] at c_5
        refine lv_aload_n hx hb d_F_waive_39 rfl (lv_at hl 0 rfl) ?_
        refine g_F_138 X hb hP (hDd k hk) rfl d_F_waive_40 ?_
        refine lv_topl (fun x_6 ex_6 => ?_)
        refine lv_lstore (lv' := [(4, .long x_6), (3, .ref (aD k)), (0, .ref (ad 0)), (1, .int (nI (k + 1))), (2, .int y)]) hx hb d_F_waive_43 hl (by decide) rfl (fun ls hl => ?_)
        refine lv_aload_n hx hb d_F_waive_45 rfl (lv_at hl 1 rfl) ?_
        refine lv_lconst (v := 0) hx hb d_F_waive_46 (by decide) ?_
        refine p_F_138 X hb hP hS (hDd k hk) (Nat.le_of_ble_eq_true rfl) d_F_waive_47 (fun H locs hP hS => ?_)
        have he_7 := up_at (o := some (.inr (2, [.int (dcOf aR (sLV σ) (sDV σ k)).1, .ref (dcOf aR (sLV σ) (sDV σ k)).2.1, .int (dcOf aR (sLV σ) (sDV σ k)).2.2.1, .long (dcOf aR (sLV σ) (sDV σ k)).2.2.2.1, .long (dcOf aR (sLV σ) (sDV σ k)).2.2.2.2.1, .long 0, .long (dcOf aR (sLV σ) (sDV σ k)).2.2.2.2.2.2]))) h0 (hw_kd h0 (hDd k hk) rfl)
        have he_8 := up_at (o := some (.inr (2, [.int (dcOf aR (sLV σ) (sDV σ k)).1, .ref (dcOf aR (sLV σ) (sDV σ k)).2.1, .int (dcOf aR (sLV σ) (sDV σ k)).2.2.1, .long (dcOf aR (sLV σ) (sDV σ k)).2.2.2.1, .long (dcOf aR (sLV σ) (sDV σ k)).2.2.2.2.1, .long 0, .long (dcOf aR (sLV σ) (sDV σ k)).2.2.2.2.2.2]))) h4 (hw_kd h4 (hDd k hk) rfl)
        have he_9 := va_up_self g (aD k) (some (.inr (2, [.int (dcOf aR (sLV σ) (sDV σ k)).1, .ref (dcOf aR (sLV σ) (sDV σ k)).2.1, .int (dcOf aR (sLV σ) (sDV σ k)).2.2.1, .long (dcOf aR (sLV σ) (sDV σ k)).2.2.2.1, .long (dcOf aR (sLV σ) (sDV σ k)).2.2.2.2.1, .long 0, .long (dcOf aR (sLV σ) (sDV σ k)).2.2.2.2.2.2]) : va_E))
        have hP : hw D vwCl A (va_up g (aD k) (some (.inr (2, [.int (dcOf aR (sLV σ) (sDV σ k)).1, .ref (dcOf aR (sLV σ) (sDV σ k)).2.1, .int (dcOf aR (sLV σ) (sDV σ k)).2.2.1, .long (dcOf aR (sLV σ) (sDV σ k)).2.2.2.1, .long (dcOf aR (sLV σ) (sDV σ k)).2.2.2.2.1, .long 0, .long (dcOf aR (sLV σ) (sDV σ k)).2.2.2.2.2.2])))) H := hP
        refine lv_lload hx hb d_F_waive_50 (lv_at hl 0 rfl) ?_
        have e9 : spWaive σ (nI (k + 1)) y = (lN (sDV σ k).2.2.1, zeD σ k) := by simp only [spWaive, dbtN_some hV hk]; rw [if_pos t_3, if_neg (Int64.not_lt.mpr (show lN (sDV σ k).2.2.1 ≤ y.toInt64 from c_5))]
        exact h_lret hx hb hr hlocks (Nat.le_of_ble_eq_true rfl) (Nat.le_of_ble_eq_true rfl) hP hS (⟨by rw [e9, ex_6]; rfl, by rw [e9]; exact ⟨_, _, _, _, _, _, _, _, (RC.debt hRc k ((sDV σ k).1, (sDV σ k).2.1, 0, (sDV σ k).2.2.2.1, (sDV σ k).2.2.2.2.1, (sDV σ k).2.2.2.2.2) hk).mono (fun _ h => Or.inl h)⟩, Keep.up Keep.rf (Or.inl (f3 k hk))⟩) d_F_waive_52
      · rw [lg_cmp_le] at c_5
        refine lv_lconst (v := 0) hx hb d_F_waive_37 (by decide) ?_
        have e9 : spWaive σ (nI (k + 1)) y = (0, σ) := by simp only [spWaive, dbtN_some hV hk]; rw [if_pos t_3, if_pos (Int64.not_le.mp (show ¬ lN (sDV σ k).2.2.1 ≤ y.toInt64 from c_5))]
        exact h_lret hx hb hr hlocks (Nat.le_of_ble_eq_true rfl) (Nat.le_of_ble_eq_true rfl) hP hS (⟨by rw [e9], by rw [e9]; exact hRx.mono (fun _ h => Or.inl h), Keep.rf⟩) d_F_waive_38
    · have t_3 := bi_0.mp (er_3 ▸ c_4)
      refine lv_ldc2 (v := (-1)) hx hb hown (hts _ (tbm 212 (by decide +kernel))) d_F_waive_23 ?_
      have e9 : spWaive σ (nI (k + 1)) y = (-1, σ) := by simp [spWaive, dbtN_some hV hk, t_3]
      exact h_lret hx hb hr hlocks (Nat.le_of_ble_eq_true rfl) (Nat.le_of_ble_eq_true rfl) hP hS (⟨by rw [e9], by rw [e9]; exact hRx.mono (fun _ h => Or.inl h), Keep.rf⟩) d_F_waive_26
theorem k_W_69 {p : Program} {l : Launch} {e : Env} {R : Room} {s : State} {m : MethodId} {args : Array Value} {below : List Frame} {meth : Method} {c : Code} {H : Heap} {locs : List Loc} {cells slots : Nat} {Q : State → Prop} {cc : ByteArray} {pc : Nat} {ls : Array Slot} {rest : List Value} {D : va_G} {A : Nat → Prop} {t : Nat → ClassId} {g : hG} {nL : Nat} {ret0 : Option FieldType} {nm : String} (X : Cx p s m args meth c R_W cc nL ret0 TB D vwCl (tyL t) EX A nm) (hR : 2 + 1 ≤ R.frames ∧ 8 + (6 + 11) + 43 ≤ R.locals) (hf : cells + 0 ≤ R.cells ∧ slots + 0 ≤ R.slots) (hls : ls.size = nL) (hP : hw D vwCl A g H) (hS : va_S A s.heap H locs) {F : Nat → Prop} {ad : Nat → Nat} {σ : SS} {x y : Int32} {fs9 : List Value} (he9 : g (ad 0) = some (.inr (0, fs9))) (hRx : RCx F t ad σ g) (hV : Inv σ) (hW : (rest.map fun v => v.category).sum ≤ 8) (hdg : decode cc pc = .ok (.invokevirtual 69, 3)) (kk : ∀ (r : Int64) (u : hG) (H1 : Heap) (locs1 : List Loc), ((fun r u => r = (spWaive σ x y).1 ∧ RCx (gr F g) t ad (spWaive σ x y).2 u ∧ Keep F g u) r u) → hw D vwCl A u H1 → va_S A s.heap H1 locs1 → W p l e R s m args below meth c H1 locs1 (cells + 0) (slots + 0) Q (F0 m (pc + 3) ls (.long r :: rest))) : W p l e R s m args below meth c H locs cells slots Q (F0 m pc ls (.int y :: .int x :: .ref (ad 0) :: rest)) :=
  h_cl (runV (C := R_F) (T := F_F) (N := 9) X (c_F_waive l D t A g F ad σ x y hRx hV) (tbm 318 (by decide +kernel)) (tbm 319 (by decide +kernel)) (tbm 320 (by decide +kernel)) (tbm 20 (by decide +kernel)) (tbm 321 (by decide +kernel)) rfl (n := 2) (by decide +kernel) hR hf hP he9 hS hls rfl rfl hW hdg) hS kk

set_option maxHeartbeats 4000000 in
set_option maxRecDepth 100000 in
theorem c_F_owes (l : Launch) (D : va_G) (t : Nat → ClassId) (A : Nat → Prop) (g : hG) (F : Nat → Prop) (ad : Nat → Nat) (σ : SS) (x : Int32) (d : Int64) (hRx : RCx F t ad σ g) (hV : Inv σ) : Met l y_F_owes (Cond.code y_F_owes b_F_owes 6 (some .long) :: TB) ({ frames := 3, cells := 0, slots := 0, locals := 73 } : Room) (va_Pc [.ref (ad 0), .int x, .long d] (hI D vwCl (tyL t) EX A g)) (va_Ql (fun r u => r = spOwes σ x d ∧ u = g) (fun u v => hw D vwCl A u v.heap) A) 0 0 A := by
  refine Met.ofH (cc := b_F_owes) (maxL := 6) (ret := (some .long)) (lv := [(0, .ref (ad 0)), (1, .int x), (2, .long d)]) (by decide) (Nat.le_of_ble_eq_true rfl) rfl ?_
  intro p e s m below meth c ls X hP hS hl
  obtain ⟨hx, hb, hml, hr, hts, hown, hlocks, hK, hEs, hA, hnm⟩ := id X
  obtain ⟨aR, aL, aD, fR, fL, fI, fN, fB, hRc⟩ := id hRx
  obtain ⟨h0, ⟨h1, h1f⟩, ⟨h2, h2f⟩, ⟨h3, h3f⟩, h4, h5, h6, ⟨h7, h7f⟩, ⟨h8, h8f⟩, h9, hRr, hLl, hDd, h78, ⟨iR, iL, iD⟩, f0, f1, f2, f3⟩ := id hRc
  have hn1 := hV.1.1
  have hn2 := hV.1.2.1
  have hn3 := hV.1.2.2.1
  have hn4 := hV.1.2.2.2
  refine lv_iload_n hx hb d_F_owes_0 rfl (lv_at hl 1 rfl) ?_
  refine k_F_90 X ⟨Nat.le_of_ble_eq_true rfl, Nat.le_of_ble_eq_true rfl⟩ ⟨Nat.le_of_ble_eq_true rfl, Nat.le_of_ble_eq_true rfl⟩ hl.1 hP hS (by exact Nat.le_of_ble_eq_true rfl) d_F_owes_1 (fun r_1 H locs er_1 hP hS => ?_)
  refine lv_if_ne (tgt := 11) hx hb d_F_owes_4 (by decide) (fun c_2 => ?_) (fun c_2 => ?_)
  · have t_1 := bi_n0.mp (er_1 ▸ c_2)
    refine lv_aload_n hx hb d_F_owes_11 rfl (lv_at hl 0 rfl) ?_
    refine lv_iload_n hx hb d_F_owes_12 rfl (lv_at hl 1 rfl) ?_
    refine k_F_159 X ⟨Nat.le_of_ble_eq_true rfl, Nat.le_of_ble_eq_true rfl⟩ ⟨Nat.le_of_ble_eq_true rfl, Nat.le_of_ble_eq_true rfl⟩ hl.1 hP hS h0 h0 h4 h7 hn3 h7f hDd h6 (by exact Nat.le_of_ble_eq_true rfl) d_F_owes_13 (fun r_3 H locs er_3 hP hS => ?_)
    refine lv_lstore (lv' := [(4, .long r_3), (0, .ref (ad 0)), (1, .int x), (2, .long d)]) hx hb d_F_owes_16 hl (by decide) rfl (fun ls hl => ?_)
    refine lv_lload_n hx hb d_F_owes_18 rfl (lv_at hl 3 rfl) ?_
    refine lv_lconst (v := 0) hx hb d_F_owes_19 (by decide) ?_
    refine W.lcmp hx hb d_F_owes_20 ?_
    refine lv_if_lt (tgt := 44) hx hb d_F_owes_21 (by decide) (fun c_4 => ?_) (fun c_4 => ?_)
    · rw [lg_cmp_lt] at c_4
      refine lv_lload hx hb d_F_owes_44 (lv_at hl 0 rfl) ?_
      exact h_lret hx hb hr hlocks (Nat.le_of_ble_eq_true rfl) (Nat.le_of_ble_eq_true rfl) hP hS (⟨by rw [er_3, balJ_S aR σ t_1]; simp [spOwes, t_1, c_4], rfl⟩) d_F_owes_46
    · rw [lg_cmp_lt] at c_4
      refine lv_lload hx hb d_F_owes_24 (lv_at hl 0 rfl) ?_
      refine lv_aload_n hx hb d_F_owes_26 rfl (lv_at hl 1 rfl) ?_
      refine g_F_27 X hb hP h0 rfl d_F_owes_27 ?_
      refine lv_iload_n hx hb d_F_owes_30 rfl (lv_at hl 2 rfl) ?_
      refine lv_lload_n hx hb d_F_owes_31 rfl (lv_at hl 3 rfl) ?_
      refine lv_ldc2 (v := 1000000) hx hb hown (hts _ (tbm 145 (by decide +kernel))) d_F_owes_32 ?_
      refine va_mmin_long hx hb (by rw [hml]; exact hl.1.symm) hown (hts _ (tbm 335 (by decide +kernel))) (hts _ (tbm 226 (by decide +kernel))) (hts _ (tbm 30 (by decide +kernel))) (hts _ (tbm 227 (by decide +kernel))) (Nat.le_of_ble_eq_true rfl) (Nat.le_of_ble_eq_true rfl) (Nat.le_of_ble_eq_true rfl) (Nat.le_of_ble_eq_true rfl) d_F_owes_35 ?_
      refine k_F_171 X ⟨Nat.le_of_ble_eq_true rfl, Nat.le_of_ble_eq_true rfl⟩ ⟨Nat.le_of_ble_eq_true rfl, Nat.le_of_ble_eq_true rfl⟩ hl.1 hP hS h4 h4 h7 hn3 h7f hDd (fun i hi => hRr _ (hV.2.2.1 _ (hV.2.2.2.1 i hi).1).2.2.1) (by exact Nat.le_of_ble_eq_true rfl) d_F_owes_38 (fun r_5 H locs er_5 hP hS => ?_)
      refine lv_ladd hx hb d_F_owes_41 ?_
      refine lv_topl (fun x_6 ex_6 => ?_)
      refine lv_lstore (lv' := [(4, .long x_6), (0, .ref (ad 0)), (1, .int x), (2, .long d)]) hx hb d_F_owes_42 hl (by decide) rfl (fun ls hl => ?_)
      refine lv_lload hx hb d_F_owes_44 (lv_at hl 0 rfl) ?_
      exact h_lret hx hb hr hlocks (Nat.le_of_ble_eq_true rfl) (Nat.le_of_ble_eq_true rfl) hP hS (⟨by rw [ex_6, er_5, er_3, balJ_S aR σ t_1, sIn_sum]; simp [spOwes, t_1, c_4, mnJ], rfl⟩) d_F_owes_46
  · have t_1 := bi_0.mp (er_1 ▸ c_2)
    refine lv_ldc2 (v := (-1000000000000001)) hx hb hown (hts _ (tbm 326 (by decide +kernel))) d_F_owes_7 ?_
    exact h_lret hx hb hr hlocks (Nat.le_of_ble_eq_true rfl) (Nat.le_of_ble_eq_true rfl) hP hS (⟨by simp [spOwes, t_1], rfl⟩) d_F_owes_10
theorem k_W_74 {p : Program} {l : Launch} {e : Env} {R : Room} {s : State} {m : MethodId} {args : Array Value} {below : List Frame} {meth : Method} {c : Code} {H : Heap} {locs : List Loc} {cells slots : Nat} {Q : State → Prop} {cc : ByteArray} {pc : Nat} {ls : Array Slot} {rest : List Value} {D : va_G} {A : Nat → Prop} {t : Nat → ClassId} {g : hG} {nL : Nat} {ret0 : Option FieldType} {nm : String} (X : Cx p s m args meth c R_W cc nL ret0 TB D vwCl (tyL t) EX A nm) (hR : 3 + 1 ≤ R.frames ∧ 8 + (6 + 11) + 73 ≤ R.locals) (hf : cells + 0 ≤ R.cells ∧ slots + 0 ≤ R.slots) (hls : ls.size = nL) (hP : hw D vwCl A g H) (hS : va_S A s.heap H locs) {F : Nat → Prop} {ad : Nat → Nat} {σ : SS} {x : Int32} {d : Int64} {fs9 : List Value} (he9 : g (ad 0) = some (.inr (0, fs9))) (hRx : RCx F t ad σ g) (hV : Inv σ) (hW : (rest.map fun v => v.category).sum ≤ 8) (hdg : decode cc pc = .ok (.invokevirtual 74, 3)) (kk : ∀ (r : Int64) (H1 : Heap) (locs1 : List Loc), r = spOwes σ x d → hw D vwCl A (g) H1 → va_S A s.heap H1 locs1 → W p l e R s m args below meth c H1 locs1 (cells + 0) (slots + 0) Q (F0 m (pc + 3) ls (.long r :: rest))) : W p l e R s m args below meth c H locs cells slots Q (F0 m pc ls (.long d :: .int x :: .ref (ad 0) :: rest)) :=
  h_cl (runV (C := R_F) (T := F_F) (N := 9) X (c_F_owes l D t A g F ad σ x d hRx hV) (tbm 322 (by decide +kernel)) (tbm 323 (by decide +kernel)) (tbm 324 (by decide +kernel)) (tbm 20 (by decide +kernel)) (tbm 325 (by decide +kernel)) rfl (n := 2) (by decide +kernel) hR hf hP he9 hS hls rfl rfl hW hdg) hS (fun r u H1 locs1 hp hP1 hS1 => kk r H1 locs1 hp.1 (hp.2 ▸ hP1) hS1)

set_option maxHeartbeats 4000000 in
set_option maxRecDepth 100000 in
theorem c_F_plan (l : Launch) (D : va_G) (t : Nat → ClassId) (A : Nat → Prop) (g : hG) (F : Nat → Prop) (ad : Nat → Nat) (σ : SS) (x y z : Int32) (hRx : RCx F t ad σ g) (hV : Inv σ) : Met l y_F_plan (Cond.code y_F_plan b_F_plan 10 (some .long) :: TB) ({ frames := 2, cells := 0, slots := 0, locals := 42 } : Room) (va_Pc [.ref (ad 0), .int x, .int y, .int z] (hI D vwCl (tyL t) EX A g)) (va_Ql (fun r u => r = spPlan σ x y z ∧ u = g) (fun u v => hw D vwCl A u v.heap) A) 0 0 A := by
  refine Met.ofH (cc := b_F_plan) (maxL := 10) (ret := (some .long)) (lv := [(0, .ref (ad 0)), (1, .int x), (2, .int y), (3, .int z)]) (by decide) (Nat.le_of_ble_eq_true rfl) rfl ?_
  intro p e s m below meth c ls X hP hS hl
  obtain ⟨hx, hb, hml, hr, hts, hown, hlocks, hK, hEs, hA, hnm⟩ := id X
  obtain ⟨aR, aL, aD, fR, fL, fI, fN, fB, hRc⟩ := id hRx
  obtain ⟨h0, ⟨h1, h1f⟩, ⟨h2, h2f⟩, ⟨h3, h3f⟩, h4, h5, h6, ⟨h7, h7f⟩, ⟨h8, h8f⟩, h9, hRr, hLl, hDd, h78, ⟨iR, iL, iD⟩, f0, f1, f2, f3⟩ := id hRc
  have hn1 := hV.1.1
  have hn2 := hV.1.2.1
  have hn3 := hV.1.2.2.1
  have hn4 := hV.1.2.2.2
  refine lv_iload_n hx hb d_F_plan_0 rfl (lv_at hl 1 rfl) ?_
  refine k_F_90 X ⟨Nat.le_of_ble_eq_true rfl, Nat.le_of_ble_eq_true rfl⟩ ⟨Nat.le_of_ble_eq_true rfl, Nat.le_of_ble_eq_true rfl⟩ hl.1 hP hS (by exact Nat.le_of_ble_eq_true rfl) d_F_plan_1 (fun r_1 H locs er_1 hP hS => ?_)
  refine lv_if_eq (tgt := 28) hx hb d_F_plan_4 (by decide) (fun c_2 => ?_) (fun c_2 => ?_)
  · have t_1 := bi_0.mp (er_1 ▸ c_2)
    refine lv_lconst (v := 0) hx hb d_F_plan_28 (by decide) ?_
    exact h_lret hx hb hr hlocks (Nat.le_of_ble_eq_true rfl) (Nat.le_of_ble_eq_true rfl) hP hS (⟨by simp [spPlan, t_1], rfl⟩) d_F_plan_29
  · have t_1 := bi_n0.mp (er_1 ▸ c_2)
    refine lv_iload_n hx hb d_F_plan_7 rfl (lv_at hl 2 rfl) ?_
    refine lv_iconst (v := 1) hx hb d_F_plan_8 (by decide) ?_
    refine lv_bipush (v := 12) hx hb d_F_plan_9 (by decide) ?_
    refine k_F_47 X ⟨Nat.le_of_ble_eq_true rfl, Nat.le_of_ble_eq_true rfl⟩ ⟨Nat.le_of_ble_eq_true rfl, Nat.le_of_ble_eq_true rfl⟩ hl.1 hP hS (by exact Nat.le_of_ble_eq_true rfl) d_F_plan_11 (fun r_3 H locs er_3 hP hS => ?_)
    refine lv_if_eq (tgt := 28) hx hb d_F_plan_14 (by decide) (fun c_4 => ?_) (fun c_4 => ?_)
    · have t_3 := bi_0.mp (er_3 ▸ c_4)
      refine lv_lconst (v := 0) hx hb d_F_plan_28 (by decide) ?_
      exact h_lret hx hb hr hlocks (Nat.le_of_ble_eq_true rfl) (Nat.le_of_ble_eq_true rfl) hP hS (⟨by simp [spPlan, t_1, t_3], rfl⟩) d_F_plan_29
    · have t_3 := bi_n0.mp (er_3 ▸ c_4)
      refine lv_iload_n hx hb d_F_plan_17 rfl (lv_at hl 3 rfl) ?_
      refine lv_iconst (v := 0) hx hb d_F_plan_18 (by decide) ?_
      refine lv_iload_n hx hb d_F_plan_19 rfl (lv_at hl 2 rfl) ?_
      refine lv_iconst (v := 1) hx hb d_F_plan_20 (by decide) ?_
      refine lv_isub hx hb d_F_plan_21 ?_
      refine k_F_47 X ⟨Nat.le_of_ble_eq_true rfl, Nat.le_of_ble_eq_true rfl⟩ ⟨Nat.le_of_ble_eq_true rfl, Nat.le_of_ble_eq_true rfl⟩ hl.1 hP hS (by exact Nat.le_of_ble_eq_true rfl) d_F_plan_22 (fun r_5 H locs er_5 hP hS => ?_)
      refine lv_if_ne (tgt := 30) hx hb d_F_plan_25 (by decide) (fun c_6 => ?_) (fun c_6 => ?_)
      · have t_5 := bi_n0.mp (er_5 ▸ c_6)
        refine lv_aload_n hx hb d_F_plan_30 rfl (lv_at hl 0 rfl) ?_
        refine g_F_27 X hb hP h0 rfl d_F_plan_31 ?_
        refine lv_iload_n hx hb d_F_plan_34 rfl (lv_at hl 1 rfl) ?_
        refine k_F_175 X ⟨Nat.le_of_ble_eq_true rfl, Nat.le_of_ble_eq_true rfl⟩ ⟨Nat.le_of_ble_eq_true rfl, Nat.le_of_ble_eq_true rfl⟩ hl.1 hP hS h4 h4 h7 hn3 h7f hDd (by exact Nat.le_of_ble_eq_true rfl) d_F_plan_35 (fun r_7 H locs er_7 hP hS => ?_)
        refine lv_lstore (lv' := [(4, .long r_7), (0, .ref (ad 0)), (1, .int x), (2, .int y), (3, .int z)]) hx hb d_F_plan_38 hl (by decide) rfl (fun ls hl => ?_)
        refine lv_lload hx hb d_F_plan_40 (lv_at hl 0 rfl) ?_
        refine lv_iload_n hx hb d_F_plan_42 rfl (lv_at hl 3 rfl) ?_
        refine lv_i2l hx hb d_F_plan_43 rfl ?_
        refine lv_ldiv hx hb d_F_plan_44 (pos_ne0 t_3) ?_
        refine lv_topl (fun x_8 ex_8 => ?_)
        refine lv_lstore (lv' := [(6, .long x_8), (4, .long r_7), (0, .ref (ad 0)), (1, .int x), (2, .int y), (3, .int z)]) hx hb d_F_plan_45 hl (by decide) rfl (fun ls hl => ?_)
        refine lv_lload hx hb d_F_plan_47 (lv_at hl 1 rfl) ?_
        refine lv_iload_n hx hb d_F_plan_49 rfl (lv_at hl 4 rfl) ?_
        refine lv_i2l hx hb d_F_plan_50 rfl ?_
        refine lv_lrem hx hb d_F_plan_51 (pos_ne0 t_3) ?_
        refine lv_topl (fun x_9 ex_9 => ?_)
        refine lv_lstore (lv' := [(8, .long x_9), (6, .long x_8), (4, .long r_7), (0, .ref (ad 0)), (1, .int x), (2, .int y), (3, .int z)]) hx hb d_F_plan_52 hl (by decide) rfl (fun ls hl => ?_)
        refine lv_iload_n hx hb d_F_plan_54 rfl (lv_at hl 6 rfl) ?_
        refine lv_i2l hx hb d_F_plan_55 rfl ?_
        refine lv_lload hx hb d_F_plan_56 (lv_at hl 0 rfl) ?_
        refine W.lcmp hx hb d_F_plan_58 ?_
        refine lv_if_ge (tgt := 69) hx hb d_F_plan_59 (by decide) (fun c_10 => ?_) (fun c_10 => ?_)
        · rw [lg_cmp_ge] at c_10
          refine lv_lload hx hb d_F_plan_69 (lv_at hl 1 rfl) ?_
          exact h_lret hx hb hr hlocks (Nat.le_of_ble_eq_true rfl) (Nat.le_of_ble_eq_true rfl) hP hS (⟨by rw [spPlan, if_pos (by simp [t_1, t_3, t_5]), if_neg (Int64.not_lt.mpr (by rw [ex_9, er_7, sLe_sum] at c_10; exact c_10)), ex_8, er_7, sLe_sum], rfl⟩) d_F_plan_71
        · rw [lg_cmp_ge] at c_10
          refine lv_lload hx hb d_F_plan_62 (lv_at hl 1 rfl) ?_
          refine lv_lconst (v := 1) hx hb d_F_plan_64 (by decide) ?_
          refine lv_ladd hx hb d_F_plan_65 ?_
          refine lv_goto (tgt := 71) hx hb d_F_plan_66 (by decide) ?_
          exact h_lret hx hb hr hlocks (Nat.le_of_ble_eq_true rfl) (Nat.le_of_ble_eq_true rfl) hP hS (⟨by rw [spPlan, if_pos (by simp [t_1, t_3, t_5]), if_pos (by rw [ex_9, er_7, sLe_sum] at c_10; exact Int64.not_le.mp c_10), ex_8, er_7, sLe_sum], rfl⟩) d_F_plan_71
      · have t_5 := bi_0.mp (er_5 ▸ c_6)
        refine lv_lconst (v := 0) hx hb d_F_plan_28 (by decide) ?_
        exact h_lret hx hb hr hlocks (Nat.le_of_ble_eq_true rfl) (Nat.le_of_ble_eq_true rfl) hP hS (⟨by simp [spPlan, t_1, t_3, t_5], rfl⟩) d_F_plan_29
theorem k_W_78 {p : Program} {l : Launch} {e : Env} {R : Room} {s : State} {m : MethodId} {args : Array Value} {below : List Frame} {meth : Method} {c : Code} {H : Heap} {locs : List Loc} {cells slots : Nat} {Q : State → Prop} {cc : ByteArray} {pc : Nat} {ls : Array Slot} {rest : List Value} {D : va_G} {A : Nat → Prop} {t : Nat → ClassId} {g : hG} {nL : Nat} {ret0 : Option FieldType} {nm : String} (X : Cx p s m args meth c R_W cc nL ret0 TB D vwCl (tyL t) EX A nm) (hR : 2 + 1 ≤ R.frames ∧ 8 + (10 + 11) + 42 ≤ R.locals) (hf : cells + 0 ≤ R.cells ∧ slots + 0 ≤ R.slots) (hls : ls.size = nL) (hP : hw D vwCl A g H) (hS : va_S A s.heap H locs) {F : Nat → Prop} {ad : Nat → Nat} {σ : SS} {x y z : Int32} {fs9 : List Value} (he9 : g (ad 0) = some (.inr (0, fs9))) (hRx : RCx F t ad σ g) (hV : Inv σ) (hW : (rest.map fun v => v.category).sum ≤ 8) (hdg : decode cc pc = .ok (.invokevirtual 78, 3)) (kk : ∀ (r : Int64) (H1 : Heap) (locs1 : List Loc), r = spPlan σ x y z → hw D vwCl A (g) H1 → va_S A s.heap H1 locs1 → W p l e R s m args below meth c H1 locs1 (cells + 0) (slots + 0) Q (F0 m (pc + 3) ls (.long r :: rest))) : W p l e R s m args below meth c H locs cells slots Q (F0 m pc ls (.int z :: .int y :: .int x :: .ref (ad 0) :: rest)) :=
  h_cl (runV (C := R_F) (T := F_F) (N := 9) X (c_F_plan l D t A g F ad σ x y z hRx hV) (tbm 349 (by decide +kernel)) (tbm 350 (by decide +kernel)) (tbm 351 (by decide +kernel)) (tbm 20 (by decide +kernel)) (tbm 352 (by decide +kernel)) rfl (n := 3) (by decide +kernel) hR hf hP he9 hS hls rfl rfl hW hdg) hS (fun r u H1 locs1 hp hP1 hS1 => kk r H1 locs1 hp.1 (hp.2 ▸ hP1) hS1)

set_option maxHeartbeats 4000000 in
set_option maxRecDepth 100000 in
theorem c_F_blocked (l : Launch) (D : va_G) (t : Nat → ClassId) (A : Nat → Prop) (g : hG) (F : Nat → Prop) (ad : Nat → Nat) (σ : SS) (x : Int32) (hRx : RCx F t ad σ g) (hV : Inv σ) : Met l y_F_blocked (Cond.code y_F_blocked b_F_blocked 2 (some .boolean) :: TB) ({ frames := 3, cells := 0, slots := 0, locals := 63 } : Room) (va_Pc [.ref (ad 0), .int x] (hI D vwCl (tyL t) EX A g)) (va_Qi (fun r u => r = bi (spBlk σ x) ∧ u = g) (fun u v => hw D vwCl A u v.heap) A) 0 0 A := by
  refine Met.ofH (cc := b_F_blocked) (maxL := 2) (ret := (some .boolean)) (lv := [(0, .ref (ad 0)), (1, .int x)]) (by decide) (Nat.le_of_ble_eq_true rfl) rfl ?_
  intro p e s m below meth c ls X hP hS hl
  obtain ⟨hx, hb, hml, hr, hts, hown, hlocks, hK, hEs, hA, hnm⟩ := id X
  obtain ⟨aR, aL, aD, fR, fL, fI, fN, fB, hRc⟩ := id hRx
  obtain ⟨h0, ⟨h1, h1f⟩, ⟨h2, h2f⟩, ⟨h3, h3f⟩, h4, h5, h6, ⟨h7, h7f⟩, ⟨h8, h8f⟩, h9, hRr, hLl, hDd, h78, ⟨iR, iL, iD⟩, f0, f1, f2, f3⟩ := id hRc
  have hn1 := hV.1.1
  have hn2 := hV.1.2.1
  have hn3 := hV.1.2.2.1
  have hn4 := hV.1.2.2.2
  refine lv_iload_n hx hb d_F_blocked_0 rfl (lv_at hl 1 rfl) ?_
  refine k_F_90 X ⟨Nat.le_of_ble_eq_true rfl, Nat.le_of_ble_eq_true rfl⟩ ⟨Nat.le_of_ble_eq_true rfl, Nat.le_of_ble_eq_true rfl⟩ hl.1 hP hS (by exact Nat.le_of_ble_eq_true rfl) d_F_blocked_1 (fun r_1 H locs er_1 hP hS => ?_)
  refine lv_if_eq (tgt := 25) hx hb d_F_blocked_4 (by decide) (fun c_2 => ?_) (fun c_2 => ?_)
  · have t_1 := bi_0.mp (er_1 ▸ c_2)
    refine lv_iconst (v := 0) hx hb d_F_blocked_25 (by decide) ?_
    exact h_zret hx hb hr hlocks (rfl) (Nat.le_of_ble_eq_true rfl) (Nat.le_of_ble_eq_true rfl) hP hS (⟨by simp [spBlk, bi, t_1], rfl⟩) d_F_blocked_26
  · have t_1 := bi_n0.mp (er_1 ▸ c_2)
    refine lv_aload_n hx hb d_F_blocked_7 rfl (lv_at hl 0 rfl) ?_
    refine lv_iload_n hx hb d_F_blocked_8 rfl (lv_at hl 1 rfl) ?_
    refine k_F_159 X ⟨Nat.le_of_ble_eq_true rfl, Nat.le_of_ble_eq_true rfl⟩ ⟨Nat.le_of_ble_eq_true rfl, Nat.le_of_ble_eq_true rfl⟩ hl.1 hP hS h0 h0 h4 h7 hn3 h7f hDd h6 (by exact Nat.le_of_ble_eq_true rfl) d_F_blocked_9 (fun r_3 H locs er_3 hP hS => ?_)
    refine lv_aload_n hx hb d_F_blocked_12 rfl (lv_at hl 0 rfl) ?_
    refine g_F_42 X hb hP h0 rfl d_F_blocked_13 ?_
    refine lv_i2l hx hb d_F_blocked_16 rfl ?_
    refine W.lcmp hx hb d_F_blocked_17 ?_
    refine lv_if_lt (tgt := 25) hx hb d_F_blocked_18 (by decide) (fun c_4 => ?_) (fun c_4 => ?_)
    · rw [lg_cmp_lt] at c_4
      refine lv_iconst (v := 0) hx hb d_F_blocked_25 (by decide) ?_
      exact h_zret hx hb hr hlocks (rfl) (Nat.le_of_ble_eq_true rfl) (Nat.le_of_ble_eq_true rfl) hP hS (⟨by rw [er_3, balJ_S aR σ t_1] at c_4; simp [spBlk, bi, t_1, Int64.not_le.mpr c_4], rfl⟩) d_F_blocked_26
    · rw [lg_cmp_lt] at c_4
      refine lv_iconst (v := 1) hx hb d_F_blocked_21 (by decide) ?_
      refine lv_goto (tgt := 26) hx hb d_F_blocked_22 (by decide) ?_
      exact h_zret hx hb hr hlocks (rfl) (Nat.le_of_ble_eq_true rfl) (Nat.le_of_ble_eq_true rfl) hP hS (⟨by rw [er_3, balJ_S aR σ t_1] at c_4; simp [spBlk, bi, t_1, Int64.not_lt.mp c_4], rfl⟩) d_F_blocked_26
theorem k_W_88 {p : Program} {l : Launch} {e : Env} {R : Room} {s : State} {m : MethodId} {args : Array Value} {below : List Frame} {meth : Method} {c : Code} {H : Heap} {locs : List Loc} {cells slots : Nat} {Q : State → Prop} {cc : ByteArray} {pc : Nat} {ls : Array Slot} {rest : List Value} {D : va_G} {A : Nat → Prop} {t : Nat → ClassId} {g : hG} {nL : Nat} {ret0 : Option FieldType} {nm : String} (X : Cx p s m args meth c R_W cc nL ret0 TB D vwCl (tyL t) EX A nm) (hR : 3 + 1 ≤ R.frames ∧ 8 + (2 + 11) + 63 ≤ R.locals) (hf : cells + 0 ≤ R.cells ∧ slots + 0 ≤ R.slots) (hls : ls.size = nL) (hP : hw D vwCl A g H) (hS : va_S A s.heap H locs) {F : Nat → Prop} {ad : Nat → Nat} {σ : SS} {x : Int32} {fs9 : List Value} (he9 : g (ad 0) = some (.inr (0, fs9))) (hRx : RCx F t ad σ g) (hV : Inv σ) (hW : (rest.map fun v => v.category).sum ≤ 8) (hdg : decode cc pc = .ok (.invokevirtual 88, 3)) (kk : ∀ (r : Int32) (H1 : Heap) (locs1 : List Loc), r = bi (spBlk σ x) → hw D vwCl A (g) H1 → va_S A s.heap H1 locs1 → W p l e R s m args below meth c H1 locs1 (cells + 0) (slots + 0) Q (F0 m (pc + 3) ls (.int r :: rest))) : W p l e R s m args below meth c H locs cells slots Q (F0 m pc ls (.int x :: .ref (ad 0) :: rest)) :=
  h_ci (runV (C := R_F) (T := F_F) (N := 9) X (c_F_blocked l D t A g F ad σ x hRx hV) (tbm 358 (by decide +kernel)) (tbm 359 (by decide +kernel)) (tbm 360 (by decide +kernel)) (tbm 20 (by decide +kernel)) (tbm 361 (by decide +kernel)) rfl (n := 1) (by decide +kernel) hR hf hP he9 hS hls rfl rfl hW hdg) hS (fun r u H1 locs1 hp hP1 hS1 => kk r H1 locs1 hp.1 (hp.2 ▸ hP1) hS1)

set_option maxHeartbeats 4000000 in
set_option maxRecDepth 100000 in
theorem c_F_share (l : Launch) (D : va_G) (t : Nat → ClassId) (A : Nat → Prop) (g : hG) (F : Nat → Prop) (ad : Nat → Nat) (σ : SS) (x y z : Int32) (hRx : RCx F t ad σ g) (hV : Inv σ) : Met l y_F_share (Cond.code y_F_share b_F_share 5 (some .long) :: TB) ({ frames := 2, cells := 0, slots := 0, locals := 43 } : Room) (va_Pc [.ref (ad 0), .int x, .int y, .int z] (hI D vwCl (tyL t) EX A g)) (va_Ql (fun r u => r = spShare σ x y z ∧ u = g) (fun u v => hw D vwCl A u v.heap) A) 0 0 A := by
  refine Met.ofH (cc := b_F_share) (maxL := 5) (ret := (some .long)) (lv := [(0, .ref (ad 0)), (1, .int x), (2, .int y), (3, .int z)]) (by decide) (Nat.le_of_ble_eq_true rfl) rfl ?_
  intro p e s m below meth c ls X hP hS hl
  obtain ⟨hx, hb, hml, hr, hts, hown, hlocks, hK, hEs, hA, hnm⟩ := id X
  obtain ⟨aR, aL, aD, fR, fL, fI, fN, fB, hRc⟩ := id hRx
  obtain ⟨h0, ⟨h1, h1f⟩, ⟨h2, h2f⟩, ⟨h3, h3f⟩, h4, h5, h6, ⟨h7, h7f⟩, ⟨h8, h8f⟩, h9, hRr, hLl, hDd, h78, ⟨iR, iL, iD⟩, f0, f1, f2, f3⟩ := id hRc
  have hn1 := hV.1.1
  have hn2 := hV.1.2.1
  have hn3 := hV.1.2.2.1
  have hn4 := hV.1.2.2.2
  refine lv_aload_n hx hb d_F_share_0 rfl (lv_at hl 0 rfl) ?_
  refine g_F_27 X hb hP h0 rfl d_F_share_1 ?_
  refine lv_iload_n hx hb d_F_share_4 rfl (lv_at hl 1 rfl) ?_
  refine k_F_124 X ⟨Nat.le_of_ble_eq_true rfl, Nat.le_of_ble_eq_true rfl⟩ ⟨Nat.le_of_ble_eq_true rfl, Nat.le_of_ble_eq_true rfl⟩ hl.1 hP hS h4 h4 h7 hn3 (by exact Nat.le_of_ble_eq_true rfl) d_F_share_5 (fun r_1 H locs er_1 hP hS => ?_)
  refine lv_topq (fun ey_2 => ?_) (fun y_2 ey_2 => ?_)
  · have hN := numQ_none (by omega) h7f (er_1 ▸ ey_2)
    refine lv_astoreN (lv' := [(4, .null), (0, .ref (ad 0)), (1, .int x), (2, .int y), (3, .int z)]) hx hb d_F_share_8 hl (by decide) rfl (fun ls hl => ?_)
    refine lv_aloadN hx hb d_F_share_10 (lv_at hl 0 rfl) ?_
    refine lv_ifnullN (tgt := 35) hx hb d_F_share_12 (by decide) ?_
    refine lv_ldc2 (v := (-1)) hx hb hown (hts _ (tbm 212 (by decide +kernel))) d_F_share_35 ?_
    exact h_lret hx hb hr hlocks (Nat.le_of_ble_eq_true rfl) (Nat.le_of_ble_eq_true rfl) hP hS (⟨by simp [spShare, dbtN_none hN], rfl⟩) d_F_share_38
  · obtain ⟨k, hk, rfl, rfl, hwk⟩ := numQ_some (by omega) h7f (er_1 ▸ ey_2)
    refine lv_astore (lv' := [(4, .ref (aD k)), (0, .ref (ad 0)), (1, .int (nI (k + 1))), (2, .int y), (3, .int z)]) hx hb d_F_share_8 hl (by decide) rfl (fun ls hl => ?_)
    refine lv_aload hx hb d_F_share_10 (lv_at hl 0 rfl) ?_
    refine lv_ifnull hx hb d_F_share_12 ?_
    refine lv_iload_n hx hb d_F_share_15 rfl (lv_at hl 4 rfl) ?_
    refine lv_iconst (v := 1) hx hb d_F_share_16 (by decide) ?_
    refine lv_sipush (v := 1000) hx hb d_F_share_17 (by decide) ?_
    refine k_F_47 X ⟨Nat.le_of_ble_eq_true rfl, Nat.le_of_ble_eq_true rfl⟩ ⟨Nat.le_of_ble_eq_true rfl, Nat.le_of_ble_eq_true rfl⟩ hl.1 hP hS (by exact Nat.le_of_ble_eq_true rfl) d_F_share_20 (fun r_3 H locs er_3 hP hS => ?_)
    refine lv_if_eq (tgt := 35) hx hb d_F_share_23 (by decide) (fun c_4 => ?_) (fun c_4 => ?_)
    · have t_3 := bi_0.mp (er_3 ▸ c_4)
      refine lv_ldc2 (v := (-1)) hx hb hown (hts _ (tbm 212 (by decide +kernel))) d_F_share_35 ?_
      exact h_lret hx hb hr hlocks (Nat.le_of_ble_eq_true rfl) (Nat.le_of_ble_eq_true rfl) hP hS (⟨by simp [spShare, dbtN_some hV hk, t_3], rfl⟩) d_F_share_38
    · have t_3 := bi_n0.mp (er_3 ▸ c_4)
      refine lv_iload_n hx hb d_F_share_26 rfl (lv_at hl 3 rfl) ?_
      refine lv_iconst (v := 1) hx hb d_F_share_27 (by decide) ?_
      refine lv_iload_n hx hb d_F_share_28 rfl (lv_at hl 4 rfl) ?_
      refine k_F_47 X ⟨Nat.le_of_ble_eq_true rfl, Nat.le_of_ble_eq_true rfl⟩ ⟨Nat.le_of_ble_eq_true rfl, Nat.le_of_ble_eq_true rfl⟩ hl.1 hP hS (by exact Nat.le_of_ble_eq_true rfl) d_F_share_29 (fun r_5 H locs er_5 hP hS => ?_)
      refine lv_if_ne (tgt := 39) hx hb d_F_share_32 (by decide) (fun c_6 => ?_) (fun c_6 => ?_)
      · have t_5 := bi_n0.mp (er_5 ▸ c_6)
        refine lv_aload hx hb d_F_share_39 (lv_at hl 0 rfl) ?_
        refine g_F_178 X hb hP (hDd k hk) rfl d_F_share_41 ?_
        refine lv_iload_n hx hb d_F_share_44 rfl (lv_at hl 3 rfl) ?_
        refine lv_i2l hx hb d_F_share_45 rfl ?_
        refine lv_lmul hx hb d_F_share_46 ?_
        refine lv_iload_n hx hb d_F_share_47 rfl (lv_at hl 4 rfl) ?_
        refine lv_i2l hx hb d_F_share_48 rfl ?_
        refine lv_ldiv hx hb d_F_share_49 (pos_ne0 t_3) ?_
        exact h_lret hx hb hr hlocks (Nat.le_of_ble_eq_true rfl) (Nat.le_of_ble_eq_true rfl) hP hS (⟨by simp only [spShare, dbtN_some hV hk]; rw [if_pos (by simp [t_3, t_5])]; rfl, rfl⟩) d_F_share_50
      · have t_5 := bi_0.mp (er_5 ▸ c_6)
        refine lv_ldc2 (v := (-1)) hx hb hown (hts _ (tbm 212 (by decide +kernel))) d_F_share_35 ?_
        exact h_lret hx hb hr hlocks (Nat.le_of_ble_eq_true rfl) (Nat.le_of_ble_eq_true rfl) hP hS (⟨by simp [spShare, dbtN_some hV hk, t_3, t_5], rfl⟩) d_F_share_38
theorem k_W_97 {p : Program} {l : Launch} {e : Env} {R : Room} {s : State} {m : MethodId} {args : Array Value} {below : List Frame} {meth : Method} {c : Code} {H : Heap} {locs : List Loc} {cells slots : Nat} {Q : State → Prop} {cc : ByteArray} {pc : Nat} {ls : Array Slot} {rest : List Value} {D : va_G} {A : Nat → Prop} {t : Nat → ClassId} {g : hG} {nL : Nat} {ret0 : Option FieldType} {nm : String} (X : Cx p s m args meth c R_W cc nL ret0 TB D vwCl (tyL t) EX A nm) (hR : 2 + 1 ≤ R.frames ∧ 8 + (5 + 11) + 43 ≤ R.locals) (hf : cells + 0 ≤ R.cells ∧ slots + 0 ≤ R.slots) (hls : ls.size = nL) (hP : hw D vwCl A g H) (hS : va_S A s.heap H locs) {F : Nat → Prop} {ad : Nat → Nat} {σ : SS} {x y z : Int32} {fs9 : List Value} (he9 : g (ad 0) = some (.inr (0, fs9))) (hRx : RCx F t ad σ g) (hV : Inv σ) (hW : (rest.map fun v => v.category).sum ≤ 8) (hdg : decode cc pc = .ok (.invokevirtual 97, 3)) (kk : ∀ (r : Int64) (H1 : Heap) (locs1 : List Loc), r = spShare σ x y z → hw D vwCl A (g) H1 → va_S A s.heap H1 locs1 → W p l e R s m args below meth c H1 locs1 (cells + 0) (slots + 0) Q (F0 m (pc + 3) ls (.long r :: rest))) : W p l e R s m args below meth c H locs cells slots Q (F0 m pc ls (.int z :: .int y :: .int x :: .ref (ad 0) :: rest)) :=
  h_cl (runV (C := R_F) (T := F_F) (N := 9) X (c_F_share l D t A g F ad σ x y z hRx hV) (tbm 368 (by decide +kernel)) (tbm 369 (by decide +kernel)) (tbm 370 (by decide +kernel)) (tbm 20 (by decide +kernel)) (tbm 371 (by decide +kernel)) rfl (n := 3) (by decide +kernel) hR hf hP he9 hS hls rfl rfl hW hdg) hS (fun r u H1 locs1 hp hP1 hS1 => kk r H1 locs1 hp.1 (hp.2 ▸ hP1) hS1)

set_option maxHeartbeats 4000000 in
set_option maxRecDepth 100000 in
theorem c_F_debt (l : Launch) (D : va_G) (t : Nat → ClassId) (A : Nat → Prop) (g : hG) (F : Nat → Prop) (ad : Nat → Nat) (σ : SS) (x y : Int32) (hRx : RCx F t ad σ g) (hV : Inv σ) : Met l y_F_debt (Cond.code y_F_debt b_F_debt 4 (some .long) :: TB) ({ frames := 2, cells := 0, slots := 0, locals := 46 } : Room) (va_Pc [.ref (ad 0), .int x, .int y] (hI D vwCl (tyL t) EX A g)) (va_Ql (fun r u => r = spDebt σ x y ∧ u = g) (fun u v => hw D vwCl A u v.heap) A) 0 0 A := by
  refine Met.ofH (cc := b_F_debt) (maxL := 4) (ret := (some .long)) (lv := [(0, .ref (ad 0)), (1, .int x), (2, .int y)]) (by decide) (Nat.le_of_ble_eq_true rfl) rfl ?_
  intro p e s m below meth c ls X hP hS hl
  obtain ⟨hx, hb, hml, hr, hts, hown, hlocks, hK, hEs, hA, hnm⟩ := id X
  obtain ⟨aR, aL, aD, fR, fL, fI, fN, fB, hRc⟩ := id hRx
  obtain ⟨h0, ⟨h1, h1f⟩, ⟨h2, h2f⟩, ⟨h3, h3f⟩, h4, h5, h6, ⟨h7, h7f⟩, ⟨h8, h8f⟩, h9, hRr, hLl, hDd, h78, ⟨iR, iL, iD⟩, f0, f1, f2, f3⟩ := id hRc
  have hn1 := hV.1.1
  have hn2 := hV.1.2.1
  have hn3 := hV.1.2.2.1
  have hn4 := hV.1.2.2.2
  refine lv_aload_n hx hb d_F_debt_0 rfl (lv_at hl 0 rfl) ?_
  refine g_F_27 X hb hP h0 rfl d_F_debt_1 ?_
  refine lv_iload_n hx hb d_F_debt_4 rfl (lv_at hl 1 rfl) ?_
  refine k_F_124 X ⟨Nat.le_of_ble_eq_true rfl, Nat.le_of_ble_eq_true rfl⟩ ⟨Nat.le_of_ble_eq_true rfl, Nat.le_of_ble_eq_true rfl⟩ hl.1 hP hS h4 h4 h7 hn3 (by exact Nat.le_of_ble_eq_true rfl) d_F_debt_5 (fun r_1 H locs er_1 hP hS => ?_)
  refine lv_topq (fun ey_2 => ?_) (fun y_2 ey_2 => ?_)
  · have hN := numQ_none (by omega) h7f (er_1 ▸ ey_2)
    refine lv_astore_nN (lv' := [(3, .null), (0, .ref (ad 0)), (1, .int x), (2, .int y)]) hx hb d_F_debt_8 rfl hl (by decide) rfl (fun ls hl => ?_)
    refine lv_aload_nN hx hb d_F_debt_9 rfl (lv_at hl 0 rfl) ?_
    refine lv_ifnonnullN hx hb d_F_debt_10 ?_
    refine lv_ldc2 (v := (-1)) hx hb hown (hts _ (tbm 212 (by decide +kernel))) d_F_debt_13 ?_
    exact h_lret hx hb hr hlocks (Nat.le_of_ble_eq_true rfl) (Nat.le_of_ble_eq_true rfl) hP hS (⟨by simp [spDebt, dbtN_none hN], rfl⟩) d_F_debt_16
  · obtain ⟨k, hk, rfl, rfl, hwk⟩ := numQ_some (by omega) h7f (er_1 ▸ ey_2)
    refine lv_astore_n (lv' := [(3, .ref (aD k)), (0, .ref (ad 0)), (1, .int (nI (k + 1))), (2, .int y)]) hx hb d_F_debt_8 rfl hl (by decide) rfl (fun ls hl => ?_)
    refine lv_aload_n hx hb d_F_debt_9 rfl (lv_at hl 0 rfl) ?_
    refine lv_ifnonnull (tgt := 17) hx hb d_F_debt_10 (by decide) ?_
    refine lv_iload_n hx hb d_F_debt_17 rfl (lv_at hl 3 rfl) ?_
    by_cases s_3 : y = 0
    · subst s_3
      refine lv_tableIn (off := 38) (tgt := 56) hx hb d_F_debt_18 (by decide) (by decide) rfl (by decide) ?_
      refine lv_aload_n hx hb d_F_debt_56 rfl (lv_at hl 0 rfl) ?_
      refine g_F_152 X hb hP (hDd k hk) rfl d_F_debt_57 ?_
      refine lv_i2l hx hb d_F_debt_60 rfl ?_
      exact h_lret hx hb hr hlocks (Nat.le_of_ble_eq_true rfl) (Nat.le_of_ble_eq_true rfl) hP hS (⟨by simp [spDebt, dbtN_some hV hk]; try rfl, rfl⟩) d_F_debt_61
    by_cases s_4 : y = 1
    · subst s_4
      refine lv_tableIn (off := 44) (tgt := 62) hx hb d_F_debt_18 (by decide) (by decide) rfl (by decide) ?_
      refine lv_aload_n hx hb d_F_debt_62 rfl (lv_at hl 0 rfl) ?_
      refine g_F_178 X hb hP (hDd k hk) rfl d_F_debt_63 ?_
      exact h_lret hx hb hr hlocks (Nat.le_of_ble_eq_true rfl) (Nat.le_of_ble_eq_true rfl) hP hS (⟨by simp [spDebt, dbtN_some hV hk]; try rfl, rfl⟩) d_F_debt_66
    by_cases s_5 : y = 2
    · subst s_5
      refine lv_tableIn (off := 49) (tgt := 67) hx hb d_F_debt_18 (by decide) (by decide) rfl (by decide) ?_
      refine lv_aload_n hx hb d_F_debt_67 rfl (lv_at hl 0 rfl) ?_
      refine g_F_138 X hb hP (hDd k hk) rfl d_F_debt_68 ?_
      exact h_lret hx hb hr hlocks (Nat.le_of_ble_eq_true rfl) (Nat.le_of_ble_eq_true rfl) hP hS (⟨by simp [spDebt, dbtN_some hV hk]; try rfl, rfl⟩) d_F_debt_71
    by_cases s_6 : y = 3
    · subst s_6
      refine lv_tableIn (off := 54) (tgt := 72) hx hb d_F_debt_18 (by decide) (by decide) rfl (by decide) ?_
      refine lv_aload_n hx hb d_F_debt_72 rfl (lv_at hl 0 rfl) ?_
      refine g_F_181 X hb hP (hDd k hk) rfl d_F_debt_73 ?_
      exact h_lret hx hb hr hlocks (Nat.le_of_ble_eq_true rfl) (Nat.le_of_ble_eq_true rfl) hP hS (⟨by simp [spDebt, dbtN_some hV hk]; try rfl, rfl⟩) d_F_debt_76
    by_cases s_7 : y = 4
    · subst s_7
      refine lv_tableIn (off := 59) (tgt := 77) hx hb d_F_debt_18 (by decide) (by decide) rfl (by decide) ?_
      refine lv_aload_n hx hb d_F_debt_77 rfl (lv_at hl 0 rfl) ?_
      refine g_F_184 X hb hP (hDd k hk) rfl d_F_debt_78 ?_
      refine lv_i2l hx hb d_F_debt_81 rfl ?_
      exact h_lret hx hb hr hlocks (Nat.le_of_ble_eq_true rfl) (Nat.le_of_ble_eq_true rfl) hP hS (⟨by simp [spDebt, dbtN_some hV hk]; try rfl, rfl⟩) d_F_debt_82
    by_cases s_8 : y = 5
    · subst s_8
      refine lv_tableIn (off := 65) (tgt := 83) hx hb d_F_debt_18 (by decide) (by decide) rfl (by decide) ?_
      refine lv_aload_n hx hb d_F_debt_83 rfl (lv_at hl 0 rfl) ?_
      refine lv_aload_n hx hb d_F_debt_84 rfl (lv_at hl 0 rfl) ?_
      refine g_F_181 X hb hP (hDd k hk) rfl d_F_debt_85 ?_
      refine lv_ldc2 (v := 30) hx hb hown (hts _ (tbm 366 (by decide +kernel))) d_F_debt_88 ?_
      refine lv_ladd hx hb d_F_debt_91 ?_
      refine k_F_189 X ⟨Nat.le_of_ble_eq_true rfl, Nat.le_of_ble_eq_true rfl⟩ ⟨Nat.le_of_ble_eq_true rfl, Nat.le_of_ble_eq_true rfl⟩ hl.1 hP hS (hDd k hk) (hDd k hk) (hRr _ (hV.2.2.1 _ (hV.2.2.2.1 k hk).1).2.2.1) (by exact Nat.le_of_ble_eq_true rfl) d_F_debt_92 (fun r_9 H locs er_9 hP hS => ?_)
      exact h_lret hx hb hr hlocks (Nat.le_of_ble_eq_true rfl) (Nat.le_of_ble_eq_true rfl) hP hS (⟨by rw [er_9]; simp [spDebt, dbtN_some hV hk]; rfl, rfl⟩) d_F_debt_95
    refine lv_tableOut (tgt := 96) hx hb d_F_debt_18 (by have n0 := lv_neT s_3 (k := 0) (a := 0) rfl; have n1 := lv_neT s_4 (k := 1) (a := 1) rfl; have n2 := lv_neT s_5 (k := 2) (a := 2) rfl; have n3 := lv_neT s_6 (k := 3) (a := 3) rfl; have n4 := lv_neT s_7 (k := 4) (a := 4) rfl; have n5 := lv_neT s_8 (k := 5) (a := 5) rfl; omega) (by decide) ?_
    refine lv_ldc2 (v := (-1)) hx hb hown (hts _ (tbm 212 (by decide +kernel))) d_F_debt_96 ?_
    exact h_lret hx hb hr hlocks (Nat.le_of_ble_eq_true rfl) (Nat.le_of_ble_eq_true rfl) hP hS (⟨by simp [spDebt, dbtN_some hV hk, s_3, s_4, s_5, s_6, s_7, s_8], rfl⟩) d_F_debt_99
theorem k_W_93 {p : Program} {l : Launch} {e : Env} {R : Room} {s : State} {m : MethodId} {args : Array Value} {below : List Frame} {meth : Method} {c : Code} {H : Heap} {locs : List Loc} {cells slots : Nat} {Q : State → Prop} {cc : ByteArray} {pc : Nat} {ls : Array Slot} {rest : List Value} {D : va_G} {A : Nat → Prop} {t : Nat → ClassId} {g : hG} {nL : Nat} {ret0 : Option FieldType} {nm : String} (X : Cx p s m args meth c R_W cc nL ret0 TB D vwCl (tyL t) EX A nm) (hR : 2 + 1 ≤ R.frames ∧ 8 + (4 + 11) + 46 ≤ R.locals) (hf : cells + 0 ≤ R.cells ∧ slots + 0 ≤ R.slots) (hls : ls.size = nL) (hP : hw D vwCl A g H) (hS : va_S A s.heap H locs) {F : Nat → Prop} {ad : Nat → Nat} {σ : SS} {x y : Int32} {fs9 : List Value} (he9 : g (ad 0) = some (.inr (0, fs9))) (hRx : RCx F t ad σ g) (hV : Inv σ) (hW : (rest.map fun v => v.category).sum ≤ 8) (hdg : decode cc pc = .ok (.invokevirtual 93, 3)) (kk : ∀ (r : Int64) (H1 : Heap) (locs1 : List Loc), r = spDebt σ x y → hw D vwCl A (g) H1 → va_S A s.heap H1 locs1 → W p l e R s m args below meth c H1 locs1 (cells + 0) (slots + 0) Q (F0 m (pc + 3) ls (.long r :: rest))) : W p l e R s m args below meth c H locs cells slots Q (F0 m pc ls (.int y :: .int x :: .ref (ad 0) :: rest)) :=
  h_cl (runV (C := R_F) (T := F_F) (N := 9) X (c_F_debt l D t A g F ad σ x y hRx hV) (tbm 362 (by decide +kernel)) (tbm 363 (by decide +kernel)) (tbm 364 (by decide +kernel)) (tbm 20 (by decide +kernel)) (tbm 365 (by decide +kernel)) rfl (n := 2) (by decide +kernel) hR hf hP he9 hS hls rfl rfl hW hdg) hS (fun r u H1 locs1 hp hP1 hS1 => kk r H1 locs1 hp.1 (hp.2 ▸ hP1) hS1)
end
section
set_option maxHeartbeats 4000000 in
set_option maxRecDepth 100000 in
theorem c_F_closed (l : Launch) (D : va_G) (t : Nat → ClassId) (A : Nat → Prop) (g : hG) (F : Nat → Prop) (ad : Nat → Nat) (σ : SS) (x : Int64) (hRx : RCx F t ad σ g) (hV : Inv σ) : Met l y_F_closed (Cond.code y_F_closed b_F_closed 3 (some .int) :: TB) ({ frames := 2, cells := 0, slots := 0, locals := 48 } : Room) (va_Pc [.ref (ad 0), .long x] (hI D vwCl (tyL t) EX A g)) (va_Qi (fun r u => r = (spClosed σ x).1 ∧ RCx (gr F g) t ad (spClosed σ x).2 u ∧ Keep F g u) (fun u v => hw D vwCl A u v.heap) A) 0 0 A := by
  refine Met.ofH (cc := b_F_closed) (maxL := 3) (ret := (some .int)) (lv := [(0, .ref (ad 0)), (1, .long x)]) (by decide) (Nat.le_of_ble_eq_true rfl) rfl ?_
  intro p e s m below meth c ls X hP hS hl
  obtain ⟨hx, hb, hml, hr, hts, hown, hlocks, hK, hEs, hA, hnm⟩ := id X
  obtain ⟨aR, aL, aD, fR, fL, fI, fN, fB, hRc⟩ := id hRx
  obtain ⟨h0, ⟨h1, h1f⟩, ⟨h2, h2f⟩, ⟨h3, h3f⟩, h4, h5, h6, ⟨h7, h7f⟩, ⟨h8, h8f⟩, h9, hRr, hLl, hDd, h78, ⟨iR, iL, iD⟩, f0, f1, f2, f3⟩ := id hRc
  have hn1 := hV.1.1
  have hn2 := hV.1.2.1
  have hn3 := hV.1.2.2.1
  have hn4 := hV.1.2.2.2
  refine lv_lload_n hx hb d_F_closed_0 rfl (lv_at hl 1 rfl) ?_
  refine k_F_76 X ⟨Nat.le_of_ble_eq_true rfl, Nat.le_of_ble_eq_true rfl⟩ ⟨Nat.le_of_ble_eq_true rfl, Nat.le_of_ble_eq_true rfl⟩ hl.1 hP hS (by exact Nat.le_of_ble_eq_true rfl) d_F_closed_1 (fun r_1 H locs er_1 hP hS => ?_)
  refine lv_if_eq (tgt := 18) hx hb d_F_closed_4 (by decide) (fun c_2 => ?_) (fun c_2 => ?_)
  · have t_1 := bi_0.mp (er_1 ▸ c_2)
    refine lv_iconst (v := 0) hx hb d_F_closed_18 (by decide) ?_
    have e9 : spClosed σ x = (0, σ) := by simp [spClosed, t_1]
    exact h_iret hx hb hr hlocks (Nat.le_of_ble_eq_true rfl) (Nat.le_of_ble_eq_true rfl) hP hS (⟨by rw [e9], by rw [e9]; exact hRx.mono (fun _ h => Or.inl h), Keep.rf⟩) d_F_closed_19
  · have t_1 := bi_n0.mp (er_1 ▸ c_2)
    refine lv_aload_n hx hb d_F_closed_7 rfl (lv_at hl 0 rfl) ?_
    refine g_F_34 X hb hP h0 rfl d_F_closed_8 ?_
    refine lv_lload_n hx hb d_F_closed_11 rfl (lv_at hl 1 rfl) ?_
    refine k_F_80 X ⟨Nat.le_of_ble_eq_true rfl, Nat.le_of_ble_eq_true rfl⟩ ⟨Nat.le_of_ble_eq_true rfl, Nat.le_of_ble_eq_true rfl⟩ hl.1 hP hS h5 h5 h9 hn4 (by exact Nat.le_of_ble_eq_true rfl) d_F_closed_12 (fun r_3 H locs er_3 hP hS => ?_)
    refine lv_if_ne (tgt := 20) hx hb d_F_closed_15 (by decide) (fun c_4 => ?_) (fun c_4 => ?_)
    · have t_3 := bi_n0.mp (er_3 ▸ c_4)
      rw [cAdd, if_pos t_3] at hP
      refine lv_aload_n hx hb d_F_closed_20 rfl (lv_at hl 0 rfl) ?_
      refine g_F_34 X hb hP (up_at (up_at h0 (hw_kd h0 h9 rfl)) (hw_kd h0 h5 rfl)) rfl d_F_closed_21 ?_
      refine g_F_83 X hb hP (va_up_self _ _ _) rfl d_F_closed_24 ?_
      have e9 : spClosed σ x = (nI (sNC σ + 1), (σ.1, σ.2.1, σ.2.2.1, (sNC σ + 1, va_up (sCD σ) (sNC σ) x), σ.2.2.2.2)) := by simp [spClosed, t_1, t_3]
      exact h_iret hx hb hr hlocks (Nat.le_of_ble_eq_true rfl) (Nat.le_of_ble_eq_true rfl) hP hS (⟨by rw [e9], by rw [e9]; exact ⟨_, _, _, _, _, _, _, _, (RC.closed hRc x).mono (fun _ h => Or.inl h)⟩, Keep.up (Keep.up Keep.rf (Or.inl (f0 9 (by decide)))) (Or.inl (f0 5 (by decide)))⟩) d_F_closed_27
    · have t_3 := bi_0.mp (er_3 ▸ c_4)
      rw [cAdd, if_neg (by rw [t_3]; decide)] at hP
      refine lv_iconst (v := 0) hx hb d_F_closed_18 (by decide) ?_
      have e9 : spClosed σ x = (0, σ) := by simp [spClosed, t_1, t_3]
      exact h_iret hx hb hr hlocks (Nat.le_of_ble_eq_true rfl) (Nat.le_of_ble_eq_true rfl) hP hS (⟨by rw [e9], by rw [e9]; exact hRx.mono (fun _ h => Or.inl h), Keep.rf⟩) d_F_closed_19
theorem k_W_35 {p : Program} {l : Launch} {e : Env} {R : Room} {s : State} {m : MethodId} {args : Array Value} {below : List Frame} {meth : Method} {c : Code} {H : Heap} {locs : List Loc} {cells slots : Nat} {Q : State → Prop} {cc : ByteArray} {pc : Nat} {ls : Array Slot} {rest : List Value} {D : va_G} {A : Nat → Prop} {t : Nat → ClassId} {g : hG} {nL : Nat} {ret0 : Option FieldType} {nm : String} (X : Cx p s m args meth c R_W cc nL ret0 TB D vwCl (tyL t) EX A nm) (hR : 2 + 1 ≤ R.frames ∧ 8 + (3 + 11) + 48 ≤ R.locals) (hf : cells + 0 ≤ R.cells ∧ slots + 0 ≤ R.slots) (hls : ls.size = nL) (hP : hw D vwCl A g H) (hS : va_S A s.heap H locs) {F : Nat → Prop} {ad : Nat → Nat} {σ : SS} {x : Int64} {fs9 : List Value} (he9 : g (ad 0) = some (.inr (0, fs9))) (hRx : RCx F t ad σ g) (hV : Inv σ) (hW : (rest.map fun v => v.category).sum ≤ 8) (hdg : decode cc pc = .ok (.invokevirtual 35, 3)) (kk : ∀ (r : Int32) (u : hG) (H1 : Heap) (locs1 : List Loc), ((fun r u => r = (spClosed σ x).1 ∧ RCx (gr F g) t ad (spClosed σ x).2 u ∧ Keep F g u) r u) → hw D vwCl A u H1 → va_S A s.heap H1 locs1 → W p l e R s m args below meth c H1 locs1 (cells + 0) (slots + 0) Q (F0 m (pc + 3) ls (.int r :: rest))) : W p l e R s m args below meth c H locs cells slots Q (F0 m pc ls (.long x :: .ref (ad 0) :: rest)) :=
  h_ci (runV (C := R_F) (T := F_F) (N := 9) X (c_F_closed l D t A g F ad σ x hRx hV) (tbm 138 (by decide +kernel)) (tbm 139 (by decide +kernel)) (tbm 140 (by decide +kernel)) (tbm 20 (by decide +kernel)) (tbm 141 (by decide +kernel)) rfl (n := 1) (by decide +kernel) hR hf hP he9 hS hls rfl rfl hW hdg) hS kk

set_option maxHeartbeats 4000000 in
set_option maxRecDepth 100000 in
theorem c_F_loan (l : Launch) (D : va_G) (t : Nat → ClassId) (A : Nat → Prop) (g : hG) (F : Nat → Prop) (ad : Nat → Nat) (σ : SS) (x y z : Int32) (d : Int64) (hRx : RCx F t ad σ g) (hV : Inv σ) : Met l y_F_loan (Cond.code y_F_loan b_F_loan 8 (some .int) :: TB) ({ frames := 2, cells := 1, slots := 6, locals := 49 } : Room) (va_Pc [.ref (ad 0), .int x, .int y, .int z, .long d] (hI D vwCl (tyL t) EX A g)) (va_Qi (fun r u => r = (spLoan σ x y z d).1 ∧ RCx (gr F g) t ad (spLoan σ x y z d).2 u ∧ Keep F g u) (fun u v => hw D vwCl A u v.heap) A) 1 6 A := by
  refine Met.ofH (cc := b_F_loan) (maxL := 8) (ret := (some .int)) (lv := [(0, .ref (ad 0)), (1, .int x), (2, .int y), (3, .int z), (4, .long d)]) (by decide) (Nat.le_of_ble_eq_true rfl) rfl ?_
  intro p e s m below meth c ls X hP hS hl
  obtain ⟨hx, hb, hml, hr, hts, hown, hlocks, hK, hEs, hA, hnm⟩ := id X
  obtain ⟨aR, aL, aD, fR, fL, fI, fN, fB, hRc⟩ := id hRx
  obtain ⟨h0, ⟨h1, h1f⟩, ⟨h2, h2f⟩, ⟨h3, h3f⟩, h4, h5, h6, ⟨h7, h7f⟩, ⟨h8, h8f⟩, h9, hRr, hLl, hDd, h78, ⟨iR, iL, iD⟩, f0, f1, f2, f3⟩ := id hRc
  have hn1 := hV.1.1
  have hn2 := hV.1.2.1
  have hn3 := hV.1.2.2.1
  have hn4 := hV.1.2.2.2
  refine lv_aload_n hx hb d_F_loan_0 rfl (lv_at hl 0 rfl) ?_
  refine lv_iload_n hx hb d_F_loan_1 rfl (lv_at hl 3 rfl) ?_
  refine k_F_58 X ⟨Nat.le_of_ble_eq_true rfl, Nat.le_of_ble_eq_true rfl⟩ ⟨Nat.le_of_ble_eq_true rfl, Nat.le_of_ble_eq_true rfl⟩ hl.1 hP hS h0 h0 h1 hn1 (by exact Nat.le_of_ble_eq_true rfl) d_F_loan_2 (fun r_1 H locs er_1 hP hS => ?_)
  refine lv_topq (fun ey_2 => ?_) (fun y_2 ey_2 => ?_)
  · have hN := ordQ_none (by omega) h1f (er_1 ▸ ey_2)
    refine lv_astoreN (lv' := [(6, .null), (0, .ref (ad 0)), (1, .int x), (2, .int y), (3, .int z), (4, .long d)]) hx hb d_F_loan_5 hl (by decide) rfl (fun ls hl => ?_)
    refine lv_iload_n hx hb d_F_loan_7 rfl (lv_at hl 2 rfl) ?_
    refine k_F_86 X ⟨Nat.le_of_ble_eq_true rfl, Nat.le_of_ble_eq_true rfl⟩ ⟨Nat.le_of_ble_eq_true rfl, Nat.le_of_ble_eq_true rfl⟩ hl.1 hP hS (by exact Nat.le_of_ble_eq_true rfl) d_F_loan_8 (fun r_3 H locs er_3 hP hS => ?_)
    refine lv_if_eq (tgt := 34) hx hb d_F_loan_11 (by decide) (fun c_4 => ?_) (fun c_4 => ?_)
    · have t_3 := bi_0.mp (er_3 ▸ c_4)
      refine lv_iconst (v := 0) hx hb d_F_loan_34 (by decide) ?_
      have e9 : spLoan σ (x) (y) (z) d = (0, σ) := by simp [spLoan, nI_k0, hN, t_3]
      exact h_iret hx hb hr hlocks (Nat.le_of_ble_eq_true rfl) (Nat.le_of_ble_eq_true rfl) hP hS (⟨by rw [e9], by rw [e9]; exact hRx.mono (fun _ h => Or.inl h), Keep.rf⟩) d_F_loan_35
    · have t_3 := bi_n0.mp (er_3 ▸ c_4)
      obtain ⟨i, hi, rfl⟩ := wi_pl (M := 59) (n := 59) rfl (by decide) t_3
      refine lv_iload_n hx hb d_F_loan_14 rfl (lv_at hl 3 rfl) ?_
      refine k_F_90 X ⟨Nat.le_of_ble_eq_true rfl, Nat.le_of_ble_eq_true rfl⟩ ⟨Nat.le_of_ble_eq_true rfl, Nat.le_of_ble_eq_true rfl⟩ hl.1 hP hS (by exact Nat.le_of_ble_eq_true rfl) d_F_loan_15 (fun r_5 H locs er_5 hP hS => ?_)
      refine lv_if_eq (tgt := 34) hx hb d_F_loan_18 (by decide) (fun c_6 => ?_) (fun c_6 => ?_)
      · have t_5 := bi_0.mp (er_5 ▸ c_6)
        refine lv_iconst (v := 0) hx hb d_F_loan_34 (by decide) ?_
        have e9 : spLoan σ (nI i) (y) (z) d = (0, σ) := by simp [spLoan, nI_k0, hN, t_3, t_5]
        exact h_iret hx hb hr hlocks (Nat.le_of_ble_eq_true rfl) (Nat.le_of_ble_eq_true rfl) hP hS (⟨by rw [e9], by rw [e9]; exact hRx.mono (fun _ h => Or.inl h), Keep.rf⟩) d_F_loan_35
      · have t_5 := bi_n0.mp (er_5 ▸ c_6)
        obtain ⟨pn, hpn, rfl⟩ := wi_pl (M := 29) (n := 29) rfl (by decide) t_5
        refine lv_aloadN hx hb d_F_loan_21 (lv_at hl 0 rfl) ?_
        refine lv_ifnullN (tgt := 34) hx hb d_F_loan_23 (by decide) ?_
        refine lv_iconst (v := 0) hx hb d_F_loan_34 (by decide) ?_
        have e9 : spLoan σ (nI i) (nI pn) (z) d = (0, σ) := by simp [spLoan, nI_k0, hN, t_3, t_5]
        exact h_iret hx hb hr hlocks (Nat.le_of_ble_eq_true rfl) (Nat.le_of_ble_eq_true rfl) hP hS (⟨by rw [e9], by rw [e9]; exact hRx.mono (fun _ h => Or.inl h), Keep.rf⟩) d_F_loan_35
  · obtain ⟨k, hk, rfl, rfl, hwk⟩ := ordQ_some (by omega) h1f (er_1 ▸ ey_2)
    refine lv_astore (lv' := [(6, .ref (aR k)), (0, .ref (ad 0)), (1, .int x), (2, .int y), (3, .int (nI k)), (4, .long d)]) hx hb d_F_loan_5 hl (by decide) rfl (fun ls hl => ?_)
    refine lv_iload_n hx hb d_F_loan_7 rfl (lv_at hl 2 rfl) ?_
    refine k_F_86 X ⟨Nat.le_of_ble_eq_true rfl, Nat.le_of_ble_eq_true rfl⟩ ⟨Nat.le_of_ble_eq_true rfl, Nat.le_of_ble_eq_true rfl⟩ hl.1 hP hS (by exact Nat.le_of_ble_eq_true rfl) d_F_loan_8 (fun r_7 H locs er_7 hP hS => ?_)
    refine lv_if_eq (tgt := 34) hx hb d_F_loan_11 (by decide) (fun c_8 => ?_) (fun c_8 => ?_)
    · have t_7 := bi_0.mp (er_7 ▸ c_8)
      refine lv_iconst (v := 0) hx hb d_F_loan_34 (by decide) ?_
      have e9 : spLoan σ (x) (y) (nI k) d = (0, σ) := by simp [spLoan, nI_k0, hwk, t_7]
      exact h_iret hx hb hr hlocks (Nat.le_of_ble_eq_true rfl) (Nat.le_of_ble_eq_true rfl) hP hS (⟨by rw [e9], by rw [e9]; exact hRx.mono (fun _ h => Or.inl h), Keep.rf⟩) d_F_loan_35
    · have t_7 := bi_n0.mp (er_7 ▸ c_8)
      obtain ⟨i, hi, rfl⟩ := wi_pl (M := 59) (n := 59) rfl (by decide) t_7
      refine lv_iload_n hx hb d_F_loan_14 rfl (lv_at hl 3 rfl) ?_
      refine k_F_90 X ⟨Nat.le_of_ble_eq_true rfl, Nat.le_of_ble_eq_true rfl⟩ ⟨Nat.le_of_ble_eq_true rfl, Nat.le_of_ble_eq_true rfl⟩ hl.1 hP hS (by exact Nat.le_of_ble_eq_true rfl) d_F_loan_15 (fun r_9 H locs er_9 hP hS => ?_)
      refine lv_if_eq (tgt := 34) hx hb d_F_loan_18 (by decide) (fun c_10 => ?_) (fun c_10 => ?_)
      · have t_9 := bi_0.mp (er_9 ▸ c_10)
        refine lv_iconst (v := 0) hx hb d_F_loan_34 (by decide) ?_
        have e9 : spLoan σ (nI i) (y) (nI k) d = (0, σ) := by simp [spLoan, nI_k0, hwk, t_7, t_9]
        exact h_iret hx hb hr hlocks (Nat.le_of_ble_eq_true rfl) (Nat.le_of_ble_eq_true rfl) hP hS (⟨by rw [e9], by rw [e9]; exact hRx.mono (fun _ h => Or.inl h), Keep.rf⟩) d_F_loan_35
      · have t_9 := bi_n0.mp (er_9 ▸ c_10)
        obtain ⟨pn, hpn, rfl⟩ := wi_pl (M := 29) (n := 29) rfl (by decide) t_9
        refine lv_aload hx hb d_F_loan_21 (lv_at hl 0 rfl) ?_
        refine lv_ifnull hx hb d_F_loan_23 ?_
        refine lv_lload hx hb d_F_loan_26 (lv_at hl 5 rfl) ?_
        refine k_F_76 X ⟨Nat.le_of_ble_eq_true rfl, Nat.le_of_ble_eq_true rfl⟩ ⟨Nat.le_of_ble_eq_true rfl, Nat.le_of_ble_eq_true rfl⟩ hl.1 hP hS (by exact Nat.le_of_ble_eq_true rfl) d_F_loan_28 (fun r_11 H locs er_11 hP hS => ?_)
        refine lv_if_ne (tgt := 36) hx hb d_F_loan_31 (by decide) (fun c_12 => ?_) (fun c_12 => ?_)
        · have t_11 := bi_n0.mp (er_11 ▸ c_12)
          refine lv_aload_n hx hb d_F_loan_36 rfl (lv_at hl 1 rfl) ?_
          refine g_F_21 X hb hP h0 rfl d_F_loan_37 ?_
          refine lv_iload_n hx hb d_F_loan_40 rfl (lv_at hl 2 rfl) ?_
          refine n_aald X hb hP 4 h3 rfl ⟨hi, by decide⟩ d_F_loan_41 ?_
          refine lv_topq (fun ey_13 => ?_) (fun y_13 ey_13 => ?_)
          · have hno : (sIT σ i).isNone = true := by have h := h3f i hi; rw [ey_13] at h; cases hq : sIT σ i with | none => rfl | some z => (rw [hq] at h; cases h)
            refine lv_ifnonnullN hx hb d_F_loan_42 ?_
            refine lv_aload_n hx hb d_F_loan_45 rfl (lv_at hl 1 rfl) ?_
            refine g_F_93 X hb hP h0 rfl d_F_loan_46 ?_
            refine lv_bipush (v := 120) hx hb d_F_loan_49 (by decide) ?_
            refine lv_icmp_lt (tgt := 56) hx hb d_F_loan_51 (by decide) (fun c_14 => ?_) (fun c_14 => ?_)
            · have hlt : sNL σ < 120 := (nI_ltI (b := 120) (by omega) (by decide)).mp c_14
              refine nw_F_15 X hb hP hS ⟨Nat.le_of_ble_eq_true rfl, Nat.le_of_ble_eq_true rfl⟩ d_F_loan_56 (fun q_15 H hq_15 hP hS => ?_)
              have he_16 := up_at (o := some (.inr (4, [.int 0, .int 0, .null, .long 0, .null, .int 0]))) h0 (hw_new h0 hq_15)
              have he_17 := up_at (o := some (.inr (4, [.int 0, .int 0, .null, .long 0, .null, .int 0]))) h2 (hw_new h2 hq_15)
              have he_18 := up_at (o := some (.inr (4, [.int 0, .int 0, .null, .long 0, .null, .int 0]))) h3 (hw_new h3 hq_15)
              have he_19 := va_up_self g q_15 (some (.inr (4, [.int 0, .int 0, .null, .long 0, .null, .int 0]) : va_E))
              have hP : hw D vwCl A (va_up g q_15 (some (.inr (4, [.int 0, .int 0, .null, .long 0, .null, .int 0])))) H := hP
              refine lv_dup hx hb d_F_loan_59 rfl ?_
              refine lv_iload_n hx hb d_F_loan_60 rfl (lv_at hl 2 rfl) ?_
              refine lv_iload_n hx hb d_F_loan_61 rfl (lv_at hl 3 rfl) ?_
              refine lv_aload hx hb d_F_loan_62 (lv_at hl 0 rfl) ?_
              refine lv_lload hx hb d_F_loan_64 (lv_at hl 5 rfl) ?_
              refine k_F_96 X ⟨Nat.le_of_ble_eq_true rfl, Nat.le_of_ble_eq_true rfl⟩ ⟨Nat.le_of_ble_eq_true rfl, Nat.le_of_ble_eq_true rfl⟩ hl.1 hP hS he_19 (by exact Nat.le_of_ble_eq_true rfl) d_F_loan_66 (fun H locs hP hS => ?_)
              rw [bx_uu] at hP
              have he_21 := up_at (o := some (cLo (nI i) (nI pn) (aR k) d none 0)) h0 (hw_new h0 hq_15)
              have he_22 := up_at (o := some (cLo (nI i) (nI pn) (aR k) d none 0)) h2 (hw_new h2 hq_15)
              have he_23 := up_at (o := some (cLo (nI i) (nI pn) (aR k) d none 0)) h3 (hw_new h3 hq_15)
              have he_24 := va_up_self g q_15 (some (cLo (nI i) (nI pn) (aR k) d none 0 : va_E))
              have hP : hw D vwCl A (va_up g q_15 (some (cLo (nI i) (nI pn) (aR k) d none 0))) H := hP
              refine lv_astore (lv' := [(7, .ref q_15), (6, .ref (aR k)), (0, .ref (ad 0)), (1, .int (nI i)), (2, .int (nI pn)), (3, .int (nI k)), (4, .long d)]) hx hb d_F_loan_69 hl (by decide) rfl (fun ls hl => ?_)
              refine lv_aload_n hx hb d_F_loan_71 rfl (lv_at hl 2 rfl) ?_
              refine g_F_21 X hb hP he_21 rfl d_F_loan_72 ?_
              refine lv_iload_n hx hb d_F_loan_75 rfl (lv_at hl 3 rfl) ?_
              refine lv_aload hx hb d_F_loan_76 (lv_at hl 0 rfl) ?_
              refine n_aast X hb hP hS 4 4 he_23 rfl he_24 rfl ⟨hi, by decide⟩ d_F_loan_78 (fun H locs hP hS => ?_)
              have he_25 := up_at (o := some (arQ t 4 60 (va_up fI i (some q_15)))) he_21 (hw_kd he_21 he_23 rfl)
              have he_26 := up_at (o := some (arQ t 4 60 (va_up fI i (some q_15)))) he_22 (hw_kd he_22 he_23 rfl)
              have he_27 := up_at (o := some (arQ t 4 60 (va_up fI i (some q_15)))) he_24 (hw_kd he_24 he_23 rfl)
              have he_28 := va_up_self (va_up g q_15 (some (cLo (nI i) (nI pn) (aR k) d none 0))) (ad 3) (some (arQ t 4 60 (va_up fI i (some q_15)) : va_E))
              have hP : hw D vwCl A (va_up (va_up g q_15 (some (cLo (nI i) (nI pn) (aR k) d none 0))) (ad 3) (some (arQ t 4 60 (va_up fI i (some q_15))))) H := hP
              refine lv_aload_n hx hb d_F_loan_79 rfl (lv_at hl 2 rfl) ?_
              refine g_F_17 X hb hP he_25 rfl d_F_loan_80 ?_
              refine lv_aload_n hx hb d_F_loan_83 rfl (lv_at hl 2 rfl) ?_
              refine g_F_93 X hb hP he_25 rfl d_F_loan_84 ?_
              refine lv_aload hx hb d_F_loan_87 (lv_at hl 0 rfl) ?_
              refine n_aast X hb hP hS 4 4 he_26 rfl he_27 rfl ⟨hlt, by decide⟩ d_F_loan_89 (fun H locs hP hS => ?_)
              have he_29 := up_at (o := some (arQ t 4 120 (va_up fL (sNL σ) (some q_15)))) he_25 (hw_kd he_25 he_26 rfl)
              have he_30 := up_at (o := some (arQ t 4 120 (va_up fL (sNL σ) (some q_15)))) he_27 (hw_kd he_27 he_26 rfl)
              have he_31 := up_at (o := some (arQ t 4 120 (va_up fL (sNL σ) (some q_15)))) he_28 (hw_kd he_28 he_26 rfl)
              have he_32 := va_up_self (va_up (va_up g q_15 (some (cLo (nI i) (nI pn) (aR k) d none 0))) (ad 3) (some (arQ t 4 60 (va_up fI i (some q_15))))) (ad 2) (some (arQ t 4 120 (va_up fL (sNL σ) (some q_15)) : va_E))
              have hP : hw D vwCl A (va_up (va_up (va_up g q_15 (some (cLo (nI i) (nI pn) (aR k) d none 0))) (ad 3) (some (arQ t 4 60 (va_up fI i (some q_15))))) (ad 2) (some (arQ t 4 120 (va_up fL (sNL σ) (some q_15))))) H := hP
              refine lv_aload_n hx hb d_F_loan_90 rfl (lv_at hl 2 rfl) ?_
              refine lv_dup hx hb d_F_loan_91 rfl ?_
              refine g_F_93 X hb hP he_29 rfl d_F_loan_92 ?_
              refine lv_iconst (v := 1) hx hb d_F_loan_95 (by decide) ?_
              refine lv_iadd hx hb d_F_loan_96 ?_
              refine lv_topi (fun x_33 ex_33 => ?_)
              refine p_F_93 X hb hP hS he_29 (Nat.le_of_ble_eq_true rfl) d_F_loan_97 (fun H locs hP hS => ?_)
              have he_34 := up_at (o := some (.inr (0, [.ref (ad 1), .int (nI (sNR σ)), .ref (ad 2), .int x_33, .ref (ad 3), .ref (ad 4), .ref (ad 5), .ref (ad 6), .int (sTH σ)]))) he_30 (hw_kd he_30 he_29 rfl)
              have he_35 := up_at (o := some (.inr (0, [.ref (ad 1), .int (nI (sNR σ)), .ref (ad 2), .int x_33, .ref (ad 3), .ref (ad 4), .ref (ad 5), .ref (ad 6), .int (sTH σ)]))) he_31 (hw_kd he_31 he_29 rfl)
              have he_36 := up_at (o := some (.inr (0, [.ref (ad 1), .int (nI (sNR σ)), .ref (ad 2), .int x_33, .ref (ad 3), .ref (ad 4), .ref (ad 5), .ref (ad 6), .int (sTH σ)]))) he_32 (hw_kd he_32 he_29 rfl)
              have he_37 := va_up_self (va_up (va_up (va_up g q_15 (some (cLo (nI i) (nI pn) (aR k) d none 0))) (ad 3) (some (arQ t 4 60 (va_up fI i (some q_15))))) (ad 2) (some (arQ t 4 120 (va_up fL (sNL σ) (some q_15))))) (ad 0) (some (.inr (0, [.ref (ad 1), .int (nI (sNR σ)), .ref (ad 2), .int x_33, .ref (ad 3), .ref (ad 4), .ref (ad 5), .ref (ad 6), .int (sTH σ)]) : va_E))
              have hP : hw D vwCl A (va_up (va_up (va_up (va_up g q_15 (some (cLo (nI i) (nI pn) (aR k) d none 0))) (ad 3) (some (arQ t 4 60 (va_up fI i (some q_15))))) (ad 2) (some (arQ t 4 120 (va_up fL (sNL σ) (some q_15))))) (ad 0) (some (.inr (0, [.ref (ad 1), .int (nI (sNR σ)), .ref (ad 2), .int x_33, .ref (ad 3), .ref (ad 4), .ref (ad 5), .ref (ad 6), .int (sTH σ)])))) H := hP
              obtain rfl : x_33 = nI (sNL σ + 1) := by rw [ex_33]; exact nI_1 _
              refine lv_aload_n hx hb d_F_loan_100 rfl (lv_at hl 2 rfl) ?_
              refine g_F_93 X hb hP he_37 rfl d_F_loan_101 ?_
              have e9 : spLoan σ (nI i) (nI pn) (nI k) d = (nI (sNL σ + 1), (σ.1, (sNL σ + 1, va_up (sLV σ) (sNL σ) (i, pn, k, d, 1, 0)), σ.2.2.1, σ.2.2.2.1, σ.2.2.2.2.1, sTH σ, va_up (sIT σ) i (some (sNL σ)))) := by simp [spLoan, hwk, t_7, t_9, t_11, hno, hlt, nI_k0 (show i < 1000000 by omega), nI_k0 (show pn < 1000000 by omega), nI_k0 (show k < 1000000 by omega)]
              exact h_iret hx hb hr hlocks (Nat.le_of_ble_eq_true rfl) (Nat.le_of_ble_eq_true rfl) hP hS (⟨by rw [e9], by rw [e9]; exact ⟨_, _, _, _, _, _, _, _, RC.loanNew hRc q_15 i pn k d hq_15 hV hi⟩, Keep.up (Keep.up (Keep.up (Keep.up Keep.rf (Or.inr hq_15)) (Or.inl (f0 3 (by decide)))) (Or.inl (f0 2 (by decide)))) (Or.inl (f0 0 (by decide)))⟩) d_F_loan_104
            · have hlt : ¬ sNL σ < 120 := fun q => c_14 (nI_lt (b := 120) q (by decide))
              refine lv_iconst (v := 0) hx hb d_F_loan_54 (by decide) ?_
              have e9 : spLoan σ (nI i) (nI pn) (nI k) d = (0, σ) := by simp [spLoan, nI_k0, hwk, t_7, t_9, t_11, hno, hlt, nI_k0 (show i < 1000000 by omega)]
              exact h_iret hx hb hr hlocks (Nat.le_of_ble_eq_true rfl) (Nat.le_of_ble_eq_true rfl) hP hS (⟨by rw [e9], by rw [e9]; exact hRx.mono (fun _ h => Or.inl h), Keep.rf⟩) d_F_loan_55
          · have hno : (sIT σ i).isNone = false := by have h := h3f i hi; rw [ey_13] at h; cases hq : sIT σ i with | none => (rw [hq] at h; cases h) | some z => rfl
            refine lv_ifnonnull (tgt := 54) hx hb d_F_loan_42 (by decide) ?_
            refine lv_iconst (v := 0) hx hb d_F_loan_54 (by decide) ?_
            have e9 : spLoan σ (nI i) (nI pn) (nI k) d = (0, σ) := by simp [spLoan, nI_k0, hwk, t_7, t_9, t_11, hno, nI_k0 (show i < 1000000 by omega)]
            exact h_iret hx hb hr hlocks (Nat.le_of_ble_eq_true rfl) (Nat.le_of_ble_eq_true rfl) hP hS (⟨by rw [e9], by rw [e9]; exact hRx.mono (fun _ h => Or.inl h), Keep.rf⟩) d_F_loan_55
        · have t_11 := bi_0.mp (er_11 ▸ c_12)
          refine lv_iconst (v := 0) hx hb d_F_loan_34 (by decide) ?_
          have e9 : spLoan σ (nI i) (nI pn) (nI k) d = (0, σ) := by simp [spLoan, nI_k0, hwk, t_7, t_9, t_11]
          exact h_iret hx hb hr hlocks (Nat.le_of_ble_eq_true rfl) (Nat.le_of_ble_eq_true rfl) hP hS (⟨by rw [e9], by rw [e9]; exact hRx.mono (fun _ h => Or.inl h), Keep.rf⟩) d_F_loan_35
theorem k_W_40 {p : Program} {l : Launch} {e : Env} {R : Room} {s : State} {m : MethodId} {args : Array Value} {below : List Frame} {meth : Method} {c : Code} {H : Heap} {locs : List Loc} {cells slots : Nat} {Q : State → Prop} {cc : ByteArray} {pc : Nat} {ls : Array Slot} {rest : List Value} {D : va_G} {A : Nat → Prop} {t : Nat → ClassId} {g : hG} {nL : Nat} {ret0 : Option FieldType} {nm : String} (X : Cx p s m args meth c R_W cc nL ret0 TB D vwCl (tyL t) EX A nm) (hR : 2 + 1 ≤ R.frames ∧ 8 + (8 + 11) + 49 ≤ R.locals) (hf : cells + 1 ≤ R.cells ∧ slots + 6 ≤ R.slots) (hls : ls.size = nL) (hP : hw D vwCl A g H) (hS : va_S A s.heap H locs) {F : Nat → Prop} {ad : Nat → Nat} {σ : SS} {x y z : Int32} {d : Int64} {fs9 : List Value} (he9 : g (ad 0) = some (.inr (0, fs9))) (hRx : RCx F t ad σ g) (hV : Inv σ) (hW : (rest.map fun v => v.category).sum ≤ 8) (hdg : decode cc pc = .ok (.invokevirtual 40, 3)) (kk : ∀ (r : Int32) (u : hG) (H1 : Heap) (locs1 : List Loc), ((fun r u => r = (spLoan σ x y z d).1 ∧ RCx (gr F g) t ad (spLoan σ x y z d).2 u ∧ Keep F g u) r u) → hw D vwCl A u H1 → va_S A s.heap H1 locs1 → W p l e R s m args below meth c H1 locs1 (cells + 1) (slots + 6) Q (F0 m (pc + 3) ls (.int r :: rest))) : W p l e R s m args below meth c H locs cells slots Q (F0 m pc ls (.long d :: .int z :: .int y :: .int x :: .ref (ad 0) :: rest)) :=
  h_ci (runV (C := R_F) (T := F_F) (N := 9) X (c_F_loan l D t A g F ad σ x y z d hRx hV) (tbm 154 (by decide +kernel)) (tbm 155 (by decide +kernel)) (tbm 156 (by decide +kernel)) (tbm 20 (by decide +kernel)) (tbm 157 (by decide +kernel)) rfl (n := 4) (by decide +kernel) hR hf hP he9 hS hls rfl rfl hW hdg) hS kk
end
section
theorem up_if {α : Type} (f : Nat → α) (k : Nat) (v : α) (j : Nat) : va_up f k v j = if j = k then v else f j := rfl
theorem posD_hi (f : Nat → Int64) (x : Int64) : ∀ n j, posD f x n ≤ j → j < n → x < f j
  | 0, j, _, h => by omega
  | n + 1, j, h, hj => by
    rw [posD] at h
    by_cases hx : x < f n
    · rw [if_pos hx] at h
      by_cases e : j = n
      · subst e; exact hx
      · exact posD_hi f x n j h (by omega)
    · rw [if_neg hx] at h; omega
theorem posD_lo (f : Nat → Int64) (x : Int64) : ∀ n, 0 < posD f x n → ¬ x < f (posD f x n - 1)
  | 0, h => by simp [posD] at h
  | n + 1, h => by
    rw [posD] at h ⊢
    by_cases hx : x < f n
    · rw [if_pos hx] at h ⊢; exact posD_lo f x n h
    · rw [if_neg hx] at h ⊢; exact hx
def srt (n : Nat) (day : Nat → Int64) (od : Nat → Nat) : Prop := (∀ i, i < n → od i < n) ∧ (∀ d, d < n → ∃ i, i < n ∧ od i = d) ∧ ∀ i j, i < j → j < n → day (od i) < day (od j) ∨ (day (od i) = day (od j) ∧ od i < od j)
theorem i64_lt {x y : Int64} : x < y ↔ x.toInt < y.toInt := Int64.lt_iff_toInt_lt
theorem i64_eq {x y : Int64} : x = y ↔ x.toInt = y.toInt := Int64.toInt_inj.symm
theorem srt_ins {n : Nat} {day : Nat → Int64} {od : Nat → Nat} {x : Int64} (h : srt n day od) (hx : day n = x) : srt (n + 1) day (insO od n (posD (fun j => day (od j)) x n)) := by
  obtain ⟨h1, h2, h3⟩ := h
  generalize hp : posD (fun j => day (od j)) x n = p
  have hpn : p ≤ n := by rw [← hp]; exact posD_le _ _ _
  have hhi : ∀ j, p ≤ j → j < n → x < day (od j) := fun j hj hn => posD_hi (fun j => day (od j)) x n j (by rw [hp]; exact hj) hn
  have hlo : ∀ j, j < p → ¬ x < day (od j) := fun j hj => by
    have hl := posD_lo (fun j => day (od j)) x n (by rw [hp]; omega)
    rw [hp] at hl
    by_cases e : j = p - 1
    · subst e; exact hl
    · rcases h3 j (p - 1) (by omega) (by omega) with q | ⟨q, -⟩
      · intro hc
        rw [i64_lt] at q hc hl
        omega
      · rw [q]; exact hl
  refine ⟨fun i hi => ?_, fun d hd => ?_, fun i j hij hj => ?_⟩
  · unfold insO
    by_cases a : i < p
    · rw [if_pos a]; have := h1 i (by omega); omega
    · rw [if_neg a]
      by_cases b : i = p
      · rw [if_pos b]; omega
      · rw [if_neg b]; have := h1 (i - 1) (by omega); omega
  · by_cases e : d = n
    · refine ⟨p, by omega, ?_⟩
      simp [insO, e]
    · obtain ⟨i, hi, hd2⟩ := h2 d (by omega)
      by_cases a : i < p
      · exact ⟨i, by omega, by simp [insO, a, hd2]⟩
      · refine ⟨i + 1, by omega, ?_⟩
        have b1 : ¬ i + 1 < p := by omega
        have b2 : ¬ i + 1 = p := by omega
        simp [insO, b1, b2, hd2]
  · unfold insO
    by_cases a : i < p
    · rw [if_pos a]
      by_cases b : j < p
      · rw [if_pos b]; exact h3 i j hij (by omega)
      · rw [if_neg b]
        by_cases c : j = p
        · rw [if_pos c, hx]
          have hl := hlo i a
          have hi := h1 i (by omega)
          by_cases e : day (od i) = x
          · exact Or.inr ⟨e, hi⟩
          · refine Or.inl ?_
            rw [i64_lt] at hl ⊢
            rw [i64_eq] at e
            omega
        · rw [if_neg c]; exact h3 i (j - 1) (by omega) (by omega)
    · rw [if_neg a]
      have b : ¬ j < p := by omega
      have c : ¬ j = p := by omega
      rw [if_neg b, if_neg c]
      by_cases e : i = p
      · rw [if_pos e, hx]
        exact Or.inl (hhi (j - 1) (by omega) (by omega))
      · rw [if_neg e]; exact h3 (i - 1) (j - 1) (by omega) (by omega)
theorem srt_day {n : Nat} {day day' : Nat → Int64} {od : Nat → Nat} (h : srt n day od) (hd : ∀ k, k < n → day' k = day k) : srt n day' od := by
  obtain ⟨h1, h2, h3⟩ := h
  refine ⟨h1, h2, fun i j hij hj => ?_⟩
  rw [hd _ (h1 i (by omega)), hd _ (h1 j hj)]
  exact h3 i j hij hj
theorem Inv_enL {σ : SS} (hV : Inv σ) {k : Nat} (hk : k < sNL σ) (hst : (sLV σ k).2.2.2.2.1 ≠ 2) : Inv (enL σ k) := by
  obtain ⟨hb, hr, hl, hd, hi, ho⟩ := hV
  refine ⟨hb, hr, fun j hj => ?_, hd, fun i hi0 j => ?_, ho⟩
  · show (va_up (sLV σ) k _ j).1 < 60 ∧ _
    by_cases e : j = k
    · subst e
      obtain ⟨a1, a2, a3, a4, a5, a6, a7⟩ := hl j hj
      simp only [enL, sLV, sNL, sNR, sND, va_up_self]
      exact ⟨a1, a2, a3, ⟨by decide, by decide⟩, a5, (fun h => by cases h), (fun h => by cases h)⟩
    · have := hl j hj
      simp only [enL, sLV, sNL, sNR, sND, va_up_ne _ _ e]
      exact this
  · have e0 := hi i hi0 j
    show va_up (sIT σ) (sLV σ k).1 none i = some j ↔ j < sNL σ ∧ (va_up (sLV σ) k _ j).1 = i ∧ (va_up (sLV σ) k _ j).2.2.2.2.1 ≠ 2
    by_cases e : j = k
    · subst e
      rw [va_up_self]
      constructor
      · intro h
        by_cases e2 : i = (sLV σ j).1
        · rw [e2, va_up_self] at h; cases h
        · rw [va_up_ne _ _ e2] at h
          exact absurd (e0.mp h).2.1.symm e2
      · intro h; exact absurd rfl h.2.2
    · rw [va_up_ne (sLV σ) _ e]
      by_cases e2 : i = (sLV σ k).1
      · rw [e2, va_up_self]
        constructor
        · intro h; cases h
        · intro h
          have hi1 := hi (sLV σ k).1 (hl k hk).1
          have q1 := (hi1 k).mpr ⟨hk, rfl, hst⟩
          have q2 := (hi1 j).mpr h
          rw [q1] at q2
          exact absurd (Option.some.inj q2).symm e
      · rw [va_up_ne _ _ e2]; exact e0
theorem Inv_adD {σ : SS} (hV : Inv σ) {k am : Nat} {so : Int32} {d : Int64} (hk : k < sNL σ) (ham : am ≤ 10000000) (hn : sND σ < 200) : Inv (adD σ k am so d) := by
  obtain ⟨hb, hr, hl, hd, hi, ho⟩ := hV
  refine ⟨⟨hb.1, hb.2.1, Nat.succ_le_of_lt hn, hb.2.2.2⟩, hr, fun j hj => ?_, fun j hj => ?_, hi, ?_⟩
  · obtain ⟨a1, a2, a3, a4, a5, a6, a7⟩ := hl j hj
    exact ⟨a1, a2, a3, a4, Nat.le_succ_of_le a5, a6, a7⟩
  · show (va_up (sDV σ) (sND σ) _ j).1 < sNL σ ∧ (va_up (sDV σ) (sND σ) _ j).2.1 ≤ 10000000 ∧ (va_up (sDV σ) (sND σ) _ j).2.2.1 + (va_up (sDV σ) (sND σ) _ j).2.2.2.1 ≤ (va_up (sDV σ) (sND σ) _ j).2.1
    by_cases e : j = sND σ
    · subst e; rw [va_up_self]; exact ⟨hk, ham, Nat.le_refl _⟩
    · rw [va_up_ne _ _ e]; exact hd j (lt_s1 hj e)
  · have h1 : srt (sND σ) (fun j => (va_up (sDV σ) (sND σ) (k, am, am, 0, so, d) j).2.2.2.2.2) (sOD σ) := srt_day (day := fun j => (sDV σ j).2.2.2.2.2) ho (fun j hj => by
      show (va_up (sDV σ) (sND σ) _ j).2.2.2.2.2 = _
      rw [va_up_ne _ _ (by omega)])
    have h2 := srt_ins (x := d) h1 (by show (va_up (sDV σ) (sND σ) _ (sND σ)).2.2.2.2.2 = d; rw [va_up_self])
    have e : posD (fun j => (va_up (sDV σ) (sND σ) (k, am, am, 0, so, d) (sOD σ j)).2.2.2.2.2) d (sND σ) = posD (dayF σ) d (sND σ) := by
      have : ∀ n, n ≤ sND σ → posD (fun j => (va_up (sDV σ) (sND σ) (k, am, am, 0, so, d) (sOD σ j)).2.2.2.2.2) d n = posD (dayF σ) d n := by
        intro n
        induction n with
        | zero => intro _; rfl
        | succ n ih =>
          intro hn2
          have hne : ¬ sOD σ n = sND σ := by have := ho.1 n (by omega); omega
          rw [posD, posD, ih (by omega)]
          simp only [va_up_ne _ _ hne]
          rfl
      exact this _ (Nat.le_refl _)
    rw [e] at h2
    exact h2
theorem Inv_stD {σ : SS} (hV : Inv σ) {k : Nat} {v : DV} (hk : k < sND σ) (h1 : v.1 = (sDV σ k).1) (h2 : v.2.1 = (sDV σ k).2.1) (h3 : v.2.2.1 + v.2.2.2.1 ≤ v.2.1) (h4 : v.2.2.2.2.2 = (sDV σ k).2.2.2.2.2) : Inv (stD σ k v) := by
  obtain ⟨hb, hr, hl, hd, hi, ho⟩ := hV
  refine ⟨hb, hr, hl, fun j hj => ?_, hi, ?_⟩
  · show (va_up (sDV σ) k v j).1 < sNL σ ∧ (va_up (sDV σ) k v j).2.1 ≤ 10000000 ∧ (va_up (sDV σ) k v j).2.2.1 + (va_up (sDV σ) k v j).2.2.2.1 ≤ (va_up (sDV σ) k v j).2.1
    by_cases e : j = k
    · subst e; rw [va_up_self, h1, h2]; exact ⟨(hd j hj).1, (hd j hj).2.1, by rw [← h2]; exact h3⟩
    · rw [va_up_ne _ _ e]; exact hd j hj
  · have hh : srt (sND σ) (fun j => (va_up (sDV σ) k v j).2.2.2.2.2) (sOD σ) := srt_day (day := fun j => (sDV σ j).2.2.2.2.2) ho (fun j hj => by
      show (va_up (sDV σ) k v j).2.2.2.2.2 = (sDV σ j).2.2.2.2.2
      by_cases e : j = k
      · subst e; rw [va_up_self, h4]
      · rw [va_up_ne _ _ e])
    exact hh
theorem Inv_zeD {σ : SS} (hV : Inv σ) {k : Nat} (hk : k < sND σ) : Inv (zeD σ k) := Inv_stD hV hk rfl rfl (by have := (hV.2.2.2.1 k hk).2.2; show 0 + (sDV σ k).2.2.2.1 ≤ (sDV σ k).2.1; omega) rfl
theorem Inv_stK {σ : SS} (hV : Inv σ) {k v : Nat} : Inv (stK σ k v) := hV
theorem Inv_lost {σ : SS} (hV : Inv σ) {k : Nat} (hk : k < sNL σ) (hst : (sLV σ k).2.2.2.2.1 = 1) {n : Nat} (h0 : 0 < n) (hn : n ≤ sND σ) : Inv (σ.1, (sNL σ, va_up (sLV σ) k ((sLV σ k).1, (sLV σ k).2.1, (sLV σ k).2.2.1, (sLV σ k).2.2.2.1, 3, n)), σ.2.2) := by
  obtain ⟨hb, hr, hl, hd, hi, ho⟩ := hV
  refine ⟨hb, hr, fun j hj => ?_, hd, fun i hi0 j => ?_, ho⟩
  · by_cases e : j = k
    · subst e
      obtain ⟨a1, a2, a3, a4, a5, a6, a7⟩ := hl j hj
      simp only [sLV, sNL, sNR, sND, va_up_self]
      exact ⟨a1, a2, a3, ⟨by decide, by decide⟩, hn, (fun h => by cases h), fun _ => h0⟩
    · have := hl j hj
      simp only [sLV, sNL, sNR, sND, va_up_ne _ _ e]
      exact this
  · have e0 := hi i hi0 j
    by_cases e : j = k
    · subst e
      show sIT σ i = some j ↔ j < sNL σ ∧ (va_up (sLV σ) j _ j).1 = i ∧ (va_up (sLV σ) j _ j).2.2.2.2.1 ≠ 2
      rw [va_up_self, e0, hst]
      exact ⟨fun h => ⟨h.1, h.2.1, show (3 : Nat) ≠ 2 by decide⟩, fun h => ⟨h.1, h.2.1, by decide⟩⟩
    · show sIT σ i = some j ↔ j < sNL σ ∧ (va_up (sLV σ) k _ j).1 = i ∧ (va_up (sLV σ) k _ j).2.2.2.2.1 ≠ 2
      rw [va_up_ne _ _ e]; exact e0
theorem none_up {g : hG} {a b : Nat} {x : va_E} (h : va_up g a (some x) b = none) : g b = none := by
  by_cases e : b = a
  · subst e; rw [va_up_self] at h; cases h
  · rw [va_up_ne g _ e] at h; exact h
theorem gr_up {F : Nat → Prop} {g u : hG} (h : ∀ a, u a = none → g a = none) : ∀ a, gr F u a → gr F g a := fun a q => q.elim Or.inl (fun z => Or.inr (h a z))
theorem late_le {σ : SS} (hV : Inv σ) {k : Nat} (hk : k < sNL σ) {d : Int64} (h : 0 < lateJ σ k d) : (lateJ σ k d).toInt.toNat ≤ 10000000 := by
  obtain ⟨-, ⟨q, hq, hc⟩, -⟩ := hV.2.1 _ (hV.2.2.1 k hk).2.2.1
  have key : lateJ σ k d = 0 ∨ lateJ σ k d ≤ lN q := by
    unfold lateJ rvCents mnJ
    rw [hc, nI_l (by omega)]
    split
    · exact Or.inl rfl
    · right
      split
      · exact Int64.le_refl _
      · rename_i h2; exact Int64.not_lt.mp h2
  rcases key with e | e
  · rw [e] at h; exact absurd h (by decide)
  · rw [Int64.le_iff_toInt_le, pk_lT (by omega)] at e
    omega
theorem cell_new (aR : Nat → Nat) (L : Nat → LV) (k : Nat) (am : Int64) (so : Int32) (d : Int64) (h : 0 < am) : cDe (nI (L k).2.1) (aR (L k).2.2.1) so am d am 0 = cDv (dcOf aR L (k, am.toInt.toNat, am.toInt.toNat, 0, so, d)) := by
  show cDe (nI (L k).2.1) (aR (L k).2.2.1) so am d am 0 = cDe (nI (L k).2.1) (aR (L k).2.2.1) so (lN am.toInt.toNat) d (lN am.toInt.toNat) (lN 0)
  rw [lN_toNat h]; rfl
/-- a debt more, by DebtRows.add -/
theorem RC_add {F : Nat → Prop} {t : Nat → ClassId} {g : hG} {ad aR aL aD : Nat → Nat} {fR fL fI fN fB : Nat → Option Nat} {σ : SS} (h : RC F t g ad aR aL aD fR fL fI fN fB σ) (hV : Inv σ) {o k : Nat} {am d : Int64} {so : Int32} (ho : g o = none) (ham : 0 < am) (hn : sND σ < 200) :
    RCx (gr F g) t ad (adD σ k am.toInt.toNat so d) (bAdd t g (ad 4) (ad 7) (ad 8) (sND σ) fN fB (insP (fun j => dcOf aR (sLV σ) (sDV σ (sOD σ j))) d (sND σ)) o (cDe (nI (sLV σ k).2.1) (aR (sLV σ k).2.2.1) so am d am 0)) ∧ Keep F g (bAdd t g (ad 4) (ad 7) (ad 8) (sND σ) fN fB (insP (fun j => dcOf aR (sLV σ) (sDV σ (sOD σ j))) d (sND σ)) o (cDe (nI (sLV σ k).2.1) (aR (sLV σ k).2.2.1) so am d am 0)) := by
  have hF := h.2.2.2.2.2.2.2.2.2.2.2.2.2.2.2.1
  rw [insP_pos, cell_new aR (sLV σ) k am so d ham]
  refine ⟨⟨_, _, _, _, _, _, _, _, RC.debtNew h o (posD (dayF σ) d (sND σ)) (k, am.toInt.toNat, am.toInt.toNat, 0, so, d) ho hV (posD_le _ _ _) hn⟩, ?_⟩
  exact Keep.up (Keep.up (Keep.up (Keep.up Keep.rf (Or.inr ho)) (Or.inl (hF 8 (by decide)))) (Or.inl (hF 7 (by decide)))) (Or.inl (hF 4 (by decide)))
/-- one step behind another -/
theorem step2 {F : Nat → Prop} {t : Nat → ClassId} {ad : Nat → Nat} {σ : SS} {g G u : hG} (h0 : ∀ a, G a = none → g a = none) (hk : Keep F g G) (h : RCx (gr F G) t ad σ u ∧ Keep F G u) : RCx (gr F g) t ad σ u ∧ Keep F g u :=
  ⟨h.1.mono (gr_up h0), hk.trans (fun b hb hn => h.2 b (fun q => hb (Or.inl q)) hn)⟩
theorem RC_add0 {F : Nat → Prop} {t : Nat → ClassId} {g : hG} {ad aR aL aD : Nat → Nat} {fR fL fI fN fB : Nat → Option Nat} {σ : SS} (h : RC F t g ad aR aL aD fR fL fI fN fB σ) (hV : Inv σ) {o k : Nat} {am d : Int64} {so : Int32} (ho : g o = none) (ham : 0 < am) (hn : sND σ < 200) :
    RC (gr F g) t (bAdd t g (ad 4) (ad 7) (ad 8) (sND σ) fN fB (insP (fun j => dcOf aR (sLV σ) (sDV σ (sOD σ j))) d (sND σ)) o (cDe (nI (sLV σ k).2.1) (aR (sLV σ k).2.2.1) so am d am 0)) ad aR aL (va_up aD (sND σ) o) fR fL fI (va_up fN (sND σ) (some o)) (insF fB (sND σ) (posD (dayF σ) d (sND σ)) o) (adD σ k am.toInt.toNat so d) := by
  rw [insP_pos, cell_new aR (sLV σ) k am so d ham]
  exact RC.debtNew h o (posD (dayF σ) d (sND σ)) (k, am.toInt.toNat, am.toInt.toNat, 0, so, d) ho hV (posD_le _ _ _) hn
theorem pos64 {y M : Int32} (h : wi y 1 M = true) : 0 < y.toInt64 := by
  have h1 := (wi_iff.mp h).1
  rw [Int32.le_iff_toInt_le] at h1
  rw [Int64.lt_iff_toInt_lt, Int32.toInt_toInt64]
  have e1 : (1 : Int32).toInt = 1 := by decide
  have e0 : (0 : Int64).toInt = 0 := by decide
  omega
theorem toNat64 (y : Int32) : y.toInt64.toInt.toNat = y.toInt.toNat := by rw [Int32.toInt_toInt64]
theorem lost_cell {aR aD : Nat → Nat} {v : LV} {n o : Nat} (h : v.2.2.2.2.1 = 1) (hl : v.2.2.2.2.2 ≤ n) : (.inr (4, [.int (lcOf aR (va_up aD n o) v).1, .int (lcOf aR (va_up aD n o) v).2.1, .ref (lcOf aR (va_up aD n o) v).2.2.1, .long (lcOf aR (va_up aD n o) v).2.2.2.1, .ref o, .int (lcOf aR (va_up aD n o) v).2.2.2.2.2]) : va_E) = cLc (lcOf aR (va_up aD n o) (v.1, v.2.1, v.2.2.1, v.2.2.2.1, 3, n + 1)) := by
  simp [lcOf, va_up, h, va_rf]
theorem lostN_no {σ : SS} {x : Int32} (h : wi x 0 59 = false) : lostN σ x = none := by simp [lostN, h]
theorem lostN_it {σ : SS} {i : Nat} (hi : i < 60) (h : sIT σ i = none) : lostN σ (nI i) = none := by
  rw [lostN, if_pos (wi_pl_of (M := 59) (n := 59) rfl (by decide) (by omega)), nI_k0 (by omega), h]
theorem lostN_st {σ : SS} {i k : Nat} (hi : i < 60) (h : sIT σ i = some k) : lostN σ (nI i) = if (sLV σ k).2.2.2.2.1 = 3 then some k else none := by
  rw [lostN, if_pos (wi_pl_of (M := 59) (n := 59) rfl (by decide) (by omega)), nI_k0 (by omega), h]
theorem st_of {σ : SS} (hV : Inv σ) {k : Nat} (hk : k < sNL σ) (h2 : (sLV σ k).2.2.2.2.1 ≠ 2) : (sLV σ k).2.2.2.2.1 = 3 ↔ ¬ (sLV σ k).2.2.2.2.2 = 0 := by
  obtain ⟨-, -, -, hb, -, h1, h3⟩ := hV.2.2.1 k hk
  constructor
  · intro h; have := h3 h; omega
  · intro h
    by_cases e : (sLV σ k).2.2.2.2.1 = 1
    · exact absurd (h1 e) h
    · omega
end
section
set_option maxHeartbeats 4000000 in
set_option maxRecDepth 100000 in
theorem c_F_back (l : Launch) (D : va_G) (t : Nat → ClassId) (A : Nat → Prop) (g : hG) (F : Nat → Prop) (ad : Nat → Nat) (σ : SS) (x : Int32) (d : Int64) (hRx : RCx F t ad σ g) (hV : Inv σ) : Met l y_F_back (Cond.code y_F_back b_F_back 7 (some .int) :: TB) ({ frames := 4, cells := 1, slots := 7, locals := 103 } : Room) (va_Pc [.ref (ad 0), .int x, .long d] (hI D vwCl (tyL t) EX A g)) (va_Qi (fun r u => r = (spBack σ x d).1 ∧ RCx (gr F g) t ad (spBack σ x d).2 u ∧ Keep F g u) (fun u v => hw D vwCl A u v.heap) A) 1 7 A := by
  refine Met.ofH (cc := b_F_back) (maxL := 7) (ret := (some .int)) (lv := [(0, .ref (ad 0)), (1, .int x), (2, .long d)]) (by decide) (Nat.le_of_ble_eq_true rfl) rfl ?_
  intro p e s m below meth c ls X hP hS hl
  obtain ⟨hx, hb, hml, hr, hts, hown, hlocks, hK, hEs, hA, hnm⟩ := id X
  obtain ⟨aR, aL, aD, fR, fL, fI, fN, fB, hRc⟩ := id hRx
  obtain ⟨h0, ⟨h1, h1f⟩, ⟨h2, h2f⟩, ⟨h3, h3f⟩, h4, h5, h6, ⟨h7, h7f⟩, ⟨h8, h8f⟩, h9, hRr, hLl, hDd, h78, ⟨iR, iL, iD⟩, f0, f1, f2, f3⟩ := id hRc
  have hn1 := hV.1.1
  have hn2 := hV.1.2.1
  have hn3 := hV.1.2.2.1
  have hn4 := hV.1.2.2.2
  refine lv_aload_n hx hb d_F_back_0 rfl (lv_at hl 0 rfl) ?_
  refine lv_iload_n hx hb d_F_back_1 rfl (lv_at hl 1 rfl) ?_
  refine k_F_99 X ⟨Nat.le_of_ble_eq_true rfl, Nat.le_of_ble_eq_true rfl⟩ ⟨Nat.le_of_ble_eq_true rfl, Nat.le_of_ble_eq_true rfl⟩ hl.1 hP hS h0 h0 h2 hn2 h2f hLl (by exact Nat.le_of_ble_eq_true rfl) d_F_back_2 (fun r_1 H locs er_1 hP hS => ?_)
  refine lv_topq (fun ey_2 => ?_) (fun y_2 ey_2 => ?_)
  · have hN := lnQ_N hV (er_1 ▸ ey_2)
    refine lv_astoreN (lv' := [(4, .null), (0, .ref (ad 0)), (1, .int x), (2, .long d)]) hx hb d_F_back_5 hl (by decide) rfl (fun ls hl => ?_)
    refine lv_aloadN hx hb d_F_back_7 (lv_at hl 0 rfl) ?_
    refine lv_ifnullN (tgt := 19) hx hb d_F_back_9 (by decide) ?_
    refine lv_iconst (v := (-1)) hx hb d_F_back_19 (by decide) ?_
    have e9 : spBack σ x d = (-1, σ) := by simp [spBack, hN]
    exact h_iret hx hb hr hlocks (Nat.le_of_ble_eq_true rfl) (Nat.le_of_ble_eq_true rfl) hP hS (⟨by rw [e9], by rw [e9]; exact hRx.mono (fun _ h => Or.inl h), Keep.rf⟩) d_F_back_20
  · obtain ⟨k, hk, rfl, rfl, hst, hln⟩ := lnQ_S hV (er_1 ▸ ey_2)
    refine lv_astore (lv' := [(4, .ref (aL k)), (0, .ref (ad 0)), (1, .int (nI (k + 1))), (2, .long d)]) hx hb d_F_back_5 hl (by decide) rfl (fun ls hl => ?_)
    refine lv_aload hx hb d_F_back_7 (lv_at hl 0 rfl) ?_
    refine lv_ifnull hx hb d_F_back_9 ?_
    refine lv_lload_n hx hb d_F_back_12 rfl (lv_at hl 3 rfl) ?_
    refine k_F_76 X ⟨Nat.le_of_ble_eq_true rfl, Nat.le_of_ble_eq_true rfl⟩ ⟨Nat.le_of_ble_eq_true rfl, Nat.le_of_ble_eq_true rfl⟩ hl.1 hP hS (by exact Nat.le_of_ble_eq_true rfl) d_F_back_13 (fun r_3 H locs er_3 hP hS => ?_)
    refine lv_if_ne (tgt := 21) hx hb d_F_back_16 (by decide) (fun c_4 => ?_) (fun c_4 => ?_)
    · have t_3 := bi_n0.mp (er_3 ▸ c_4)
      refine lv_aload_n hx hb d_F_back_21 rfl (lv_at hl 1 rfl) ?_
      refine lv_aload hx hb d_F_back_22 (lv_at hl 0 rfl) ?_
      refine lv_lload_n hx hb d_F_back_24 rfl (lv_at hl 3 rfl) ?_
      refine k_F_105 X ⟨Nat.le_of_ble_eq_true rfl, Nat.le_of_ble_eq_true rfl⟩ ⟨Nat.le_of_ble_eq_true rfl, Nat.le_of_ble_eq_true rfl⟩ hl.1 hP hS h0 h0 (hLl k hk) (hRr _ (hV.2.2.1 k hk).2.2.1) h5 h9 hn4 (by exact Nat.le_of_ble_eq_true rfl) d_F_back_25 (fun r_5 H locs er_5 hP hS => ?_)
      refine lv_lstore (lv' := [(5, .long r_5), (4, .ref (aL k)), (0, .ref (ad 0)), (1, .int (nI (k + 1))), (2, .long d)]) hx hb d_F_back_28 hl (by decide) rfl (fun ls hl => ?_)
      refine lv_lload hx hb d_F_back_30 (lv_at hl 0 rfl) ?_
      refine lv_lconst (v := 0) hx hb d_F_back_32 (by decide) ?_
      refine W.lcmp hx hb d_F_back_33 ?_
      refine lv_if_le (tgt := 49) hx hb d_F_back_34 (by decide) (fun c_6 => ?_) (fun c_6 => ?_)
      · rw [lg_cmp_le] at c_6
        refine lv_aload_n hx hb d_F_back_49 rfl (lv_at hl 2 rfl) ?_
        refine lv_aload hx hb d_F_back_50 (lv_at hl 1 rfl) ?_
        refine k_F_113 X ⟨Nat.le_of_ble_eq_true rfl, Nat.le_of_ble_eq_true rfl⟩ ⟨Nat.le_of_ble_eq_true rfl, Nat.le_of_ble_eq_true rfl⟩ hl.1 hP hS h0 h0 (hLl k hk) h3 (hV.2.2.1 k hk).1 (by exact Nat.le_of_ble_eq_true rfl) d_F_back_52 (fun H locs hP hS => ?_)
        obtain ⟨G, hG⟩ : ∃ G : hG, G = va_up (va_up g (aL k) (some (cLc (lcOf aR aD ((sLV σ k).1, (sLV σ k).2.1, (sLV σ k).2.2.1, (sLV σ k).2.2.2.1, 2, (sLV σ k).2.2.2.2.2))))) (ad 3) (some (arQ t 4 60 (va_up fI (sLV σ k).1 none))) := ⟨_, rfl⟩
        have hP : hw D vwCl A G H := by rw [hG]; exact hP
        have hR1 : RC F t G ad aR aL aD fR fL (va_up fI (sLV σ k).1 none) fN fB (enL σ k) := by rw [hG]; exact RC.item (RC.loan hRc k ((sLV σ k).1, (sLV σ k).2.1, (sLV σ k).2.2.1, (sLV σ k).2.2.2.1, 2, (sLV σ k).2.2.2.2.2) hk ⟨rfl, rfl⟩) _
        have hK1 : Keep F g G := by rw [hG]; exact Keep.up (Keep.up Keep.rf (Or.inl (f2 k hk))) (Or.inl (f0 3 (by decide)))
        have hG0 : ∀ a, G a = none → g a = none := fun a h => by rw [hG] at h; exact none_up (none_up h)
        have hV1 : Inv (enL σ k) := Inv_enL hV hk (by rw [hst]; decide)
        obtain ⟨b0, ⟨b1, b1f⟩, ⟨b2, b2f⟩, ⟨b3, b3f⟩, b4, b5, b6, ⟨b7, b7f⟩, ⟨b8, b8f⟩, b9, bRr, bLl, bDd, b78, -, bf0, -, bf2, bf3⟩ := id hR1
        refine lv_aload_n hx hb d_F_back_55 rfl (lv_at hl 2 rfl) ?_
        refine lv_aload hx hb d_F_back_56 (lv_at hl 1 rfl) ?_
        refine lv_lload hx hb d_F_back_58 (lv_at hl 0 rfl) ?_
        refine lv_lload_n hx hb d_F_back_60 rfl (lv_at hl 4 rfl) ?_
        refine k_F_117 X ⟨Nat.le_of_ble_eq_true rfl, Nat.le_of_ble_eq_true rfl⟩ ⟨Nat.le_of_ble_eq_true rfl, Nat.le_of_ble_eq_true rfl⟩ hl.1 hP hS b0 b0 (bLl k hk) b4 b7 b8 b78 hn3 b8f (fun i hi => bDd _ (hV.2.2.2.2.2.1 i hi)) (fun h => absurd h (Int64.not_lt.mpr c_6)) (by exact Nat.le_of_ble_eq_true rfl) d_F_back_61 (fun r_8 u H locs hr_8 hP hS => ?_)
        have e9 : spBack σ (nI (k + 1)) d = chD (enL σ k) k (lateJ σ k d) d := by simp only [spBack, hln]; rw [if_pos (by rw [er_5] at c_6; have hnl : ¬ 0 < lateJ σ k d := Int64.not_lt.mpr c_6; simp [t_3, hnl])]
        have ea : lateJ σ k d = r_5 := er_5.symm
        have hfin : r_8 = (spBack σ (nI (k + 1)) d).1 ∧ RCx (gr F g) t ad (spBack σ (nI (k + 1)) d).2 u ∧ Keep F g u := by
          rw [e9, ea, chD]
          rcases hr_8 with ⟨g1, g2, g3⟩ | ⟨g1, g2, o, g3, g4⟩
          · rw [if_neg (Int64.not_lt.mpr g1), g2, g3]; exact ⟨rfl, ⟨_, _, _, _, _, _, _, _, hR1.mono (fun _ h => Or.inl h)⟩, hK1⟩
          · exact absurd g1 (Int64.not_lt.mpr c_6)
        exact h_iret hx hb hr hlocks (Nat.le_of_ble_eq_true rfl) (Nat.le_of_ble_eq_true rfl) hP hS (hfin) d_F_back_64
      · rw [lg_cmp_le] at c_6
        refine lv_aload_n hx hb d_F_back_37 rfl (lv_at hl 2 rfl) ?_
        refine g_F_27 X hb hP h0 rfl d_F_back_38 ?_
        refine k_F_109 X ⟨Nat.le_of_ble_eq_true rfl, Nat.le_of_ble_eq_true rfl⟩ ⟨Nat.le_of_ble_eq_true rfl, Nat.le_of_ble_eq_true rfl⟩ hl.1 hP hS h4 h4 hn3 (by exact Nat.le_of_ble_eq_true rfl) d_F_back_41 (fun r_9 H locs er_9 hP hS => ?_)
        refine lv_if_eq (tgt := 49) hx hb d_F_back_44 (by decide) (fun c_10 => ?_) (fun c_10 => ?_)
        · have t_9 := bi_0.mp (er_9 ▸ c_10)
          refine lv_aload_n hx hb d_F_back_49 rfl (lv_at hl 2 rfl) ?_
          refine lv_aload hx hb d_F_back_50 (lv_at hl 1 rfl) ?_
          refine k_F_113 X ⟨Nat.le_of_ble_eq_true rfl, Nat.le_of_ble_eq_true rfl⟩ ⟨Nat.le_of_ble_eq_true rfl, Nat.le_of_ble_eq_true rfl⟩ hl.1 hP hS h0 h0 (hLl k hk) h3 (hV.2.2.1 k hk).1 (by exact Nat.le_of_ble_eq_true rfl) d_F_back_52 (fun H locs hP hS => ?_)
          obtain ⟨G, hG⟩ : ∃ G : hG, G = va_up (va_up g (aL k) (some (cLc (lcOf aR aD ((sLV σ k).1, (sLV σ k).2.1, (sLV σ k).2.2.1, (sLV σ k).2.2.2.1, 2, (sLV σ k).2.2.2.2.2))))) (ad 3) (some (arQ t 4 60 (va_up fI (sLV σ k).1 none))) := ⟨_, rfl⟩
          have hP : hw D vwCl A G H := by rw [hG]; exact hP
          have hR1 : RC F t G ad aR aL aD fR fL (va_up fI (sLV σ k).1 none) fN fB (enL σ k) := by rw [hG]; exact RC.item (RC.loan hRc k ((sLV σ k).1, (sLV σ k).2.1, (sLV σ k).2.2.1, (sLV σ k).2.2.2.1, 2, (sLV σ k).2.2.2.2.2) hk ⟨rfl, rfl⟩) _
          have hK1 : Keep F g G := by rw [hG]; exact Keep.up (Keep.up Keep.rf (Or.inl (f2 k hk))) (Or.inl (f0 3 (by decide)))
          have hG0 : ∀ a, G a = none → g a = none := fun a h => by rw [hG] at h; exact none_up (none_up h)
          have hV1 : Inv (enL σ k) := Inv_enL hV hk (by rw [hst]; decide)
          obtain ⟨b0, ⟨b1, b1f⟩, ⟨b2, b2f⟩, ⟨b3, b3f⟩, b4, b5, b6, ⟨b7, b7f⟩, ⟨b8, b8f⟩, b9, bRr, bLl, bDd, b78, -, bf0, -, bf2, bf3⟩ := id hR1
          refine lv_aload_n hx hb d_F_back_55 rfl (lv_at hl 2 rfl) ?_
          refine lv_aload hx hb d_F_back_56 (lv_at hl 1 rfl) ?_
          refine lv_lload hx hb d_F_back_58 (lv_at hl 0 rfl) ?_
          refine lv_lload_n hx hb d_F_back_60 rfl (lv_at hl 4 rfl) ?_
          refine k_F_117 X ⟨Nat.le_of_ble_eq_true rfl, Nat.le_of_ble_eq_true rfl⟩ ⟨Nat.le_of_ble_eq_true rfl, Nat.le_of_ble_eq_true rfl⟩ hl.1 hP hS b0 b0 (bLl k hk) b4 b7 b8 b78 hn3 b8f (fun i hi => bDd _ (hV.2.2.2.2.2.1 i hi)) (fun _ => by have := of_decide_eq_false t_9; show sND σ < 200; omega) (by exact Nat.le_of_ble_eq_true rfl) d_F_back_61 (fun r_12 u H locs hr_12 hP hS => ?_)
          have e9 : spBack σ (nI (k + 1)) d = chD (enL σ k) k (lateJ σ k d) d := by simp only [spBack, hln]; rw [if_pos (by simp [t_3, t_9])]
          have ea : lateJ σ k d = r_5 := er_5.symm
          have hfin : r_12 = (spBack σ (nI (k + 1)) d).1 ∧ RCx (gr F g) t ad (spBack σ (nI (k + 1)) d).2 u ∧ Keep F g u := by
            rw [e9, ea, chD]
            rcases hr_12 with ⟨g1, g2, g3⟩ | ⟨g1, g2, o, g3, g4⟩
            · rw [if_neg (Int64.not_lt.mpr g1), g2, g3]; exact ⟨rfl, ⟨_, _, _, _, _, _, _, _, hR1.mono (fun _ h => Or.inl h)⟩, hK1⟩
            · rw [if_pos g1, g2, g4]; exact ⟨rfl, step2 hG0 hK1 (RC_add hR1 hV1 g3 g1 (by have := of_decide_eq_false t_9; show sND σ < 200; omega))⟩
          exact h_iret hx hb hr hlocks (Nat.le_of_ble_eq_true rfl) (Nat.le_of_ble_eq_true rfl) hP hS (hfin) d_F_back_64
        · have t_9 := bi_n0.mp (er_9 ▸ c_10)
          refine lv_iconst (v := (-1)) hx hb d_F_back_47 (by decide) ?_
          have hlt : 0 < lateJ σ k d := by rw [er_5] at c_6; exact Int64.not_le.mp c_6
          have e9 : spBack σ (nI (k + 1)) d = (-1, σ) := by simp [spBack, hln, hlt, t_3, t_9]
          exact h_iret hx hb hr hlocks (Nat.le_of_ble_eq_true rfl) (Nat.le_of_ble_eq_true rfl) hP hS (⟨by rw [e9], by rw [e9]; exact hRx.mono (fun _ h => Or.inl h), Keep.rf⟩) d_F_back_48
    · have t_3 := bi_0.mp (er_3 ▸ c_4)
      refine lv_iconst (v := (-1)) hx hb d_F_back_19 (by decide) ?_
      have e9 : spBack σ (nI (k + 1)) d = (-1, σ) := by simp [spBack, hln, t_3]
      exact h_iret hx hb hr hlocks (Nat.le_of_ble_eq_true rfl) (Nat.le_of_ble_eq_true rfl) hP hS (⟨by rw [e9], by rw [e9]; exact hRx.mono (fun _ h => Or.inl h), Keep.rf⟩) d_F_back_20
theorem k_W_50 {p : Program} {l : Launch} {e : Env} {R : Room} {s : State} {m : MethodId} {args : Array Value} {below : List Frame} {meth : Method} {c : Code} {H : Heap} {locs : List Loc} {cells slots : Nat} {Q : State → Prop} {cc : ByteArray} {pc : Nat} {ls : Array Slot} {rest : List Value} {D : va_G} {A : Nat → Prop} {t : Nat → ClassId} {g : hG} {nL : Nat} {ret0 : Option FieldType} {nm : String} (X : Cx p s m args meth c R_W cc nL ret0 TB D vwCl (tyL t) EX A nm) (hR : 4 + 1 ≤ R.frames ∧ 8 + (7 + 11) + 103 ≤ R.locals) (hf : cells + 1 ≤ R.cells ∧ slots + 7 ≤ R.slots) (hls : ls.size = nL) (hP : hw D vwCl A g H) (hS : va_S A s.heap H locs) {F : Nat → Prop} {ad : Nat → Nat} {σ : SS} {x : Int32} {d : Int64} {fs9 : List Value} (he9 : g (ad 0) = some (.inr (0, fs9))) (hRx : RCx F t ad σ g) (hV : Inv σ) (hW : (rest.map fun v => v.category).sum ≤ 8) (hdg : decode cc pc = .ok (.invokevirtual 50, 3)) (kk : ∀ (r : Int32) (u : hG) (H1 : Heap) (locs1 : List Loc), ((fun r u => r = (spBack σ x d).1 ∧ RCx (gr F g) t ad (spBack σ x d).2 u ∧ Keep F g u) r u) → hw D vwCl A u H1 → va_S A s.heap H1 locs1 → W p l e R s m args below meth c H1 locs1 (cells + 1) (slots + 7) Q (F0 m (pc + 3) ls (.int r :: rest))) : W p l e R s m args below meth c H locs cells slots Q (F0 m pc ls (.long d :: .int x :: .ref (ad 0) :: rest)) :=
  h_ci (runV (C := R_F) (T := F_F) (N := 9) X (c_F_back l D t A g F ad σ x d hRx hV) (tbm 228 (by decide +kernel)) (tbm 229 (by decide +kernel)) (tbm 230 (by decide +kernel)) (tbm 20 (by decide +kernel)) (tbm 231 (by decide +kernel)) rfl (n := 2) (by decide +kernel) hR hf hP he9 hS hls rfl rfl hW hdg) hS kk
end
section
set_option maxHeartbeats 4000000 in
set_option maxRecDepth 100000 in
theorem c_F_lost (l : Launch) (D : va_G) (t : Nat → ClassId) (A : Nat → Prop) (g : hG) (F : Nat → Prop) (ad : Nat → Nat) (σ : SS) (x y : Int32) (d : Int64) (hRx : RCx F t ad σ g) (hV : Inv σ) : Met l y_F_lost (Cond.code y_F_lost b_F_lost 7 (some .int) :: TB) ({ frames := 3, cells := 1, slots := 7, locals := 78 } : Room) (va_Pc [.ref (ad 0), .int x, .int y, .long d] (hI D vwCl (tyL t) EX A g)) (va_Qi (fun r u => r = (spLost σ x y d).1 ∧ RCx (gr F g) t ad (spLost σ x y d).2 u ∧ Keep F g u) (fun u v => hw D vwCl A u v.heap) A) 1 7 A := by
  refine Met.ofH (cc := b_F_lost) (maxL := 7) (ret := (some .int)) (lv := [(0, .ref (ad 0)), (1, .int x), (2, .int y), (3, .long d)]) (by decide) (Nat.le_of_ble_eq_true rfl) rfl ?_
  intro p e s m below meth c ls X hP hS hl
  obtain ⟨hx, hb, hml, hr, hts, hown, hlocks, hK, hEs, hA, hnm⟩ := id X
  obtain ⟨aR, aL, aD, fR, fL, fI, fN, fB, hRc⟩ := id hRx
  obtain ⟨h0, ⟨h1, h1f⟩, ⟨h2, h2f⟩, ⟨h3, h3f⟩, h4, h5, h6, ⟨h7, h7f⟩, ⟨h8, h8f⟩, h9, hRr, hLl, hDd, h78, ⟨iR, iL, iD⟩, f0, f1, f2, f3⟩ := id hRc
  have hn1 := hV.1.1
  have hn2 := hV.1.2.1
  have hn3 := hV.1.2.2.1
  have hn4 := hV.1.2.2.2
  refine lv_aload_n hx hb d_F_lost_0 rfl (lv_at hl 0 rfl) ?_
  refine lv_iload_n hx hb d_F_lost_1 rfl (lv_at hl 1 rfl) ?_
  refine k_F_99 X ⟨Nat.le_of_ble_eq_true rfl, Nat.le_of_ble_eq_true rfl⟩ ⟨Nat.le_of_ble_eq_true rfl, Nat.le_of_ble_eq_true rfl⟩ hl.1 hP hS h0 h0 h2 hn2 h2f hLl (by exact Nat.le_of_ble_eq_true rfl) d_F_lost_2 (fun r_1 H locs er_1 hP hS => ?_)
  refine lv_topq (fun ey_2 => ?_) (fun y_2 ey_2 => ?_)
  · have hN := lnQ_N hV (er_1 ▸ ey_2)
    refine lv_astoreN (lv' := [(5, .null), (0, .ref (ad 0)), (1, .int x), (2, .int y), (3, .long d)]) hx hb d_F_lost_5 hl (by decide) rfl (fun ls hl => ?_)
    refine lv_aloadN hx hb d_F_lost_7 (lv_at hl 0 rfl) ?_
    refine lv_ifnullN (tgt := 39) hx hb d_F_lost_9 (by decide) ?_
    refine lv_iconst (v := (-1)) hx hb d_F_lost_39 (by decide) ?_
    have e9 : spLost σ x y d = (-1, σ) := by simp [spLost, hN]
    exact h_iret hx hb hr hlocks (Nat.le_of_ble_eq_true rfl) (Nat.le_of_ble_eq_true rfl) hP hS (⟨by rw [e9], by rw [e9]; exact hRx.mono (fun _ h => Or.inl h), Keep.rf⟩) d_F_lost_40
  · obtain ⟨k, hk, rfl, rfl, hst, hln⟩ := lnQ_S hV (er_1 ▸ ey_2)
    refine lv_astore (lv' := [(5, .ref (aL k)), (0, .ref (ad 0)), (1, .int (nI (k + 1))), (2, .int y), (3, .long d)]) hx hb d_F_lost_5 hl (by decide) rfl (fun ls hl => ?_)
    refine lv_aload hx hb d_F_lost_7 (lv_at hl 0 rfl) ?_
    refine lv_ifnull hx hb d_F_lost_9 ?_
    refine lv_lload_n hx hb d_F_lost_12 rfl (lv_at hl 4 rfl) ?_
    refine k_F_76 X ⟨Nat.le_of_ble_eq_true rfl, Nat.le_of_ble_eq_true rfl⟩ ⟨Nat.le_of_ble_eq_true rfl, Nat.le_of_ble_eq_true rfl⟩ hl.1 hP hS (by exact Nat.le_of_ble_eq_true rfl) d_F_lost_13 (fun r_3 H locs er_3 hP hS => ?_)
    refine lv_if_eq (tgt := 39) hx hb d_F_lost_16 (by decide) (fun c_4 => ?_) (fun c_4 => ?_)
    · have t_3 := bi_0.mp (er_3 ▸ c_4)
      refine lv_iconst (v := (-1)) hx hb d_F_lost_39 (by decide) ?_
      have e9 : spLost σ (nI (k + 1)) y d = (-1, σ) := by simp [spLost, hln, t_3]
      exact h_iret hx hb hr hlocks (Nat.le_of_ble_eq_true rfl) (Nat.le_of_ble_eq_true rfl) hP hS (⟨by rw [e9], by rw [e9]; exact hRx.mono (fun _ h => Or.inl h), Keep.rf⟩) d_F_lost_40
    · have t_3 := bi_n0.mp (er_3 ▸ c_4)
      refine lv_iload_n hx hb d_F_lost_19 rfl (lv_at hl 3 rfl) ?_
      refine lv_iconst (v := 1) hx hb d_F_lost_20 (by decide) ?_
      refine lv_ldc (v := 10000000) hx hb hown (hts _ (tbm 114 (by decide +kernel))) d_F_lost_21 ?_
      refine k_F_47 X ⟨Nat.le_of_ble_eq_true rfl, Nat.le_of_ble_eq_true rfl⟩ ⟨Nat.le_of_ble_eq_true rfl, Nat.le_of_ble_eq_true rfl⟩ hl.1 hP hS (by exact Nat.le_of_ble_eq_true rfl) d_F_lost_23 (fun r_5 H locs er_5 hP hS => ?_)
      refine lv_if_eq (tgt := 39) hx hb d_F_lost_26 (by decide) (fun c_6 => ?_) (fun c_6 => ?_)
      · have t_5 := bi_0.mp (er_5 ▸ c_6)
        refine lv_iconst (v := (-1)) hx hb d_F_lost_39 (by decide) ?_
        have e9 : spLost σ (nI (k + 1)) y d = (-1, σ) := by simp [spLost, hln, t_3, t_5]
        exact h_iret hx hb hr hlocks (Nat.le_of_ble_eq_true rfl) (Nat.le_of_ble_eq_true rfl) hP hS (⟨by rw [e9], by rw [e9]; exact hRx.mono (fun _ h => Or.inl h), Keep.rf⟩) d_F_lost_40
      · have t_5 := bi_n0.mp (er_5 ▸ c_6)
        refine lv_aload_n hx hb d_F_lost_29 rfl (lv_at hl 1 rfl) ?_
        refine g_F_27 X hb hP h0 rfl d_F_lost_30 ?_
        refine k_F_109 X ⟨Nat.le_of_ble_eq_true rfl, Nat.le_of_ble_eq_true rfl⟩ ⟨Nat.le_of_ble_eq_true rfl, Nat.le_of_ble_eq_true rfl⟩ hl.1 hP hS h4 h4 hn3 (by exact Nat.le_of_ble_eq_true rfl) d_F_lost_33 (fun r_7 H locs er_7 hP hS => ?_)
        refine lv_if_eq (tgt := 41) hx hb d_F_lost_36 (by decide) (fun c_8 => ?_) (fun c_8 => ?_)
        · have t_7 := bi_0.mp (er_7 ▸ c_8)
          refine lv_aload_n hx hb d_F_lost_41 rfl (lv_at hl 1 rfl) ?_
          refine g_F_27 X hb hP h0 rfl d_F_lost_42 ?_
          refine lv_aload hx hb d_F_lost_45 (lv_at hl 0 rfl) ?_
          refine lv_iconst (v := 1) hx hb d_F_lost_47 (by decide) ?_
          refine lv_iload_n hx hb d_F_lost_48 rfl (lv_at hl 3 rfl) ?_
          refine lv_i2l hx hb d_F_lost_49 rfl ?_
          refine lv_lload_n hx hb d_F_lost_50 rfl (lv_at hl 4 rfl) ?_
          refine k_F_121 X ⟨Nat.le_of_ble_eq_true rfl, Nat.le_of_ble_eq_true rfl⟩ ⟨Nat.le_of_ble_eq_true rfl, Nat.le_of_ble_eq_true rfl⟩ hl.1 hP hS h4 h4 h7 h8 (hLl k hk) h78 (by have := of_decide_eq_false t_7; omega) h8f (fun i hi => hDd _ (hV.2.2.2.2.2.1 i hi)) (by exact Nat.le_of_ble_eq_true rfl) d_F_lost_51 (fun r_9 u H locs hr_9 hP hS => ?_)
          obtain ⟨rfl, o, ho, hu⟩ := hr_9
          have hlt9 : sND σ < 200 := by have := of_decide_eq_false t_7; omega
          have hR1 := RC_add0 hRc hV (k := k) (d := d) (so := 1) ho (pos64 t_5) hlt9
          have hK1 := (RC_add hRc hV (k := k) (d := d) (so := 1) ho (pos64 t_5) hlt9).2
          rw [toNat64] at hR1
          have hu2 : u = _ := hu
          rw [show u = bAdd t g (ad 4) (ad 7) (ad 8) (sND σ) fN fB (insP (fun j => dcOf aR (sLV σ) (sDV σ (sOD σ j))) d (sND σ)) o (cDe (nI (sLV σ k).2.1) (aR (sLV σ k).2.2.1) 1 y.toInt64 d y.toInt64 0) from hu] at hP
          generalize bAdd t g (ad 4) (ad 7) (ad 8) (sND σ) fN fB (insP (fun j => dcOf aR (sLV σ) (sDV σ (sOD σ j))) d (sND σ)) o (cDe (nI (sLV σ k).2.1) (aR (sLV σ k).2.2.1) 1 y.toInt64 d y.toInt64 0) = G at hR1 hK1 hP
          obtain ⟨b0, ⟨b1, b1f⟩, ⟨b2, b2f⟩, ⟨b3, b3f⟩, b4, b5, b6, ⟨b7, b7f⟩, ⟨b8, b8f⟩, b9, bRr, bLl, bDd, b78, -, bf0, -, bf2, bf3⟩ := id hR1
          refine lv_istore (lv' := [(6, .int (nI (sND σ + 1))), (5, .ref (aL k)), (0, .ref (ad 0)), (1, .int (nI (k + 1))), (2, .int y), (3, .long d)]) hx hb d_F_lost_54 hl (by decide) rfl (fun ls hl => ?_)
          refine lv_aload hx hb d_F_lost_56 (lv_at hl 1 rfl) ?_
          refine lv_aload_n hx hb d_F_lost_58 rfl (lv_at hl 2 rfl) ?_
          refine g_F_27 X hb hP b0 rfl d_F_lost_59 ?_
          refine lv_iload hx hb d_F_lost_62 (lv_at hl 0 rfl) ?_
          refine k_F_124 X ⟨Nat.le_of_ble_eq_true rfl, Nat.le_of_ble_eq_true rfl⟩ ⟨Nat.le_of_ble_eq_true rfl, Nat.le_of_ble_eq_true rfl⟩ hl.1 hP hS b4 b4 b7 (by show sND σ + 1 ≤ 200; omega) (by exact Nat.le_of_ble_eq_true rfl) d_F_lost_64 (fun r_10 H locs er_10 hP hS => ?_)
          refine lv_some (y := o) (by rw [er_10]; exact (numQ_at (n := sND σ + 1) (by omega) (Nat.lt_succ_self _)).trans (va_up_self _ _ _)) ?_
          refine p_F_128 X hb hP hS (bLl k hk) (Nat.le_of_ble_eq_true rfl) rfl rfl d_F_lost_67 (fun H locs hP hS => ?_)
          have he_11 := up_at (o := some (.inr (4, [.int (lcOf aR (va_up aD (sND σ) o) (sLV σ k)).1, .int (lcOf aR (va_up aD (sND σ) o) (sLV σ k)).2.1, .ref (lcOf aR (va_up aD (sND σ) o) (sLV σ k)).2.2.1, .long (lcOf aR (va_up aD (sND σ) o) (sLV σ k)).2.2.2.1, .ref o, .int (lcOf aR (va_up aD (sND σ) o) (sLV σ k)).2.2.2.2.2]))) b0 (hw_kd b0 (bLl k hk) rfl)
          have he_12 := up_at (o := some (.inr (4, [.int (lcOf aR (va_up aD (sND σ) o) (sLV σ k)).1, .int (lcOf aR (va_up aD (sND σ) o) (sLV σ k)).2.1, .ref (lcOf aR (va_up aD (sND σ) o) (sLV σ k)).2.2.1, .long (lcOf aR (va_up aD (sND σ) o) (sLV σ k)).2.2.2.1, .ref o, .int (lcOf aR (va_up aD (sND σ) o) (sLV σ k)).2.2.2.2.2]))) b4 (hw_kd b4 (bLl k hk) rfl)
          have he_13 := va_up_self G (aL k) (some (.inr (4, [.int (lcOf aR (va_up aD (sND σ) o) (sLV σ k)).1, .int (lcOf aR (va_up aD (sND σ) o) (sLV σ k)).2.1, .ref (lcOf aR (va_up aD (sND σ) o) (sLV σ k)).2.2.1, .long (lcOf aR (va_up aD (sND σ) o) (sLV σ k)).2.2.2.1, .ref o, .int (lcOf aR (va_up aD (sND σ) o) (sLV σ k)).2.2.2.2.2]) : va_E))
          have hP : hw D vwCl A (va_up G (aL k) (some (.inr (4, [.int (lcOf aR (va_up aD (sND σ) o) (sLV σ k)).1, .int (lcOf aR (va_up aD (sND σ) o) (sLV σ k)).2.1, .ref (lcOf aR (va_up aD (sND σ) o) (sLV σ k)).2.2.1, .long (lcOf aR (va_up aD (sND σ) o) (sLV σ k)).2.2.2.1, .ref o, .int (lcOf aR (va_up aD (sND σ) o) (sLV σ k)).2.2.2.2.2])))) H := hP
          refine lv_iload hx hb d_F_lost_70 (lv_at hl 0 rfl) ?_
          have e9 : spLost σ (nI (k + 1)) y d = (nI (sND σ + 1), (σ.1, (sNL σ, va_up (sLV σ) k ((sLV σ k).1, (sLV σ k).2.1, (sLV σ k).2.2.1, (sLV σ k).2.2.2.1, 3, sND σ + 1)), (adD σ k y.toInt.toNat 1 d).2.2)) := by simp [spLost, hln, t_3, t_5, t_7]
          exact h_iret hx hb hr hlocks (Nat.le_of_ble_eq_true rfl) (Nat.le_of_ble_eq_true rfl) hP hS (⟨by rw [e9], by rw [e9]; rw [lost_cell hst (hV.2.2.1 k hk).2.2.2.2.1]; exact ⟨_, _, _, _, _, _, _, _, RC.loan hR1 k ((sLV σ k).1, (sLV σ k).2.1, (sLV σ k).2.2.1, (sLV σ k).2.2.2.1, 3, sND σ + 1) hk ⟨rfl, rfl⟩⟩, Keep.up hK1 (Or.inl (f2 k hk))⟩) d_F_lost_72
        · have t_7 := bi_n0.mp (er_7 ▸ c_8)
          refine lv_iconst (v := (-1)) hx hb d_F_lost_39 (by decide) ?_
          have e9 : spLost σ (nI (k + 1)) y d = (-1, σ) := by simp [spLost, hln, t_3, t_5, t_7]
          exact h_iret hx hb hr hlocks (Nat.le_of_ble_eq_true rfl) (Nat.le_of_ble_eq_true rfl) hP hS (⟨by rw [e9], by rw [e9]; exact hRx.mono (fun _ h => Or.inl h), Keep.rf⟩) d_F_lost_40
theorem k_W_55 {p : Program} {l : Launch} {e : Env} {R : Room} {s : State} {m : MethodId} {args : Array Value} {below : List Frame} {meth : Method} {c : Code} {H : Heap} {locs : List Loc} {cells slots : Nat} {Q : State → Prop} {cc : ByteArray} {pc : Nat} {ls : Array Slot} {rest : List Value} {D : va_G} {A : Nat → Prop} {t : Nat → ClassId} {g : hG} {nL : Nat} {ret0 : Option FieldType} {nm : String} (X : Cx p s m args meth c R_W cc nL ret0 TB D vwCl (tyL t) EX A nm) (hR : 3 + 1 ≤ R.frames ∧ 8 + (7 + 11) + 78 ≤ R.locals) (hf : cells + 1 ≤ R.cells ∧ slots + 7 ≤ R.slots) (hls : ls.size = nL) (hP : hw D vwCl A g H) (hS : va_S A s.heap H locs) {F : Nat → Prop} {ad : Nat → Nat} {σ : SS} {x y : Int32} {d : Int64} {fs9 : List Value} (he9 : g (ad 0) = some (.inr (0, fs9))) (hRx : RCx F t ad σ g) (hV : Inv σ) (hW : (rest.map fun v => v.category).sum ≤ 8) (hdg : decode cc pc = .ok (.invokevirtual 55, 3)) (kk : ∀ (r : Int32) (u : hG) (H1 : Heap) (locs1 : List Loc), ((fun r u => r = (spLost σ x y d).1 ∧ RCx (gr F g) t ad (spLost σ x y d).2 u ∧ Keep F g u) r u) → hw D vwCl A u H1 → va_S A s.heap H1 locs1 → W p l e R s m args below meth c H1 locs1 (cells + 1) (slots + 7) Q (F0 m (pc + 3) ls (.int r :: rest))) : W p l e R s m args below meth c H locs cells slots Q (F0 m pc ls (.long d :: .int y :: .int x :: .ref (ad 0) :: rest)) :=
  h_ci (runV (C := R_F) (T := F_F) (N := 9) X (c_F_lost l D t A g F ad σ x y d hRx hV) (tbm 288 (by decide +kernel)) (tbm 289 (by decide +kernel)) (tbm 290 (by decide +kernel)) (tbm 20 (by decide +kernel)) (tbm 291 (by decide +kernel)) rfl (n := 3) (by decide +kernel) hR hf hP he9 hS hls rfl rfl hW hdg) hS kk
end
section
set_option maxHeartbeats 4000000 in
set_option maxRecDepth 100000 in
theorem c_F_found (l : Launch) (D : va_G) (t : Nat → ClassId) (A : Nat → Prop) (g : hG) (F : Nat → Prop) (ad : Nat → Nat) (σ : SS) (x : Int32) (d : Int64) (hRx : RCx F t ad σ g) (hV : Inv σ) : Met l y_F_found (Cond.code y_F_found b_F_found 10 (some .long) :: TB) ({ frames := 4, cells := 1, slots := 7, locals := 103 } : Room) (va_Pc [.ref (ad 0), .int x, .long d] (hI D vwCl (tyL t) EX A g)) (va_Ql (fun r u => r = (spFound σ x d).1 ∧ RCx (gr F g) t ad (spFound σ x d).2 u ∧ Keep F g u) (fun u v => hw D vwCl A u v.heap) A) 1 7 A := by
  refine Met.ofH (cc := b_F_found) (maxL := 10) (ret := (some .long)) (lv := [(0, .ref (ad 0)), (1, .int x), (2, .long d)]) (by decide) (Nat.le_of_ble_eq_true rfl) rfl ?_
  intro p e s m below meth c ls X hP hS hl
  obtain ⟨hx, hb, hml, hr, hts, hown, hlocks, hK, hEs, hA, hnm⟩ := id X
  obtain ⟨aR, aL, aD, fR, fL, fI, fN, fB, hRc⟩ := id hRx
  obtain ⟨h0, ⟨h1, h1f⟩, ⟨h2, h2f⟩, ⟨h3, h3f⟩, h4, h5, h6, ⟨h7, h7f⟩, ⟨h8, h8f⟩, h9, hRr, hLl, hDd, h78, ⟨iR, iL, iD⟩, f0, f1, f2, f3⟩ := id hRc
  have hn1 := hV.1.1
  have hn2 := hV.1.2.1
  have hn3 := hV.1.2.2.1
  have hn4 := hV.1.2.2.2
  refine lv_iload_n hx hb d_F_found_0 rfl (lv_at hl 1 rfl) ?_
  refine k_F_86 X ⟨Nat.le_of_ble_eq_true rfl, Nat.le_of_ble_eq_true rfl⟩ ⟨Nat.le_of_ble_eq_true rfl, Nat.le_of_ble_eq_true rfl⟩ hl.1 hP hS (by exact Nat.le_of_ble_eq_true rfl) d_F_found_1 (fun r_1 H locs er_1 hP hS => ?_)
  refine lv_if_eq (tgt := 16) hx hb d_F_found_4 (by decide) (fun c_2 => ?_) (fun c_2 => ?_)
  · have t_1 := bi_0.mp (er_1 ▸ c_2)
    refine lv_null hx hb d_F_found_16 ?_
    refine lv_astoreN (lv' := [(4, .null), (0, .ref (ad 0)), (1, .int x), (2, .long d)]) hx hb d_F_found_17 hl (by decide) rfl (fun ls hl => ?_)
    refine lv_aloadN hx hb d_F_found_19 (lv_at hl 0 rfl) ?_
    refine lv_ifnullN (tgt := 32) hx hb d_F_found_21 (by decide) ?_
    refine lv_null hx hb d_F_found_32 ?_
    refine lv_astoreN (lv' := [(5, .null), (4, .null), (0, .ref (ad 0)), (1, .int x), (2, .long d)]) hx hb d_F_found_33 hl (by decide) rfl (fun ls hl => ?_)
    refine lv_aloadN hx hb d_F_found_35 (lv_at hl 1 rfl) ?_
    refine lv_ifnullN (tgt := 52) hx hb d_F_found_37 (by decide) ?_
    refine lv_ldc2 (v := (-1)) hx hb hown (hts _ (tbm 212 (by decide +kernel))) d_F_found_52 ?_
    have hN := lostN_no (σ := σ) t_1
    have e9 : spFound σ (x) d = (-1, σ) := by simp [spFound, hN]
    exact h_lret hx hb hr hlocks (Nat.le_of_ble_eq_true rfl) (Nat.le_of_ble_eq_true rfl) hP hS (⟨by rw [e9], by rw [e9]; exact hRx.mono (fun _ h => Or.inl h), Keep.rf⟩) d_F_found_55
  · have t_1 := bi_n0.mp (er_1 ▸ c_2)
    obtain ⟨i, hi, rfl⟩ := wi_pl (M := 59) (n := 59) rfl (by decide) t_1
    refine lv_aload_n hx hb d_F_found_7 rfl (lv_at hl 0 rfl) ?_
    refine g_F_21 X hb hP h0 rfl d_F_found_8 ?_
    refine lv_iload_n hx hb d_F_found_11 rfl (lv_at hl 1 rfl) ?_
    refine n_aald X hb hP 4 h3 rfl ⟨hi, by decide⟩ d_F_found_12 ?_
    refine lv_goto (tgt := 17) hx hb d_F_found_13 (by decide) ?_
    refine lv_topq (fun ey_3 => ?_) (fun y_3 ey_3 => ?_)
    · have hno : sIT σ i = none := by have h := h3f i hi; rw [ey_3] at h; cases hq : sIT σ i with | none => rfl | some z => (rw [hq] at h; cases h)
      have hN := lostN_it hi hno
      refine lv_astoreN (lv' := [(4, .null), (0, .ref (ad 0)), (1, .int (nI i)), (2, .long d)]) hx hb d_F_found_17 hl (by decide) rfl (fun ls hl => ?_)
      refine lv_aloadN hx hb d_F_found_19 (lv_at hl 0 rfl) ?_
      refine lv_ifnullN (tgt := 32) hx hb d_F_found_21 (by decide) ?_
      refine lv_null hx hb d_F_found_32 ?_
      refine lv_astoreN (lv' := [(5, .null), (4, .null), (0, .ref (ad 0)), (1, .int (nI i)), (2, .long d)]) hx hb d_F_found_33 hl (by decide) rfl (fun ls hl => ?_)
      refine lv_aloadN hx hb d_F_found_35 (lv_at hl 1 rfl) ?_
      refine lv_ifnullN (tgt := 52) hx hb d_F_found_37 (by decide) ?_
      refine lv_ldc2 (v := (-1)) hx hb hown (hts _ (tbm 212 (by decide +kernel))) d_F_found_52 ?_
      have e9 : spFound σ (nI i) d = (-1, σ) := by simp [spFound, hN]
      exact h_lret hx hb hr hlocks (Nat.le_of_ble_eq_true rfl) (Nat.le_of_ble_eq_true rfl) hP hS (⟨by rw [e9], by rw [e9]; exact hRx.mono (fun _ h => Or.inl h), Keep.rf⟩) d_F_found_55
    · obtain ⟨k, hik, rfl⟩ : ∃ k, sIT σ i = some k ∧ y_3 = aL k := by have h := h3f i hi; rw [ey_3] at h; cases hq : sIT σ i with | none => (rw [hq] at h; cases h) | some z => (rw [hq] at h; exact ⟨z, rfl, Option.some.inj h⟩)
      obtain ⟨hk, hitm, hs2⟩ := (hV.2.2.2.2.1 i hi k).mp hik
      refine lv_astore (lv' := [(4, .ref (aL k)), (0, .ref (ad 0)), (1, .int (nI i)), (2, .long d)]) hx hb d_F_found_17 hl (by decide) rfl (fun ls hl => ?_)
      refine lv_aload hx hb d_F_found_19 (lv_at hl 0 rfl) ?_
      refine lv_ifnull hx hb d_F_found_21 ?_
      refine lv_aload hx hb d_F_found_24 (lv_at hl 0 rfl) ?_
      refine g_F_128 X hb hP (hLl k hk) rfl d_F_found_26 ?_
      refine lv_goto (tgt := 33) hx hb d_F_found_29 (by decide) ?_
      refine lv_topq (fun ey_4 => ?_) (fun y_4 ey_4 => ?_)
      · have hl0 : (sLV σ k).2.2.2.2.2 = 0 := by by_cases e : (sLV σ k).2.2.2.2.2 = 0; exact e; exact absurd ey_4 (by simp [lcOf, e])
        have hN : lostN σ (nI i) = none := by rw [lostN_st hi hik, if_neg (fun q => (st_of hV hk hs2).mp q hl0)]
        refine lv_astoreN (lv' := [(5, .null), (4, .ref (aL k)), (0, .ref (ad 0)), (1, .int (nI i)), (2, .long d)]) hx hb d_F_found_33 hl (by decide) rfl (fun ls hl => ?_)
        refine lv_aload hx hb d_F_found_35 (lv_at hl 1 rfl) ?_
        refine lv_ifnull hx hb d_F_found_37 ?_
        refine lv_aloadN hx hb d_F_found_40 (lv_at hl 0 rfl) ?_
        refine lv_ifnullN (tgt := 52) hx hb d_F_found_42 (by decide) ?_
        refine lv_ldc2 (v := (-1)) hx hb hown (hts _ (tbm 212 (by decide +kernel))) d_F_found_52 ?_
        have e9 : spFound σ (nI i) d = (-1, σ) := by simp [spFound, hN]
        exact h_lret hx hb hr hlocks (Nat.le_of_ble_eq_true rfl) (Nat.le_of_ble_eq_true rfl) hP hS (⟨by rw [e9], by rw [e9]; exact hRx.mono (fun _ h => Or.inl h), Keep.rf⟩) d_F_found_55
      · have hl0 : ¬ (sLV σ k).2.2.2.2.2 = 0 := fun e => by simp [lcOf, e] at ey_4
        obtain rfl : y_4 = aD ((sLV σ k).2.2.2.2.2 - 1) := by have h := ey_4; simp [lcOf, hl0] at h; exact h.symm
        have hst : (sLV σ k).2.2.2.2.1 = 3 := (st_of hV hk hs2).mpr hl0
        have hln : lostN σ (nI i) = some k := by rw [lostN_st hi hik, if_pos hst]
        have hdd : ((sLV σ k).2.2.2.2.2 - 1) < sND σ := by have := (hV.2.2.1 k hk).2.2.2.2.1; omega
        refine lv_astore (lv' := [(5, .ref (aD ((sLV σ k).2.2.2.2.2 - 1))), (4, .ref (aL k)), (0, .ref (ad 0)), (1, .int (nI i)), (2, .long d)]) hx hb d_F_found_33 hl (by decide) rfl (fun ls hl => ?_)
        refine lv_aload hx hb d_F_found_35 (lv_at hl 1 rfl) ?_
        refine lv_ifnull hx hb d_F_found_37 ?_
        refine lv_aload hx hb d_F_found_40 (lv_at hl 0 rfl) ?_
        refine lv_ifnull hx hb d_F_found_42 ?_
        refine lv_lload_n hx hb d_F_found_45 rfl (lv_at hl 4 rfl) ?_
        refine k_F_76 X ⟨Nat.le_of_ble_eq_true rfl, Nat.le_of_ble_eq_true rfl⟩ ⟨Nat.le_of_ble_eq_true rfl, Nat.le_of_ble_eq_true rfl⟩ hl.1 hP hS (by exact Nat.le_of_ble_eq_true rfl) d_F_found_46 (fun r_5 H locs er_5 hP hS => ?_)
        refine lv_if_ne (tgt := 56) hx hb d_F_found_49 (by decide) (fun c_6 => ?_) (fun c_6 => ?_)
        · have t_5 := bi_n0.mp (er_5 ▸ c_6)
          refine lv_aload_n hx hb d_F_found_56 rfl (lv_at hl 2 rfl) ?_
          refine lv_aload hx hb d_F_found_57 (lv_at hl 1 rfl) ?_
          refine lv_lload_n hx hb d_F_found_59 rfl (lv_at hl 4 rfl) ?_
          refine k_F_105 X ⟨Nat.le_of_ble_eq_true rfl, Nat.le_of_ble_eq_true rfl⟩ ⟨Nat.le_of_ble_eq_true rfl, Nat.le_of_ble_eq_true rfl⟩ hl.1 hP hS h0 h0 (hLl k hk) (hRr _ (hV.2.2.1 k hk).2.2.1) h5 h9 hn4 (by exact Nat.le_of_ble_eq_true rfl) d_F_found_60 (fun r_7 H locs er_7 hP hS => ?_)
          refine lv_lstore (lv' := [(6, .long r_7), (5, .ref (aD ((sLV σ k).2.2.2.2.2 - 1))), (4, .ref (aL k)), (0, .ref (ad 0)), (1, .int (nI i)), (2, .long d)]) hx hb d_F_found_63 hl (by decide) rfl (fun ls hl => ?_)
          refine lv_lload hx hb d_F_found_65 (lv_at hl 0 rfl) ?_
          refine lv_lconst (v := 0) hx hb d_F_found_67 (by decide) ?_
          refine W.lcmp hx hb d_F_found_68 ?_
          refine lv_if_le (tgt := 86) hx hb d_F_found_69 (by decide) (fun c_8 => ?_) (fun c_8 => ?_)
          · rw [lg_cmp_le] at c_8
            refine lv_aload hx hb d_F_found_86 (lv_at hl 1 rfl) ?_
            refine g_F_132 X hb hP (hDd _ hdd) rfl d_F_found_88 ?_
            refine lv_topl (fun x_9 ex_9 => ?_)
            refine lv_lstore (lv' := [(8, .long x_9), (6, .long r_7), (5, .ref (aD ((sLV σ k).2.2.2.2.2 - 1))), (4, .ref (aL k)), (0, .ref (ad 0)), (1, .int (nI i)), (2, .long d)]) hx hb d_F_found_91 hl (by decide) rfl (fun ls hl => ?_)
            refine lv_aload hx hb d_F_found_93 (lv_at hl 2 rfl) ?_
            refine lv_lconst (v := 0) hx hb d_F_found_95 (by decide) ?_
            refine p_F_138 X hb hP hS (hDd _ hdd) (Nat.le_of_ble_eq_true rfl) d_F_found_96 (fun H locs hP hS => ?_)
            have he_10 := up_at (o := some (.inr (2, [.int (dcOf aR (sLV σ) (sDV σ ((sLV σ k).2.2.2.2.2 - 1))).1, .ref (dcOf aR (sLV σ) (sDV σ ((sLV σ k).2.2.2.2.2 - 1))).2.1, .int (dcOf aR (sLV σ) (sDV σ ((sLV σ k).2.2.2.2.2 - 1))).2.2.1, .long (dcOf aR (sLV σ) (sDV σ ((sLV σ k).2.2.2.2.2 - 1))).2.2.2.1, .long (dcOf aR (sLV σ) (sDV σ ((sLV σ k).2.2.2.2.2 - 1))).2.2.2.2.1, .long 0, .long (dcOf aR (sLV σ) (sDV σ ((sLV σ k).2.2.2.2.2 - 1))).2.2.2.2.2.2]))) h0 (hw_kd h0 (hDd _ hdd) rfl)
            have he_11 := up_at (o := some (.inr (2, [.int (dcOf aR (sLV σ) (sDV σ ((sLV σ k).2.2.2.2.2 - 1))).1, .ref (dcOf aR (sLV σ) (sDV σ ((sLV σ k).2.2.2.2.2 - 1))).2.1, .int (dcOf aR (sLV σ) (sDV σ ((sLV σ k).2.2.2.2.2 - 1))).2.2.1, .long (dcOf aR (sLV σ) (sDV σ ((sLV σ k).2.2.2.2.2 - 1))).2.2.2.1, .long (dcOf aR (sLV σ) (sDV σ ((sLV σ k).2.2.2.2.2 - 1))).2.2.2.2.1, .long 0, .long (dcOf aR (sLV σ) (sDV σ ((sLV σ k).2.2.2.2.2 - 1))).2.2.2.2.2.2]))) h3 (hw_kd h3 (hDd _ hdd) rfl)
            have he_12 := up_at (o := some (.inr (2, [.int (dcOf aR (sLV σ) (sDV σ ((sLV σ k).2.2.2.2.2 - 1))).1, .ref (dcOf aR (sLV σ) (sDV σ ((sLV σ k).2.2.2.2.2 - 1))).2.1, .int (dcOf aR (sLV σ) (sDV σ ((sLV σ k).2.2.2.2.2 - 1))).2.2.1, .long (dcOf aR (sLV σ) (sDV σ ((sLV σ k).2.2.2.2.2 - 1))).2.2.2.1, .long (dcOf aR (sLV σ) (sDV σ ((sLV σ k).2.2.2.2.2 - 1))).2.2.2.2.1, .long 0, .long (dcOf aR (sLV σ) (sDV σ ((sLV σ k).2.2.2.2.2 - 1))).2.2.2.2.2.2]))) h4 (hw_kd h4 (hDd _ hdd) rfl)
            have he_13 := up_at (o := some (.inr (2, [.int (dcOf aR (sLV σ) (sDV σ ((sLV σ k).2.2.2.2.2 - 1))).1, .ref (dcOf aR (sLV σ) (sDV σ ((sLV σ k).2.2.2.2.2 - 1))).2.1, .int (dcOf aR (sLV σ) (sDV σ ((sLV σ k).2.2.2.2.2 - 1))).2.2.1, .long (dcOf aR (sLV σ) (sDV σ ((sLV σ k).2.2.2.2.2 - 1))).2.2.2.1, .long (dcOf aR (sLV σ) (sDV σ ((sLV σ k).2.2.2.2.2 - 1))).2.2.2.2.1, .long 0, .long (dcOf aR (sLV σ) (sDV σ ((sLV σ k).2.2.2.2.2 - 1))).2.2.2.2.2.2]))) (hLl k hk) (hw_kd (hLl k hk) (hDd _ hdd) rfl)
            have he_14 := va_up_self g (aD ((sLV σ k).2.2.2.2.2 - 1)) (some (.inr (2, [.int (dcOf aR (sLV σ) (sDV σ ((sLV σ k).2.2.2.2.2 - 1))).1, .ref (dcOf aR (sLV σ) (sDV σ ((sLV σ k).2.2.2.2.2 - 1))).2.1, .int (dcOf aR (sLV σ) (sDV σ ((sLV σ k).2.2.2.2.2 - 1))).2.2.1, .long (dcOf aR (sLV σ) (sDV σ ((sLV σ k).2.2.2.2.2 - 1))).2.2.2.1, .long (dcOf aR (sLV σ) (sDV σ ((sLV σ k).2.2.2.2.2 - 1))).2.2.2.2.1, .long 0, .long (dcOf aR (sLV σ) (sDV σ ((sLV σ k).2.2.2.2.2 - 1))).2.2.2.2.2.2]) : va_E))
            have hP : hw D vwCl A (va_up g (aD ((sLV σ k).2.2.2.2.2 - 1)) (some (.inr (2, [.int (dcOf aR (sLV σ) (sDV σ ((sLV σ k).2.2.2.2.2 - 1))).1, .ref (dcOf aR (sLV σ) (sDV σ ((sLV σ k).2.2.2.2.2 - 1))).2.1, .int (dcOf aR (sLV σ) (sDV σ ((sLV σ k).2.2.2.2.2 - 1))).2.2.1, .long (dcOf aR (sLV σ) (sDV σ ((sLV σ k).2.2.2.2.2 - 1))).2.2.2.1, .long (dcOf aR (sLV σ) (sDV σ ((sLV σ k).2.2.2.2.2 - 1))).2.2.2.2.1, .long 0, .long (dcOf aR (sLV σ) (sDV σ ((sLV σ k).2.2.2.2.2 - 1))).2.2.2.2.2.2])))) H := hP
            have hR1 : RC F t (va_up g (aD ((sLV σ k).2.2.2.2.2 - 1)) (some (cDv (dcOf aR (sLV σ) ((sDV σ ((sLV σ k).2.2.2.2.2 - 1)).1, (sDV σ ((sLV σ k).2.2.2.2.2 - 1)).2.1, 0, (sDV σ ((sLV σ k).2.2.2.2.2 - 1)).2.2.2.1, (sDV σ ((sLV σ k).2.2.2.2.2 - 1)).2.2.2.2.1, (sDV σ ((sLV σ k).2.2.2.2.2 - 1)).2.2.2.2.2))))) ad aR aL aD fR fL fI fN fB (zeD σ ((sLV σ k).2.2.2.2.2 - 1)) := RC.debt hRc ((sLV σ k).2.2.2.2.2 - 1) ((sDV σ ((sLV σ k).2.2.2.2.2 - 1)).1, (sDV σ ((sLV σ k).2.2.2.2.2 - 1)).2.1, 0, (sDV σ ((sLV σ k).2.2.2.2.2 - 1)).2.2.2.1, (sDV σ ((sLV σ k).2.2.2.2.2 - 1)).2.2.2.2.1, (sDV σ ((sLV σ k).2.2.2.2.2 - 1)).2.2.2.2.2) hdd
            have hK1 : Keep F g (va_up g (aD ((sLV σ k).2.2.2.2.2 - 1)) (some (cDv (dcOf aR (sLV σ) ((sDV σ ((sLV σ k).2.2.2.2.2 - 1)).1, (sDV σ ((sLV σ k).2.2.2.2.2 - 1)).2.1, 0, (sDV σ ((sLV σ k).2.2.2.2.2 - 1)).2.2.2.1, (sDV σ ((sLV σ k).2.2.2.2.2 - 1)).2.2.2.2.1, (sDV σ ((sLV σ k).2.2.2.2.2 - 1)).2.2.2.2.2))))) := Keep.up Keep.rf (Or.inl (f3 _ hdd))
            have hG1 : ∀ a, va_up g (aD ((sLV σ k).2.2.2.2.2 - 1)) (some (cDv (dcOf aR (sLV σ) ((sDV σ ((sLV σ k).2.2.2.2.2 - 1)).1, (sDV σ ((sLV σ k).2.2.2.2.2 - 1)).2.1, 0, (sDV σ ((sLV σ k).2.2.2.2.2 - 1)).2.2.2.1, (sDV σ ((sLV σ k).2.2.2.2.2 - 1)).2.2.2.2.1, (sDV σ ((sLV σ k).2.2.2.2.2 - 1)).2.2.2.2.2)))) a = none → g a = none := fun a h => none_up h
            have hP : hw D vwCl A (va_up g (aD ((sLV σ k).2.2.2.2.2 - 1)) (some (cDv (dcOf aR (sLV σ) ((sDV σ ((sLV σ k).2.2.2.2.2 - 1)).1, (sDV σ ((sLV σ k).2.2.2.2.2 - 1)).2.1, 0, (sDV σ ((sLV σ k).2.2.2.2.2 - 1)).2.2.2.1, (sDV σ ((sLV σ k).2.2.2.2.2 - 1)).2.2.2.2.1, (sDV σ ((sLV σ k).2.2.2.2.2 - 1)).2.2.2.2.2))))) H := hP
            generalize va_up g (aD ((sLV σ k).2.2.2.2.2 - 1)) (some (cDv (dcOf aR (sLV σ) ((sDV σ ((sLV σ k).2.2.2.2.2 - 1)).1, (sDV σ ((sLV σ k).2.2.2.2.2 - 1)).2.1, 0, (sDV σ ((sLV σ k).2.2.2.2.2 - 1)).2.2.2.1, (sDV σ ((sLV σ k).2.2.2.2.2 - 1)).2.2.2.2.1, (sDV σ ((sLV σ k).2.2.2.2.2 - 1)).2.2.2.2.2)))) = G1 at hR1 hK1 hG1 hP
            obtain ⟨b0, ⟨b1, b1f⟩, ⟨b2, b2f⟩, ⟨b3, b3f⟩, b4, b5, b6, ⟨b7, b7f⟩, ⟨b8, b8f⟩, b9, bRr, bLl, bDd, b78, -, bf0, -, bf2, bf3⟩ := id hR1
            refine lv_aload_n hx hb d_F_found_99 rfl (lv_at hl 4 rfl) ?_
            refine lv_aload hx hb d_F_found_100 (lv_at hl 3 rfl) ?_
            refine g_F_141 X hb hP (bLl k hk) rfl d_F_found_102 ?_
            refine lv_lload hx hb d_F_found_105 (lv_at hl 0 rfl) ?_
            refine k_F_144 X ⟨Nat.le_of_ble_eq_true rfl, Nat.le_of_ble_eq_true rfl⟩ ⟨Nat.le_of_ble_eq_true rfl, Nat.le_of_ble_eq_true rfl⟩ hl.1 hP hS b0 b0 b6 (hV.2.2.1 k hk).2.1 (by exact Nat.le_of_ble_eq_true rfl) d_F_found_107 (fun H locs hP hS => ?_)
            have hP : hw D vwCl A (va_up G1 (ad 6) (some (arJ t 30 (va_up (fun i => lN (sKR σ i)) (sLV σ k).2.1 (lN (sKR σ (sLV σ k).2.1 + (sDV σ ((sLV σ k).2.2.2.2.2 - 1)).2.2.2.1)))))) H := by rw [← lN_add]; have q := hP; rw [ex_9] at q; exact q
            have hR2 : RC F t (va_up G1 (ad 6) (some (arJ t 30 (va_up (fun i => lN (sKR σ i)) (sLV σ k).2.1 (lN (sKR σ (sLV σ k).2.1 + (sDV σ ((sLV σ k).2.2.2.2.2 - 1)).2.2.2.1)))))) ad aR aL aD fR fL fI fN fB (stK (zeD σ ((sLV σ k).2.2.2.2.2 - 1)) (sLV σ k).2.1 (sKR σ (sLV σ k).2.1 + (sDV σ ((sLV σ k).2.2.2.2.2 - 1)).2.2.2.1)) := RC.credit hR1 (sLV σ k).2.1 (sKR σ (sLV σ k).2.1 + (sDV σ ((sLV σ k).2.2.2.2.2 - 1)).2.2.2.1)
            have hK2 : Keep F g (va_up G1 (ad 6) (some (arJ t 30 (va_up (fun i => lN (sKR σ i)) (sLV σ k).2.1 (lN (sKR σ (sLV σ k).2.1 + (sDV σ ((sLV σ k).2.2.2.2.2 - 1)).2.2.2.1)))))) := Keep.up hK1 (Or.inl (f0 6 (by decide)))
            have hG2 : ∀ a, (va_up G1 (ad 6) (some (arJ t 30 (va_up (fun i => lN (sKR σ i)) (sLV σ k).2.1 (lN (sKR σ (sLV σ k).2.1 + (sDV σ ((sLV σ k).2.2.2.2.2 - 1)).2.2.2.1)))))) a = none → g a = none := fun a h => hG1 a (none_up h)
            generalize va_up G1 (ad 6) (some (arJ t 30 (va_up (fun i => lN (sKR σ i)) (sLV σ k).2.1 (lN (sKR σ (sLV σ k).2.1 + (sDV σ ((sLV σ k).2.2.2.2.2 - 1)).2.2.2.1))))) = G2 at hR2 hK2 hG2 hP
            obtain ⟨d0, ⟨d1, d1f⟩, ⟨d2, d2f⟩, ⟨d3, d3f⟩, d4, d5, d6, ⟨d7, d7f⟩, ⟨d8, d8f⟩, d9, dRr, dLl, dDd, d78, -, df0, -, df2, df3⟩ := id hR2
            refine lv_aload_n hx hb d_F_found_110 rfl (lv_at hl 4 rfl) ?_
            refine lv_aload hx hb d_F_found_111 (lv_at hl 3 rfl) ?_
            refine k_F_113 X ⟨Nat.le_of_ble_eq_true rfl, Nat.le_of_ble_eq_true rfl⟩ ⟨Nat.le_of_ble_eq_true rfl, Nat.le_of_ble_eq_true rfl⟩ hl.1 hP hS d0 d0 (dLl k hk) d3 (hV.2.2.1 k hk).1 (by exact Nat.le_of_ble_eq_true rfl) d_F_found_113 (fun H locs hP hS => ?_)
            have hP : hw D vwCl A (va_up (va_up G2 (aL k) (some (cLc (lcOf aR aD ((sLV σ k).1, (sLV σ k).2.1, (sLV σ k).2.2.1, (sLV σ k).2.2.2.1, 2, (sLV σ k).2.2.2.2.2))))) (ad 3) (some (arQ t 4 60 (va_up fI (sLV σ k).1 none)))) H := hP
            have hR3 : RC F t (va_up (va_up G2 (aL k) (some (cLc (lcOf aR aD ((sLV σ k).1, (sLV σ k).2.1, (sLV σ k).2.2.1, (sLV σ k).2.2.2.1, 2, (sLV σ k).2.2.2.2.2))))) (ad 3) (some (arQ t 4 60 (va_up fI (sLV σ k).1 none)))) ad aR aL aD fR fL (va_up fI (sLV σ k).1 none) fN fB (enL (stK (zeD σ ((sLV σ k).2.2.2.2.2 - 1)) (sLV σ k).2.1 (sKR σ (sLV σ k).2.1 + (sDV σ ((sLV σ k).2.2.2.2.2 - 1)).2.2.2.1)) k) := RC.item (RC.loan hR2 k ((sLV σ k).1, (sLV σ k).2.1, (sLV σ k).2.2.1, (sLV σ k).2.2.2.1, 2, (sLV σ k).2.2.2.2.2) hk ⟨rfl, rfl⟩) _
            have hK3 : Keep F g (va_up (va_up G2 (aL k) (some (cLc (lcOf aR aD ((sLV σ k).1, (sLV σ k).2.1, (sLV σ k).2.2.1, (sLV σ k).2.2.2.1, 2, (sLV σ k).2.2.2.2.2))))) (ad 3) (some (arQ t 4 60 (va_up fI (sLV σ k).1 none)))) := Keep.up (Keep.up hK2 (Or.inl (f2 k hk))) (Or.inl (f0 3 (by decide)))
            have hG3 : ∀ a, (va_up (va_up G2 (aL k) (some (cLc (lcOf aR aD ((sLV σ k).1, (sLV σ k).2.1, (sLV σ k).2.2.1, (sLV σ k).2.2.2.1, 2, (sLV σ k).2.2.2.2.2))))) (ad 3) (some (arQ t 4 60 (va_up fI (sLV σ k).1 none)))) a = none → g a = none := fun a h => hG2 a (none_up (none_up h))
            generalize va_up (va_up G2 (aL k) (some (cLc (lcOf aR aD ((sLV σ k).1, (sLV σ k).2.1, (sLV σ k).2.2.1, (sLV σ k).2.2.2.1, 2, (sLV σ k).2.2.2.2.2))))) (ad 3) (some (arQ t 4 60 (va_up fI (sLV σ k).1 none))) = G3 at hR3 hK3 hG3 hP
            have hV3 : Inv (enL (stK (zeD σ ((sLV σ k).2.2.2.2.2 - 1)) (sLV σ k).2.1 (sKR σ (sLV σ k).2.1 + (sDV σ ((sLV σ k).2.2.2.2.2 - 1)).2.2.2.1)) k) := Inv_enL (Inv_stK (Inv_zeD hV hdd)) hk (show (sLV σ k).2.2.2.2.1 ≠ 2 by rw [hst]; decide)
            obtain ⟨w0, ⟨w1, w1f⟩, ⟨w2, w2f⟩, ⟨w3, w3f⟩, w4, w5, w6, ⟨w7, w7f⟩, ⟨w8, w8f⟩, w9, wRr, wLl, wDd, w78, -, wf0, -, wf2, wf3⟩ := id hR3
            refine lv_aload_n hx hb d_F_found_116 rfl (lv_at hl 4 rfl) ?_
            refine lv_aload hx hb d_F_found_117 (lv_at hl 3 rfl) ?_
            refine lv_lload hx hb d_F_found_119 (lv_at hl 1 rfl) ?_
            refine lv_lload_n hx hb d_F_found_121 rfl (lv_at hl 6 rfl) ?_
            refine k_F_117 X ⟨Nat.le_of_ble_eq_true rfl, Nat.le_of_ble_eq_true rfl⟩ ⟨Nat.le_of_ble_eq_true rfl, Nat.le_of_ble_eq_true rfl⟩ hl.1 hP hS w0 w0 (wLl k hk) w4 w7 w8 w78 hn3 w8f (fun i hi => wDd _ (hV.2.2.2.2.2.1 i hi)) (fun h => absurd h (Int64.not_lt.mpr c_8)) (by exact Nat.le_of_ble_eq_true rfl) d_F_found_122 (fun r_17 u H locs hr_17 hP hS => ?_)
            refine lv_pop hx hb d_F_found_125 rfl ?_
            refine lv_lload hx hb d_F_found_126 (lv_at hl 0 rfl) ?_
            have e9 : spFound σ (nI i) d = (lN (sDV σ ((sLV σ k).2.2.2.2.2 - 1)).2.2.2.1, (chD (enL (stK (zeD σ ((sLV σ k).2.2.2.2.2 - 1)) (sLV σ k).2.1 (sKR σ (sLV σ k).2.1 + (sDV σ ((sLV σ k).2.2.2.2.2 - 1)).2.2.2.1)) k) k (lateJ σ k d) d).2) := by simp only [spFound, hln]; rw [if_pos (by rw [er_7] at c_8; have hnl : ¬ 0 < lateJ σ k d := Int64.not_lt.mpr c_8; simp [t_5, hnl])]
            have ea : lateJ σ k d = r_7 := er_7.symm
            have hfin : x_9 = (spFound σ (nI i) d).1 ∧ RCx (gr F g) t ad (spFound σ (nI i) d).2 u ∧ Keep F g u := by
              rw [e9, ea, chD]
              refine ⟨ex_9, ?_⟩
              rcases hr_17 with ⟨g1, g2, g3⟩ | ⟨g1, g2, o, g3, g4⟩
              · rw [if_neg (Int64.not_lt.mpr g1), g3]; exact ⟨⟨_, _, _, _, _, _, _, _, hR3.mono (fun _ h => Or.inl h)⟩, hK3⟩
              · exact absurd g1 (Int64.not_lt.mpr c_8)
            exact h_lret hx hb hr hlocks (Nat.le_of_ble_eq_true rfl) (Nat.le_of_ble_eq_true rfl) hP hS (hfin) d_F_found_128
          · rw [lg_cmp_le] at c_8
            refine lv_aload_n hx hb d_F_found_72 rfl (lv_at hl 3 rfl) ?_
            refine g_F_27 X hb hP h0 rfl d_F_found_73 ?_
            refine k_F_109 X ⟨Nat.le_of_ble_eq_true rfl, Nat.le_of_ble_eq_true rfl⟩ ⟨Nat.le_of_ble_eq_true rfl, Nat.le_of_ble_eq_true rfl⟩ hl.1 hP hS h4 h4 hn3 (by exact Nat.le_of_ble_eq_true rfl) d_F_found_76 (fun r_18 H locs er_18 hP hS => ?_)
            refine lv_if_eq (tgt := 86) hx hb d_F_found_79 (by decide) (fun c_19 => ?_) (fun c_19 => ?_)
            · have t_18 := bi_0.mp (er_18 ▸ c_19)
              refine lv_aload hx hb d_F_found_86 (lv_at hl 1 rfl) ?_
              refine g_F_132 X hb hP (hDd _ hdd) rfl d_F_found_88 ?_
              refine lv_topl (fun x_20 ex_20 => ?_)
              refine lv_lstore (lv' := [(8, .long x_20), (6, .long r_7), (5, .ref (aD ((sLV σ k).2.2.2.2.2 - 1))), (4, .ref (aL k)), (0, .ref (ad 0)), (1, .int (nI i)), (2, .long d)]) hx hb d_F_found_91 hl (by decide) rfl (fun ls hl => ?_)
              refine lv_aload hx hb d_F_found_93 (lv_at hl 2 rfl) ?_
              refine lv_lconst (v := 0) hx hb d_F_found_95 (by decide) ?_
              refine p_F_138 X hb hP hS (hDd _ hdd) (Nat.le_of_ble_eq_true rfl) d_F_found_96 (fun H locs hP hS => ?_)
              have he_21 := up_at (o := some (.inr (2, [.int (dcOf aR (sLV σ) (sDV σ ((sLV σ k).2.2.2.2.2 - 1))).1, .ref (dcOf aR (sLV σ) (sDV σ ((sLV σ k).2.2.2.2.2 - 1))).2.1, .int (dcOf aR (sLV σ) (sDV σ ((sLV σ k).2.2.2.2.2 - 1))).2.2.1, .long (dcOf aR (sLV σ) (sDV σ ((sLV σ k).2.2.2.2.2 - 1))).2.2.2.1, .long (dcOf aR (sLV σ) (sDV σ ((sLV σ k).2.2.2.2.2 - 1))).2.2.2.2.1, .long 0, .long (dcOf aR (sLV σ) (sDV σ ((sLV σ k).2.2.2.2.2 - 1))).2.2.2.2.2.2]))) h0 (hw_kd h0 (hDd _ hdd) rfl)
              have he_22 := up_at (o := some (.inr (2, [.int (dcOf aR (sLV σ) (sDV σ ((sLV σ k).2.2.2.2.2 - 1))).1, .ref (dcOf aR (sLV σ) (sDV σ ((sLV σ k).2.2.2.2.2 - 1))).2.1, .int (dcOf aR (sLV σ) (sDV σ ((sLV σ k).2.2.2.2.2 - 1))).2.2.1, .long (dcOf aR (sLV σ) (sDV σ ((sLV σ k).2.2.2.2.2 - 1))).2.2.2.1, .long (dcOf aR (sLV σ) (sDV σ ((sLV σ k).2.2.2.2.2 - 1))).2.2.2.2.1, .long 0, .long (dcOf aR (sLV σ) (sDV σ ((sLV σ k).2.2.2.2.2 - 1))).2.2.2.2.2.2]))) h3 (hw_kd h3 (hDd _ hdd) rfl)
              have he_23 := up_at (o := some (.inr (2, [.int (dcOf aR (sLV σ) (sDV σ ((sLV σ k).2.2.2.2.2 - 1))).1, .ref (dcOf aR (sLV σ) (sDV σ ((sLV σ k).2.2.2.2.2 - 1))).2.1, .int (dcOf aR (sLV σ) (sDV σ ((sLV σ k).2.2.2.2.2 - 1))).2.2.1, .long (dcOf aR (sLV σ) (sDV σ ((sLV σ k).2.2.2.2.2 - 1))).2.2.2.1, .long (dcOf aR (sLV σ) (sDV σ ((sLV σ k).2.2.2.2.2 - 1))).2.2.2.2.1, .long 0, .long (dcOf aR (sLV σ) (sDV σ ((sLV σ k).2.2.2.2.2 - 1))).2.2.2.2.2.2]))) h4 (hw_kd h4 (hDd _ hdd) rfl)
              have he_24 := up_at (o := some (.inr (2, [.int (dcOf aR (sLV σ) (sDV σ ((sLV σ k).2.2.2.2.2 - 1))).1, .ref (dcOf aR (sLV σ) (sDV σ ((sLV σ k).2.2.2.2.2 - 1))).2.1, .int (dcOf aR (sLV σ) (sDV σ ((sLV σ k).2.2.2.2.2 - 1))).2.2.1, .long (dcOf aR (sLV σ) (sDV σ ((sLV σ k).2.2.2.2.2 - 1))).2.2.2.1, .long (dcOf aR (sLV σ) (sDV σ ((sLV σ k).2.2.2.2.2 - 1))).2.2.2.2.1, .long 0, .long (dcOf aR (sLV σ) (sDV σ ((sLV σ k).2.2.2.2.2 - 1))).2.2.2.2.2.2]))) (hLl k hk) (hw_kd (hLl k hk) (hDd _ hdd) rfl)
              have he_25 := va_up_self g (aD ((sLV σ k).2.2.2.2.2 - 1)) (some (.inr (2, [.int (dcOf aR (sLV σ) (sDV σ ((sLV σ k).2.2.2.2.2 - 1))).1, .ref (dcOf aR (sLV σ) (sDV σ ((sLV σ k).2.2.2.2.2 - 1))).2.1, .int (dcOf aR (sLV σ) (sDV σ ((sLV σ k).2.2.2.2.2 - 1))).2.2.1, .long (dcOf aR (sLV σ) (sDV σ ((sLV σ k).2.2.2.2.2 - 1))).2.2.2.1, .long (dcOf aR (sLV σ) (sDV σ ((sLV σ k).2.2.2.2.2 - 1))).2.2.2.2.1, .long 0, .long (dcOf aR (sLV σ) (sDV σ ((sLV σ k).2.2.2.2.2 - 1))).2.2.2.2.2.2]) : va_E))
              have hP : hw D vwCl A (va_up g (aD ((sLV σ k).2.2.2.2.2 - 1)) (some (.inr (2, [.int (dcOf aR (sLV σ) (sDV σ ((sLV σ k).2.2.2.2.2 - 1))).1, .ref (dcOf aR (sLV σ) (sDV σ ((sLV σ k).2.2.2.2.2 - 1))).2.1, .int (dcOf aR (sLV σ) (sDV σ ((sLV σ k).2.2.2.2.2 - 1))).2.2.1, .long (dcOf aR (sLV σ) (sDV σ ((sLV σ k).2.2.2.2.2 - 1))).2.2.2.1, .long (dcOf aR (sLV σ) (sDV σ ((sLV σ k).2.2.2.2.2 - 1))).2.2.2.2.1, .long 0, .long (dcOf aR (sLV σ) (sDV σ ((sLV σ k).2.2.2.2.2 - 1))).2.2.2.2.2.2])))) H := hP
              have hR1 : RC F t (va_up g (aD ((sLV σ k).2.2.2.2.2 - 1)) (some (cDv (dcOf aR (sLV σ) ((sDV σ ((sLV σ k).2.2.2.2.2 - 1)).1, (sDV σ ((sLV σ k).2.2.2.2.2 - 1)).2.1, 0, (sDV σ ((sLV σ k).2.2.2.2.2 - 1)).2.2.2.1, (sDV σ ((sLV σ k).2.2.2.2.2 - 1)).2.2.2.2.1, (sDV σ ((sLV σ k).2.2.2.2.2 - 1)).2.2.2.2.2))))) ad aR aL aD fR fL fI fN fB (zeD σ ((sLV σ k).2.2.2.2.2 - 1)) := RC.debt hRc ((sLV σ k).2.2.2.2.2 - 1) ((sDV σ ((sLV σ k).2.2.2.2.2 - 1)).1, (sDV σ ((sLV σ k).2.2.2.2.2 - 1)).2.1, 0, (sDV σ ((sLV σ k).2.2.2.2.2 - 1)).2.2.2.1, (sDV σ ((sLV σ k).2.2.2.2.2 - 1)).2.2.2.2.1, (sDV σ ((sLV σ k).2.2.2.2.2 - 1)).2.2.2.2.2) hdd
              have hK1 : Keep F g (va_up g (aD ((sLV σ k).2.2.2.2.2 - 1)) (some (cDv (dcOf aR (sLV σ) ((sDV σ ((sLV σ k).2.2.2.2.2 - 1)).1, (sDV σ ((sLV σ k).2.2.2.2.2 - 1)).2.1, 0, (sDV σ ((sLV σ k).2.2.2.2.2 - 1)).2.2.2.1, (sDV σ ((sLV σ k).2.2.2.2.2 - 1)).2.2.2.2.1, (sDV σ ((sLV σ k).2.2.2.2.2 - 1)).2.2.2.2.2))))) := Keep.up Keep.rf (Or.inl (f3 _ hdd))
              have hG1 : ∀ a, va_up g (aD ((sLV σ k).2.2.2.2.2 - 1)) (some (cDv (dcOf aR (sLV σ) ((sDV σ ((sLV σ k).2.2.2.2.2 - 1)).1, (sDV σ ((sLV σ k).2.2.2.2.2 - 1)).2.1, 0, (sDV σ ((sLV σ k).2.2.2.2.2 - 1)).2.2.2.1, (sDV σ ((sLV σ k).2.2.2.2.2 - 1)).2.2.2.2.1, (sDV σ ((sLV σ k).2.2.2.2.2 - 1)).2.2.2.2.2)))) a = none → g a = none := fun a h => none_up h
              have hP : hw D vwCl A (va_up g (aD ((sLV σ k).2.2.2.2.2 - 1)) (some (cDv (dcOf aR (sLV σ) ((sDV σ ((sLV σ k).2.2.2.2.2 - 1)).1, (sDV σ ((sLV σ k).2.2.2.2.2 - 1)).2.1, 0, (sDV σ ((sLV σ k).2.2.2.2.2 - 1)).2.2.2.1, (sDV σ ((sLV σ k).2.2.2.2.2 - 1)).2.2.2.2.1, (sDV σ ((sLV σ k).2.2.2.2.2 - 1)).2.2.2.2.2))))) H := hP
              generalize va_up g (aD ((sLV σ k).2.2.2.2.2 - 1)) (some (cDv (dcOf aR (sLV σ) ((sDV σ ((sLV σ k).2.2.2.2.2 - 1)).1, (sDV σ ((sLV σ k).2.2.2.2.2 - 1)).2.1, 0, (sDV σ ((sLV σ k).2.2.2.2.2 - 1)).2.2.2.1, (sDV σ ((sLV σ k).2.2.2.2.2 - 1)).2.2.2.2.1, (sDV σ ((sLV σ k).2.2.2.2.2 - 1)).2.2.2.2.2)))) = G1 at hR1 hK1 hG1 hP
              obtain ⟨b0, ⟨b1, b1f⟩, ⟨b2, b2f⟩, ⟨b3, b3f⟩, b4, b5, b6, ⟨b7, b7f⟩, ⟨b8, b8f⟩, b9, bRr, bLl, bDd, b78, -, bf0, -, bf2, bf3⟩ := id hR1
              refine lv_aload_n hx hb d_F_found_99 rfl (lv_at hl 4 rfl) ?_
              refine lv_aload hx hb d_F_found_100 (lv_at hl 3 rfl) ?_
              refine g_F_141 X hb hP (bLl k hk) rfl d_F_found_102 ?_
              refine lv_lload hx hb d_F_found_105 (lv_at hl 0 rfl) ?_
              refine k_F_144 X ⟨Nat.le_of_ble_eq_true rfl, Nat.le_of_ble_eq_true rfl⟩ ⟨Nat.le_of_ble_eq_true rfl, Nat.le_of_ble_eq_true rfl⟩ hl.1 hP hS b0 b0 b6 (hV.2.2.1 k hk).2.1 (by exact Nat.le_of_ble_eq_true rfl) d_F_found_107 (fun H locs hP hS => ?_)
              have hP : hw D vwCl A (va_up G1 (ad 6) (some (arJ t 30 (va_up (fun i => lN (sKR σ i)) (sLV σ k).2.1 (lN (sKR σ (sLV σ k).2.1 + (sDV σ ((sLV σ k).2.2.2.2.2 - 1)).2.2.2.1)))))) H := by rw [← lN_add]; have q := hP; rw [ex_20] at q; exact q
              have hR2 : RC F t (va_up G1 (ad 6) (some (arJ t 30 (va_up (fun i => lN (sKR σ i)) (sLV σ k).2.1 (lN (sKR σ (sLV σ k).2.1 + (sDV σ ((sLV σ k).2.2.2.2.2 - 1)).2.2.2.1)))))) ad aR aL aD fR fL fI fN fB (stK (zeD σ ((sLV σ k).2.2.2.2.2 - 1)) (sLV σ k).2.1 (sKR σ (sLV σ k).2.1 + (sDV σ ((sLV σ k).2.2.2.2.2 - 1)).2.2.2.1)) := RC.credit hR1 (sLV σ k).2.1 (sKR σ (sLV σ k).2.1 + (sDV σ ((sLV σ k).2.2.2.2.2 - 1)).2.2.2.1)
              have hK2 : Keep F g (va_up G1 (ad 6) (some (arJ t 30 (va_up (fun i => lN (sKR σ i)) (sLV σ k).2.1 (lN (sKR σ (sLV σ k).2.1 + (sDV σ ((sLV σ k).2.2.2.2.2 - 1)).2.2.2.1)))))) := Keep.up hK1 (Or.inl (f0 6 (by decide)))
              have hG2 : ∀ a, (va_up G1 (ad 6) (some (arJ t 30 (va_up (fun i => lN (sKR σ i)) (sLV σ k).2.1 (lN (sKR σ (sLV σ k).2.1 + (sDV σ ((sLV σ k).2.2.2.2.2 - 1)).2.2.2.1)))))) a = none → g a = none := fun a h => hG1 a (none_up h)
              generalize va_up G1 (ad 6) (some (arJ t 30 (va_up (fun i => lN (sKR σ i)) (sLV σ k).2.1 (lN (sKR σ (sLV σ k).2.1 + (sDV σ ((sLV σ k).2.2.2.2.2 - 1)).2.2.2.1))))) = G2 at hR2 hK2 hG2 hP
              obtain ⟨d0, ⟨d1, d1f⟩, ⟨d2, d2f⟩, ⟨d3, d3f⟩, d4, d5, d6, ⟨d7, d7f⟩, ⟨d8, d8f⟩, d9, dRr, dLl, dDd, d78, -, df0, -, df2, df3⟩ := id hR2
              refine lv_aload_n hx hb d_F_found_110 rfl (lv_at hl 4 rfl) ?_
              refine lv_aload hx hb d_F_found_111 (lv_at hl 3 rfl) ?_
              refine k_F_113 X ⟨Nat.le_of_ble_eq_true rfl, Nat.le_of_ble_eq_true rfl⟩ ⟨Nat.le_of_ble_eq_true rfl, Nat.le_of_ble_eq_true rfl⟩ hl.1 hP hS d0 d0 (dLl k hk) d3 (hV.2.2.1 k hk).1 (by exact Nat.le_of_ble_eq_true rfl) d_F_found_113 (fun H locs hP hS => ?_)
              have hP : hw D vwCl A (va_up (va_up G2 (aL k) (some (cLc (lcOf aR aD ((sLV σ k).1, (sLV σ k).2.1, (sLV σ k).2.2.1, (sLV σ k).2.2.2.1, 2, (sLV σ k).2.2.2.2.2))))) (ad 3) (some (arQ t 4 60 (va_up fI (sLV σ k).1 none)))) H := hP
              have hR3 : RC F t (va_up (va_up G2 (aL k) (some (cLc (lcOf aR aD ((sLV σ k).1, (sLV σ k).2.1, (sLV σ k).2.2.1, (sLV σ k).2.2.2.1, 2, (sLV σ k).2.2.2.2.2))))) (ad 3) (some (arQ t 4 60 (va_up fI (sLV σ k).1 none)))) ad aR aL aD fR fL (va_up fI (sLV σ k).1 none) fN fB (enL (stK (zeD σ ((sLV σ k).2.2.2.2.2 - 1)) (sLV σ k).2.1 (sKR σ (sLV σ k).2.1 + (sDV σ ((sLV σ k).2.2.2.2.2 - 1)).2.2.2.1)) k) := RC.item (RC.loan hR2 k ((sLV σ k).1, (sLV σ k).2.1, (sLV σ k).2.2.1, (sLV σ k).2.2.2.1, 2, (sLV σ k).2.2.2.2.2) hk ⟨rfl, rfl⟩) _
              have hK3 : Keep F g (va_up (va_up G2 (aL k) (some (cLc (lcOf aR aD ((sLV σ k).1, (sLV σ k).2.1, (sLV σ k).2.2.1, (sLV σ k).2.2.2.1, 2, (sLV σ k).2.2.2.2.2))))) (ad 3) (some (arQ t 4 60 (va_up fI (sLV σ k).1 none)))) := Keep.up (Keep.up hK2 (Or.inl (f2 k hk))) (Or.inl (f0 3 (by decide)))
              have hG3 : ∀ a, (va_up (va_up G2 (aL k) (some (cLc (lcOf aR aD ((sLV σ k).1, (sLV σ k).2.1, (sLV σ k).2.2.1, (sLV σ k).2.2.2.1, 2, (sLV σ k).2.2.2.2.2))))) (ad 3) (some (arQ t 4 60 (va_up fI (sLV σ k).1 none)))) a = none → g a = none := fun a h => hG2 a (none_up (none_up h))
              generalize va_up (va_up G2 (aL k) (some (cLc (lcOf aR aD ((sLV σ k).1, (sLV σ k).2.1, (sLV σ k).2.2.1, (sLV σ k).2.2.2.1, 2, (sLV σ k).2.2.2.2.2))))) (ad 3) (some (arQ t 4 60 (va_up fI (sLV σ k).1 none))) = G3 at hR3 hK3 hG3 hP
              have hV3 : Inv (enL (stK (zeD σ ((sLV σ k).2.2.2.2.2 - 1)) (sLV σ k).2.1 (sKR σ (sLV σ k).2.1 + (sDV σ ((sLV σ k).2.2.2.2.2 - 1)).2.2.2.1)) k) := Inv_enL (Inv_stK (Inv_zeD hV hdd)) hk (show (sLV σ k).2.2.2.2.1 ≠ 2 by rw [hst]; decide)
              obtain ⟨w0, ⟨w1, w1f⟩, ⟨w2, w2f⟩, ⟨w3, w3f⟩, w4, w5, w6, ⟨w7, w7f⟩, ⟨w8, w8f⟩, w9, wRr, wLl, wDd, w78, -, wf0, -, wf2, wf3⟩ := id hR3
              refine lv_aload_n hx hb d_F_found_116 rfl (lv_at hl 4 rfl) ?_
              refine lv_aload hx hb d_F_found_117 (lv_at hl 3 rfl) ?_
              refine lv_lload hx hb d_F_found_119 (lv_at hl 1 rfl) ?_
              refine lv_lload_n hx hb d_F_found_121 rfl (lv_at hl 6 rfl) ?_
              refine k_F_117 X ⟨Nat.le_of_ble_eq_true rfl, Nat.le_of_ble_eq_true rfl⟩ ⟨Nat.le_of_ble_eq_true rfl, Nat.le_of_ble_eq_true rfl⟩ hl.1 hP hS w0 w0 (wLl k hk) w4 w7 w8 w78 hn3 w8f (fun i hi => wDd _ (hV.2.2.2.2.2.1 i hi)) (fun _ => by have := of_decide_eq_false t_18; show sND σ < 200; omega) (by exact Nat.le_of_ble_eq_true rfl) d_F_found_122 (fun r_28 u H locs hr_28 hP hS => ?_)
              refine lv_pop hx hb d_F_found_125 rfl ?_
              refine lv_lload hx hb d_F_found_126 (lv_at hl 0 rfl) ?_
              have e9 : spFound σ (nI i) d = (lN (sDV σ ((sLV σ k).2.2.2.2.2 - 1)).2.2.2.1, (chD (enL (stK (zeD σ ((sLV σ k).2.2.2.2.2 - 1)) (sLV σ k).2.1 (sKR σ (sLV σ k).2.1 + (sDV σ ((sLV σ k).2.2.2.2.2 - 1)).2.2.2.1)) k) k (lateJ σ k d) d).2) := by simp only [spFound, hln]; rw [if_pos (by simp [t_5, t_18])]
              have ea : lateJ σ k d = r_7 := er_7.symm
              have hfin : x_20 = (spFound σ (nI i) d).1 ∧ RCx (gr F g) t ad (spFound σ (nI i) d).2 u ∧ Keep F g u := by
                rw [e9, ea, chD]
                refine ⟨ex_20, ?_⟩
                rcases hr_28 with ⟨g1, g2, g3⟩ | ⟨g1, g2, o, g3, g4⟩
                · rw [if_neg (Int64.not_lt.mpr g1), g3]; exact ⟨⟨_, _, _, _, _, _, _, _, hR3.mono (fun _ h => Or.inl h)⟩, hK3⟩
                · rw [if_pos g1, g4]; exact step2 hG3 hK3 (RC_add hR3 hV3 g3 g1 (by have := of_decide_eq_false t_18; show sND σ < 200; omega))
              exact h_lret hx hb hr hlocks (Nat.le_of_ble_eq_true rfl) (Nat.le_of_ble_eq_true rfl) hP hS (hfin) d_F_found_128
            · have t_18 := bi_n0.mp (er_18 ▸ c_19)
              refine lv_ldc2 (v := (-1)) hx hb hown (hts _ (tbm 212 (by decide +kernel))) d_F_found_82 ?_
              have hlt : 0 < lateJ σ k d := by rw [er_7] at c_8; exact Int64.not_le.mp c_8
              have e9 : spFound σ (nI i) d = (-1, σ) := by simp [spFound, hln, hlt, t_5, t_18]
              exact h_lret hx hb hr hlocks (Nat.le_of_ble_eq_true rfl) (Nat.le_of_ble_eq_true rfl) hP hS (⟨by rw [e9], by rw [e9]; exact hRx.mono (fun _ h => Or.inl h), Keep.rf⟩) d_F_found_85
        · have t_5 := bi_0.mp (er_5 ▸ c_6)
          refine lv_ldc2 (v := (-1)) hx hb hown (hts _ (tbm 212 (by decide +kernel))) d_F_found_52 ?_
          have e9 : spFound σ (nI i) d = (-1, σ) := by simp [spFound, hln, t_5]
          exact h_lret hx hb hr hlocks (Nat.le_of_ble_eq_true rfl) (Nat.le_of_ble_eq_true rfl) hP hS (⟨by rw [e9], by rw [e9]; exact hRx.mono (fun _ h => Or.inl h), Keep.rf⟩) d_F_found_55
theorem k_W_60 {p : Program} {l : Launch} {e : Env} {R : Room} {s : State} {m : MethodId} {args : Array Value} {below : List Frame} {meth : Method} {c : Code} {H : Heap} {locs : List Loc} {cells slots : Nat} {Q : State → Prop} {cc : ByteArray} {pc : Nat} {ls : Array Slot} {rest : List Value} {D : va_G} {A : Nat → Prop} {t : Nat → ClassId} {g : hG} {nL : Nat} {ret0 : Option FieldType} {nm : String} (X : Cx p s m args meth c R_W cc nL ret0 TB D vwCl (tyL t) EX A nm) (hR : 4 + 1 ≤ R.frames ∧ 8 + (10 + 11) + 103 ≤ R.locals) (hf : cells + 1 ≤ R.cells ∧ slots + 7 ≤ R.slots) (hls : ls.size = nL) (hP : hw D vwCl A g H) (hS : va_S A s.heap H locs) {F : Nat → Prop} {ad : Nat → Nat} {σ : SS} {x : Int32} {d : Int64} {fs9 : List Value} (he9 : g (ad 0) = some (.inr (0, fs9))) (hRx : RCx F t ad σ g) (hV : Inv σ) (hW : (rest.map fun v => v.category).sum ≤ 8) (hdg : decode cc pc = .ok (.invokevirtual 60, 3)) (kk : ∀ (r : Int64) (u : hG) (H1 : Heap) (locs1 : List Loc), ((fun r u => r = (spFound σ x d).1 ∧ RCx (gr F g) t ad (spFound σ x d).2 u ∧ Keep F g u) r u) → hw D vwCl A u H1 → va_S A s.heap H1 locs1 → W p l e R s m args below meth c H1 locs1 (cells + 1) (slots + 7) Q (F0 m (pc + 3) ls (.long r :: rest))) : W p l e R s m args below meth c H locs cells slots Q (F0 m pc ls (.long d :: .int x :: .ref (ad 0) :: rest)) :=
  h_cl (runV (C := R_F) (T := F_F) (N := 9) X (c_F_found l D t A g F ad σ x d hRx hV) (tbm 297 (by decide +kernel)) (tbm 298 (by decide +kernel)) (tbm 299 (by decide +kernel)) (tbm 20 (by decide +kernel)) (tbm 300 (by decide +kernel)) rfl (n := 2) (by decide +kernel) hR hf hP he9 hS hls rfl rfl hW hdg) hS kk
end
section
/-! A payment, along the order of the debts. -/
def pyS (σ : SS) (dv : Nat → DV) : SS := (σ.1, σ.2.1, (sND σ, dv, sOD σ), σ.2.2.2)
def pyT (v : DV) (pu : Nat) : DV := (v.1, v.2.1, v.2.2.1 - min pu v.2.2.1, v.2.2.2.1 + min pu v.2.2.1, v.2.2.2.2.1, v.2.2.2.2.2)
def pyC (σ : SS) (q : Nat) (s : Nat × Nat × (Nat → DV)) (d : Nat) : Prop := (sLV σ (s.2.2 d).1).2.1 = q ∧ 0 < s.1 ∧ 0 < (s.2.2 d).2.2.1
def pyU (s : Nat × Nat × (Nat → DV)) (d : Nat) : Nat × Nat × (Nat → DV) := (s.1 - min s.1 (s.2.2 d).2.2.1, s.2.1 + 1, va_up s.2.2 d (pyT (s.2.2 d) s.1))
noncomputable def payF (σ : SS) (q c : Nat) : Nat → Nat × Nat × (Nat → DV)
  | 0 => (sKR σ q + c, 0, sDV σ)
  | i + 1 => @ite _ (pyC σ q (payF σ q c i) (sOD σ i)) (Classical.propDecidable _) (pyU (payF σ q c i) (sOD σ i)) (payF σ q c i)
theorem payF_y {σ : SS} {q c i : Nat} {s : Nat × Nat × (Nat → DV)} (h : payF σ q c i = s) (hc : pyC σ q s (sOD σ i)) : payF σ q c (i + 1) = pyU s (sOD σ i) := by
  subst h; rw [payF, if_pos hc]
theorem payF_n {σ : SS} {q c i : Nat} {s : Nat × Nat × (Nat → DV)} (h : payF σ q c i = s) (hc : ¬ pyC σ q s (sOD σ i)) : payF σ q c (i + 1) = s := by
  subst h; rw [payF, if_neg hc]
theorem payF_z {σ : SS} {q c i : Nat} {s : Nat × Nat × (Nat → DV)} (h : payF σ q c i = s) (h0 : s.1 = 0) : ∀ j, payF σ q c (i + j) = s
  | 0 => h
  | j + 1 => payF_n (payF_z h h0 j) (fun hc => by have := hc.2.1; omega)
theorem payF_b {σ : SS} {q c : Nat} : ∀ i, (payF σ q c i).1 ≤ sKR σ q + c ∧ (payF σ q c i).2.1 ≤ i
  | 0 => ⟨Nat.le_refl _, Nat.le_refl _⟩
  | i + 1 => by
    have ih := payF_b (σ := σ) (q := q) (c := c) i
    by_cases hc : pyC σ q (payF σ q c i) (sOD σ i)
    · rw [payF_y rfl hc]; exact ⟨Nat.le_trans (Nat.sub_le _ _) ih.1, Nat.succ_le_succ ih.2⟩
    · rw [payF_n rfl hc]; exact ⟨ih.1, Nat.le_succ_of_le ih.2⟩
theorem Inv_pyT {σ : SS} (hV : Inv σ) {d pu : Nat} (hd : d < sND σ) : Inv (stD σ d (pyT (sDV σ d) pu)) := by
  have h := (hV.2.2.2.1 d hd).2.2
  refine Inv_stD hV hd rfl rfl ?_ rfl
  show (sDV σ d).2.2.1 - min pu (sDV σ d).2.2.1 + ((sDV σ d).2.2.2.1 + min pu (sDV σ d).2.2.1) ≤ (sDV σ d).2.1
  have : min pu (sDV σ d).2.2.1 ≤ (sDV σ d).2.2.1 := Nat.min_le_right _ _
  omega
theorem payF_inv {σ : SS} (hV : Inv σ) {q c : Nat} : ∀ i, i ≤ sND σ → Inv (pyS σ (payF σ q c i).2.2)
  | 0, _ => hV
  | i + 1, hi => by
    have ih := payF_inv hV (q := q) (c := c) i (by omega)
    by_cases hc : pyC σ q (payF σ q c i) (sOD σ i)
    · rw [payF_y rfl hc]
      exact Inv_pyT ih (pu := (payF σ q c i).1) (hV.2.2.2.2.2.1 i (by omega))
    · rw [payF_n rfl hc]; exact ih
def spPay (σ : SS) (x y : Int32) : Int32 × SS → Prop := fun r => if (wi x 0 29 && wi y 1 10000000) = true then r = (nI (payF σ x.toInt.toNat y.toInt.toNat (sND σ)).2.1, stK (pyS σ (payF σ x.toInt.toNat y.toInt.toNat (sND σ)).2.2) x.toInt.toNat (payF σ x.toInt.toNat y.toInt.toNat (sND σ)).1) else r = (-1, σ)
theorem mnJ_N {a b : Nat} (ha : a < 2 ^ 62) (hb : b < 2 ^ 62) : mnJ (lN a) (lN b) = lN (min a b) := by
  unfold mnJ
  by_cases h : b < a
  · rw [if_pos ((pk_lLT (by omega) (by omega)).mpr h), Nat.min_eq_right (by omega)]
  · rw [if_neg (fun q => h ((pk_lLT (by omega) (by omega)).mp q)), Nat.min_eq_left (by omega)]
theorem lN_le0 {a : Nat} (ha : a < 2 ^ 62) (h : lN a ≤ 0) : a = 0 := by
  have := (pk_lLE (a := a) (b := 0) (by omega) (by decide)).mp h
  omega
theorem take_cell {aR : Nat → Nat} {L : Nat → LV} {v : DV} {pu : Nat} (hp : pu < 2 ^ 62) (hv : v.2.2.1 < 2 ^ 62) : cDe (dcOf aR L v).1 (dcOf aR L v).2.1 (dcOf aR L v).2.2.1 (dcOf aR L v).2.2.2.1 (dcOf aR L v).2.2.2.2.1 ((dcOf aR L v).2.2.2.2.2.1 - mnJ (lN pu) (dcOf aR L v).2.2.2.2.2.1) ((dcOf aR L v).2.2.2.2.2.2 + mnJ (lN pu) (dcOf aR L v).2.2.2.2.2.1) = cDv (dcOf aR L (pyT v pu)) := by
  have e : mnJ (lN pu) (dcOf aR L v).2.2.2.2.2.1 = lN (min pu v.2.2.1) := mnJ_N hp hv
  rw [e]
  show cDe _ _ _ _ _ (lN v.2.2.1 - lN (min pu v.2.2.1)) (lN v.2.2.2.1 + lN (min pu v.2.2.1)) = cDe _ _ _ _ _ (lN (v.2.2.1 - min pu v.2.2.1)) (lN (v.2.2.2.1 + min pu v.2.2.1))
  rw [lN_sub (Nat.min_le_right _ _), lN_add]; rfl
theorem wi_c {y : Int32} (h : wi y 1 10000000 = true) : ∃ c0 : Nat, c0 ≤ 10000000 ∧ y = nI c0 := by
  obtain ⟨h1, h2⟩ := wi_iff.mp h
  rw [Int32.le_iff_toInt_le] at h1 h2
  have e1 : (1 : Int32).toInt = 1 := by decide
  have e2 : (10000000 : Int32).toInt = 10000000 := by decide
  refine ⟨y.toInt.toNat, by omega, ?_⟩
  rw [← Int32.toInt_inj, nI_toInt (by omega)]
  omega
theorem nI_k9 {k : Nat} (h : k ≤ 10000000) : (nI k).toInt.toNat = k := by rw [nI_toInt (by omega)]; omega
end
section
set_option maxHeartbeats 4000000 in
set_option maxRecDepth 100000 in
theorem lp_F_pay {p : Program} {l : Launch} {e : Env} {s : State} {m : MethodId} {below : List Frame} {meth : Method} {c : Code} {D : va_G} {t : Nat → ClassId} {A : Nat → Prop} (g : hG) (F : Nat → Prop) (ad aR aL aD : Nat → Nat) (fR fL fI fN fB : Nat → Option Nat) (σ : SS) (q cc0 : Nat) (y : Int32) (PO : Int32 → hG → Prop) (hV : Inv σ) (hq : q < 30) (hB : sKR σ q + cc0 < 4611686018427387904) (hPO : ∀ G, RC F t G ad aR aL aD fR fL fI fN fB (stK (pyS σ (payF σ q cc0 (sND σ)).2.2) q (payF σ q cc0 (sND σ)).1) → Keep F g G → PO (nI (payF σ q cc0 (sND σ)).2.1) G) (X : Cx p s m ([.ref (ad 0), .int (nI q), .int y] : List Value).toArray meth c R_F b_F_pay 8 (some .int) TB D vwCl (tyL t) EX A "pay") : ∀ (k : Nat) (i pu sv : Nat) (dv : Nat → DV) (G : hG) (H : Heap) (locs : List Loc) (ls : Array Slot) (_ : i ≤ sND σ) (_ : sND σ + 1 ≤ i + k) (_ : payF σ q cc0 i = (pu, sv, dv)) (_ : RC F t G ad aR aL aD fR fL fI fN fB (pyS σ dv)) (_ : Keep F g G) (_ : hw D vwCl A G H) (_ : va_S A s.heap H locs) (_ : lv_has ls 8 [(6, .int (nI i)), (5, .int (nI sv)), (3, .long (lN pu)), (0, .ref (ad 0)), (1, .int (nI q)), (2, .int y)]), W p l e ({ frames := 2, cells := 0, slots := 0, locals := 48 } : Room) s m ([.ref (ad 0), .int (nI q), .int y] : List Value).toArray below meth c H locs 0 0 (MQ below (va_Qi (PO) (fun u v => hw D vwCl A u v.heap) A) ([.ref (ad 0), .int (nI q), .int y] : List Value).toArray s 0 0 A) (F0 m 35 ls []) := by
  obtain ⟨hx, hb, hml, hr, hts, hown, hlocks, hK, hEs, hA, hnm⟩ := id X
  intro k
  induction k with
  | zero => exact fun i pu sv dv G H locs ls h1 h2 => absurd h2 (by omega)
  | succ k ih =>
    intro i pu sv dv G H locs ls hi hk hpf hRi hKi hP hS hl
    have hV1 : Inv (pyS σ dv) := by have h9 := payF_inv hV (q := q) (c := cc0) i hi; rw [hpf] at h9; exact h9
    have hpu : pu < 4611686018427387904 := by have h9 := (payF_b (σ := σ) (q := q) (c := cc0) i).1; rw [hpf] at h9; exact Nat.lt_of_le_of_lt h9 hB
    have hn3 := hV.1.2.2.1
    obtain ⟨b0, ⟨b1, b1f⟩, ⟨b2, b2f⟩, ⟨b3, b3f⟩, b4, b5, b6, ⟨b7, b7f⟩, ⟨b8, b8f⟩, b9, bRr, bLl, bDd, b78, -, bf0, -, bf2, bf3⟩ := id hRi
    refine lv_iload hx hb d_F_pay_35 (lv_at hl 0 rfl) ?_
    refine lv_aload_n hx hb d_F_pay_37 rfl (lv_at hl 3 rfl) ?_
    refine g_F_27 X hb hP b0 rfl d_F_pay_38 ?_
    refine g_F_148 X hb hP b4 rfl d_F_pay_41 ?_
    refine lv_icmp_ge (tgt := 106) hx hb d_F_pay_44 (by decide) (fun c_1 => ?_) (fun c_1 => ?_)
    · refine lv_aload_n hx hb d_F_pay_106 rfl (lv_at hl 3 rfl) ?_
      refine g_F_38 X hb hP b0 rfl d_F_pay_107 ?_
      refine lv_iload_n hx hb d_F_pay_110 rfl (lv_at hl 4 rfl) ?_
      refine lv_lload_n hx hb d_F_pay_111 rfl (lv_at hl 2 rfl) ?_
      refine n_last X hb hP hS b6 ⟨hq, by decide⟩ d_F_pay_112 (fun H locs hP hS => ?_)
      have he_2 := up_at (o := some (arJ t 30 (va_up (fun i => lN (sKR σ i)) q (lN pu)))) b0 (hw_kd b0 b6 rfl)
      have he_3 := up_at (o := some (arJ t 30 (va_up (fun i => lN (sKR σ i)) q (lN pu)))) b4 (hw_kd b4 b6 rfl)
      have he_4 := va_up_self G (ad 6) (some (arJ t 30 (va_up (fun i => lN (sKR σ i)) q (lN pu)) : va_E))
      have hP : hw D vwCl A (va_up G (ad 6) (some (arJ t 30 (va_up (fun i => lN (sKR σ i)) q (lN pu))))) H := hP
      refine lv_iload hx hb d_F_pay_113 (lv_at hl 1 rfl) ?_
      have hfi : payF σ q cc0 (sND σ) = (pu, sv, dv) := by rw [show sND σ = i from Nat.le_antisymm ((nI_leI (by omega) (by omega)).mp c_1) hi]; exact hpf
      exact h_iret hx hb hr hlocks (Nat.le_of_ble_eq_true rfl) (Nat.le_of_ble_eq_true rfl) hP hS (by rw [hfi] at hPO; exact hPO _ (RC.credit hRi q pu) (Keep.up hKi (Or.inl (bf0 6 (by decide))))) d_F_pay_115
    · have hlt : i < sND σ := Nat.lt_of_not_le (fun z => c_1 (nI_le z (by omega)))
      have hod := hV.2.2.2.2.2.1 i hlt
      have hlf : (dv (sOD σ i)).2.2.1 < 4611686018427387904 := by have h1 := (hV1.2.2.2.1 _ hod).2; have h2 : (dv (sOD σ i)).2.1 ≤ 10000000 := h1.1; have h3 : (dv (sOD σ i)).2.2.1 + (dv (sOD σ i)).2.2.2.1 ≤ (dv (sOD σ i)).2.1 := h1.2; omega
      refine lv_lload_n hx hb d_F_pay_47 rfl (lv_at hl 2 rfl) ?_
      refine lv_lconst (v := 0) hx hb d_F_pay_48 (by decide) ?_
      refine W.lcmp hx hb d_F_pay_49 ?_
      refine lv_if_le (tgt := 106) hx hb d_F_pay_50 (by decide) (fun c_5 => ?_) (fun c_5 => ?_)
      · rw [lg_cmp_le] at c_5
        refine lv_aload_n hx hb d_F_pay_106 rfl (lv_at hl 3 rfl) ?_
        refine g_F_38 X hb hP b0 rfl d_F_pay_107 ?_
        refine lv_iload_n hx hb d_F_pay_110 rfl (lv_at hl 4 rfl) ?_
        refine lv_lload_n hx hb d_F_pay_111 rfl (lv_at hl 2 rfl) ?_
        refine n_last X hb hP hS b6 ⟨hq, by decide⟩ d_F_pay_112 (fun H locs hP hS => ?_)
        have he_6 := up_at (o := some (arJ t 30 (va_up (fun i => lN (sKR σ i)) q (lN pu)))) b0 (hw_kd b0 b6 rfl)
        have he_7 := up_at (o := some (arJ t 30 (va_up (fun i => lN (sKR σ i)) q (lN pu)))) b4 (hw_kd b4 b6 rfl)
        have he_8 := va_up_self G (ad 6) (some (arJ t 30 (va_up (fun i => lN (sKR σ i)) q (lN pu)) : va_E))
        have hP : hw D vwCl A (va_up G (ad 6) (some (arJ t 30 (va_up (fun i => lN (sKR σ i)) q (lN pu))))) H := hP
        refine lv_iload hx hb d_F_pay_113 (lv_at hl 1 rfl) ?_
        have hfi : payF σ q cc0 (sND σ) = (pu, sv, dv) := by have h9 := payF_z hpf (lN_le0 hpu c_5) (sND σ - i); rw [show i + (sND σ - i) = sND σ by omega] at h9; exact h9
        exact h_iret hx hb hr hlocks (Nat.le_of_ble_eq_true rfl) (Nat.le_of_ble_eq_true rfl) hP hS (by rw [hfi] at hPO; exact hPO _ (RC.credit hRi q pu) (Keep.up hKi (Or.inl (bf0 6 (by decide))))) d_F_pay_115
      · rw [lg_cmp_le] at c_5
        refine lv_aload_n hx hb d_F_pay_53 rfl (lv_at hl 3 rfl) ?_
        refine g_F_27 X hb hP b0 rfl d_F_pay_54 ?_
        refine lv_iload hx hb d_F_pay_57 (lv_at hl 0 rfl) ?_
        refine k_F_149 X ⟨Nat.le_of_ble_eq_true rfl, Nat.le_of_ble_eq_true rfl⟩ ⟨Nat.le_of_ble_eq_true rfl, Nat.le_of_ble_eq_true rfl⟩ hl.1 hP hS b4 b4 b8 hn3 (by exact Nat.le_of_ble_eq_true rfl) d_F_pay_59 (fun r_9 H locs er_9 hP hS => ?_)
        refine lv_some (y := (aD (sOD σ i))) (er_9.trans ((ordQ_at (by omega) hlt).trans (b8f i hlt))) ?_
        refine lv_astore (lv' := [(7, .ref (aD (sOD σ i))), (6, .int (nI i)), (5, .int (nI sv)), (3, .long (lN pu)), (0, .ref (ad 0)), (1, .int (nI q)), (2, .int y)]) hx hb d_F_pay_62 hl (by decide) rfl (fun ls hl => ?_)
        refine lv_aload hx hb d_F_pay_64 (lv_at hl 0 rfl) ?_
        refine lv_ifnull hx hb d_F_pay_66 ?_
        refine lv_aload hx hb d_F_pay_69 (lv_at hl 0 rfl) ?_
        refine g_F_152 X hb hP (bDd _ hod) rfl d_F_pay_71 ?_
        refine lv_iload_n hx hb d_F_pay_74 rfl (lv_at hl 5 rfl) ?_
        refine lv_icmp_ne (tgt := 100) hx hb d_F_pay_75 (by decide) (fun c_11 => ?_) (fun c_11 => ?_)
        · obtain ⟨x_12, ex_12⟩ : ∃ z : Int32, z = (nI i) + 1 := ⟨_, rfl⟩
          refine lv_iinc (v := x_12) (lv' := [(6, .int x_12), (7, .ref (aD (sOD σ i))), (5, .int (nI sv)), (3, .long (lN pu)), (0, .ref (ad 0)), (1, .int (nI q)), (2, .int y)]) hx hb d_F_pay_100 hl (k := 1) rfl (by rw [ex_12]; rfl) (by decide) rfl (fun ls hl => ?_)
          refine lv_goto (tgt := 35) hx hb d_F_pay_103 (by decide) ?_
          obtain rfl : x_12 = nI (i + 1) := by rw [ex_12]; exact nI_1 i
          exact ih (i + 1) pu sv dv G H locs ls (by omega) (by omega) (payF_n hpf (fun z => c_11 (by show nI (sLV σ (dv (sOD σ i)).1).2.1 = nI q; rw [show (sLV σ (dv (sOD σ i)).1).2.1 = q from z.1]))) hRi hKi hP hS (lv_sub hl [0, 2, 3, 4, 5, 6] rfl)
        · refine lv_aload hx hb d_F_pay_78 (lv_at hl 0 rfl) ?_
          refine g_F_138 X hb hP (bDd _ hod) rfl d_F_pay_80 ?_
          refine lv_lconst (v := 0) hx hb d_F_pay_83 (by decide) ?_
          refine W.lcmp hx hb d_F_pay_84 ?_
          refine lv_if_le (tgt := 100) hx hb d_F_pay_85 (by decide) (fun c_13 => ?_) (fun c_13 => ?_)
          · rw [lg_cmp_le] at c_13
            obtain ⟨x_14, ex_14⟩ : ∃ z : Int32, z = (nI i) + 1 := ⟨_, rfl⟩
            refine lv_iinc (v := x_14) (lv' := [(6, .int x_14), (7, .ref (aD (sOD σ i))), (5, .int (nI sv)), (3, .long (lN pu)), (0, .ref (ad 0)), (1, .int (nI q)), (2, .int y)]) hx hb d_F_pay_100 hl (k := 1) rfl (by rw [ex_14]; rfl) (by decide) rfl (fun ls hl => ?_)
            refine lv_goto (tgt := 35) hx hb d_F_pay_103 (by decide) ?_
            obtain rfl : x_14 = nI (i + 1) := by rw [ex_14]; exact nI_1 i
            exact ih (i + 1) pu sv dv G H locs ls (by omega) (by omega) (payF_n hpf (fun z => by have h0 := lN_le0 hlf c_13; have h1 : 0 < (dv (sOD σ i)).2.2.1 := z.2.2; omega)) hRi hKi hP hS (lv_sub hl [0, 2, 3, 4, 5, 6] rfl)
          · rw [lg_cmp_le] at c_13
            refine lv_lload_n hx hb d_F_pay_88 rfl (lv_at hl 3 rfl) ?_
            refine lv_aload hx hb d_F_pay_89 (lv_at hl 0 rfl) ?_
            refine lv_lload_n hx hb d_F_pay_91 rfl (lv_at hl 3 rfl) ?_
            refine k_F_153 X ⟨Nat.le_of_ble_eq_true rfl, Nat.le_of_ble_eq_true rfl⟩ ⟨Nat.le_of_ble_eq_true rfl, Nat.le_of_ble_eq_true rfl⟩ hl.1 hP hS (bDd _ hod) (bDd _ hod) (by exact Nat.le_of_ble_eq_true rfl) d_F_pay_92 (fun r_15 H locs er_15 hP hS => ?_)
            have hP : hw D vwCl A (va_up G (aD (sOD σ i)) (some (cDv (dcOf aR (sLV σ) (pyT (dv (sOD σ i)) pu))))) H := by rw [← take_cell hpu hlf]; exact hP
            have hr9 : r_15 = lN (min pu (dv (sOD σ i)).2.2.1) := er_15.trans (mnJ_N hpu hlf)
            refine lv_lsub hx hb d_F_pay_95 ?_
            refine lv_topl (fun x_16 ex_16 => ?_)
            refine lv_lstore_n (lv' := [(3, .long x_16), (7, .ref (aD (sOD σ i))), (6, .int (nI i)), (5, .int (nI sv)), (0, .ref (ad 0)), (1, .int (nI q)), (2, .int y)]) hx hb d_F_pay_96 rfl hl (by decide) rfl (fun ls hl => ?_)
            obtain ⟨x_17, ex_17⟩ : ∃ z : Int32, z = (nI sv) + 1 := ⟨_, rfl⟩
            refine lv_iinc (v := x_17) (lv' := [(5, .int x_17), (3, .long x_16), (7, .ref (aD (sOD σ i))), (6, .int (nI i)), (0, .ref (ad 0)), (1, .int (nI q)), (2, .int y)]) hx hb d_F_pay_97 hl (k := 3) rfl (by rw [ex_17]; rfl) (by decide) rfl (fun ls hl => ?_)
            obtain ⟨x_18, ex_18⟩ : ∃ z : Int32, z = (nI i) + 1 := ⟨_, rfl⟩
            refine lv_iinc (v := x_18) (lv' := [(6, .int x_18), (5, .int x_17), (3, .long x_16), (7, .ref (aD (sOD σ i))), (0, .ref (ad 0)), (1, .int (nI q)), (2, .int y)]) hx hb d_F_pay_100 hl (k := 3) rfl (by rw [ex_18]; rfl) (by decide) rfl (fun ls hl => ?_)
            refine lv_goto (tgt := 35) hx hb d_F_pay_103 (by decide) ?_
            obtain rfl : x_18 = nI (i + 1) := by rw [ex_18]; exact nI_1 i
            obtain rfl : x_17 = nI (sv + 1) := by rw [ex_17]; exact nI_1 sv
            obtain rfl : x_16 = lN (pu - min pu (dv (sOD σ i)).2.2.1) := by rw [ex_16, hr9, lN_sub (Nat.min_le_left _ _)]
            have hper : (sLV σ (dv (sOD σ i)).1).2.1 = q := (nI_eq (by have h9 : (sLV σ (dv (sOD σ i)).1).2.1 < 30 := (hV.2.2.1 _ (hV1.2.2.2.1 _ hod).1).2.1; omega) (by omega)).mp c_11
            have hcc : pyC σ q (pu, sv, dv) (sOD σ i) := ⟨hper, Nat.pos_of_ne_zero (fun z => c_5 (by rw [show pu = 0 from z]; decide)), Nat.pos_of_ne_zero (fun z => c_13 (by show lN (dv (sOD σ i)).2.2.1 ≤ 0; rw [z]; decide))⟩
            exact ih (i + 1) _ _ _ _ H locs ls (by omega) (by omega) (payF_y hpf hcc) (RC.debt hRi (sOD σ i) (pyT (dv (sOD σ i)) pu) hod) (Keep.up hKi (Or.inl (bf3 _ hod))) hP hS (lv_sub hl [0, 1, 2, 4, 5, 6] rfl)

set_option maxHeartbeats 4000000 in
set_option maxRecDepth 100000 in
theorem c_F_pay (l : Launch) (D : va_G) (t : Nat → ClassId) (A : Nat → Prop) (g : hG) (F : Nat → Prop) (ad : Nat → Nat) (σ : SS) (x y : Int32) (hRx : RCx F t ad σ g) (hV : Inv σ) (hKB : ∀ i, i < 30 → sKR σ i ≤ 1000000000000) : Met l y_F_pay (Cond.code y_F_pay b_F_pay 8 (some .int) :: TB) ({ frames := 2, cells := 0, slots := 0, locals := 48 } : Room) (va_Pc [.ref (ad 0), .int x, .int y] (hI D vwCl (tyL t) EX A g)) (va_Qi (fun r u => ∃ σ2, spPay σ x y (r, σ2) ∧ RCx (gr F g) t ad σ2 u ∧ Keep F g u) (fun u v => hw D vwCl A u v.heap) A) 0 0 A := by
  refine Met.ofH (cc := b_F_pay) (maxL := 8) (ret := (some .int)) (lv := [(0, .ref (ad 0)), (1, .int x), (2, .int y)]) (by decide) (Nat.le_of_ble_eq_true rfl) rfl ?_
  intro p e s m below meth c ls X hP hS hl
  obtain ⟨hx, hb, hml, hr, hts, hown, hlocks, hK, hEs, hA, hnm⟩ := id X
  obtain ⟨aR, aL, aD, fR, fL, fI, fN, fB, hRc⟩ := id hRx
  obtain ⟨h0, ⟨h1, h1f⟩, ⟨h2, h2f⟩, ⟨h3, h3f⟩, h4, h5, h6, ⟨h7, h7f⟩, ⟨h8, h8f⟩, h9, hRr, hLl, hDd, h78, ⟨iR, iL, iD⟩, f0, f1, f2, f3⟩ := id hRc
  have hn1 := hV.1.1
  have hn2 := hV.1.2.1
  have hn3 := hV.1.2.2.1
  have hn4 := hV.1.2.2.2
  refine lv_iload_n hx hb d_F_pay_0 rfl (lv_at hl 1 rfl) ?_
  refine k_F_90 X ⟨Nat.le_of_ble_eq_true rfl, Nat.le_of_ble_eq_true rfl⟩ ⟨Nat.le_of_ble_eq_true rfl, Nat.le_of_ble_eq_true rfl⟩ hl.1 hP hS (by exact Nat.le_of_ble_eq_true rfl) d_F_pay_1 (fun r_1 H locs er_1 hP hS => ?_)
  refine lv_if_eq (tgt := 17) hx hb d_F_pay_4 (by decide) (fun c_2 => ?_) (fun c_2 => ?_)
  · have t_1 := bi_0.mp (er_1 ▸ c_2)
    refine lv_iconst (v := (-1)) hx hb d_F_pay_17 (by decide) ?_
    exact h_iret hx hb hr hlocks (Nat.le_of_ble_eq_true rfl) (Nat.le_of_ble_eq_true rfl) hP hS (⟨σ, by rw [spPay, if_neg (by simp [t_1])], hRx.mono (fun _ h => Or.inl h), Keep.rf⟩) d_F_pay_18
  · have t_1 := bi_n0.mp (er_1 ▸ c_2)
    obtain ⟨q, hq, rfl⟩ := wi_pl (M := 29) (n := 29) rfl (by decide) t_1
    refine lv_iload_n hx hb d_F_pay_7 rfl (lv_at hl 2 rfl) ?_
    refine lv_iconst (v := 1) hx hb d_F_pay_8 (by decide) ?_
    refine lv_ldc (v := 10000000) hx hb hown (hts _ (tbm 114 (by decide +kernel))) d_F_pay_9 ?_
    refine k_F_47 X ⟨Nat.le_of_ble_eq_true rfl, Nat.le_of_ble_eq_true rfl⟩ ⟨Nat.le_of_ble_eq_true rfl, Nat.le_of_ble_eq_true rfl⟩ hl.1 hP hS (by exact Nat.le_of_ble_eq_true rfl) d_F_pay_11 (fun r_3 H locs er_3 hP hS => ?_)
    refine lv_if_ne (tgt := 19) hx hb d_F_pay_14 (by decide) (fun c_4 => ?_) (fun c_4 => ?_)
    · have t_3 := bi_n0.mp (er_3 ▸ c_4)
      refine lv_aload_n hx hb d_F_pay_19 rfl (lv_at hl 0 rfl) ?_
      refine g_F_38 X hb hP h0 rfl d_F_pay_20 ?_
      refine lv_iload_n hx hb d_F_pay_23 rfl (lv_at hl 1 rfl) ?_
      refine n_lald X hb hP h6 ⟨hq, by decide⟩ d_F_pay_24 ?_
      refine lv_iload_n hx hb d_F_pay_25 rfl (lv_at hl 2 rfl) ?_
      refine lv_i2l hx hb d_F_pay_26 rfl ?_
      refine lv_ladd hx hb d_F_pay_27 ?_
      refine lv_topl (fun x_5 ex_5 => ?_)
      refine lv_lstore_n (lv' := [(3, .long x_5), (0, .ref (ad 0)), (1, .int (nI q)), (2, .int y)]) hx hb d_F_pay_28 rfl hl (by decide) rfl (fun ls hl => ?_)
      refine lv_iconst (v := 0) hx hb d_F_pay_29 (by decide) ?_
      refine lv_istore (lv' := [(5, .int 0), (3, .long x_5), (0, .ref (ad 0)), (1, .int (nI q)), (2, .int y)]) hx hb d_F_pay_30 hl (by decide) rfl (fun ls hl => ?_)
      refine lv_iconst (v := 0) hx hb d_F_pay_32 (by decide) ?_
      refine lv_istore (lv' := [(6, .int 0), (5, .int 0), (3, .long x_5), (0, .ref (ad 0)), (1, .int (nI q)), (2, .int y)]) hx hb d_F_pay_33 hl (by decide) rfl (fun ls hl => ?_)
      obtain ⟨c0, hc0, rfl⟩ := wi_c t_3
      obtain rfl : x_5 = lN (sKR σ q + c0) := by rw [ex_5, nI_l (by omega), lN_add]
      exact lp_F_pay g F ad aR aL aD fR fL fI fN fB σ q c0 (nI c0) _ hV (by omega) (by have := hKB q (by omega); omega) (fun G h9 h8 => by refine ⟨_, ?_, ⟨_, _, _, _, _, _, _, _, h9.mono (fun _ z => Or.inl z)⟩, h8⟩; rw [spPay, if_pos (by simp [t_1, t_3]), nI_k0 (by omega), nI_k9 hc0]) X (sND σ + 1) 0 (sKR σ q + c0) 0 (sDV σ) g _ _ ls (Nat.zero_le _) (by omega) rfl hRc Keep.rf hP hS (lv_sub hl [0, 1, 2, 3, 4, 5] rfl)
    · have t_3 := bi_0.mp (er_3 ▸ c_4)
      refine lv_iconst (v := (-1)) hx hb d_F_pay_17 (by decide) ?_
      exact h_iret hx hb hr hlocks (Nat.le_of_ble_eq_true rfl) (Nat.le_of_ble_eq_true rfl) hP hS (⟨σ, by rw [spPay, if_neg (by simp [t_1, t_3])], hRx.mono (fun _ h => Or.inl h), Keep.rf⟩) d_F_pay_18
theorem k_W_64 {p : Program} {l : Launch} {e : Env} {R : Room} {s : State} {m : MethodId} {args : Array Value} {below : List Frame} {meth : Method} {c : Code} {H : Heap} {locs : List Loc} {cells slots : Nat} {Q : State → Prop} {cc : ByteArray} {pc : Nat} {ls : Array Slot} {rest : List Value} {D : va_G} {A : Nat → Prop} {t : Nat → ClassId} {g : hG} {nL : Nat} {ret0 : Option FieldType} {nm : String} (X : Cx p s m args meth c R_W cc nL ret0 TB D vwCl (tyL t) EX A nm) (hR : 2 + 1 ≤ R.frames ∧ 8 + (8 + 11) + 48 ≤ R.locals) (hf : cells + 0 ≤ R.cells ∧ slots + 0 ≤ R.slots) (hls : ls.size = nL) (hP : hw D vwCl A g H) (hS : va_S A s.heap H locs) {F : Nat → Prop} {ad : Nat → Nat} {σ : SS} {x y : Int32} {fs9 : List Value} (he9 : g (ad 0) = some (.inr (0, fs9))) (hRx : RCx F t ad σ g) (hV : Inv σ) (hKB : ∀ i, i < 30 → sKR σ i ≤ 1000000000000) (hW : (rest.map fun v => v.category).sum ≤ 8) (hdg : decode cc pc = .ok (.invokevirtual 64, 3)) (kk : ∀ (r : Int32) (u : hG) (H1 : Heap) (locs1 : List Loc), ((fun r u => ∃ σ2, spPay σ x y (r, σ2) ∧ RCx (gr F g) t ad σ2 u ∧ Keep F g u) r u) → hw D vwCl A u H1 → va_S A s.heap H1 locs1 → W p l e R s m args below meth c H1 locs1 (cells + 0) (slots + 0) Q (F0 m (pc + 3) ls (.int r :: rest))) : W p l e R s m args below meth c H locs cells slots Q (F0 m pc ls (.int y :: .int x :: .ref (ad 0) :: rest)) :=
  h_ci (runV (C := R_F) (T := F_F) (N := 9) X (c_F_pay l D t A g F ad σ x y hRx hV hKB) (tbm 305 (by decide +kernel)) (tbm 306 (by decide +kernel)) (tbm 307 (by decide +kernel)) (tbm 20 (by decide +kernel)) (tbm 308 (by decide +kernel)) rfl (n := 2) (by decide +kernel) hR hf hP he9 hS hls rfl rfl hW hdg) hS kk
end
section
set_option maxRecDepth 100000 in
theorem c_C_init (l : Launch) (D : va_G) (t : Nat → ClassId) (A : Nat → Prop) (g : hG) (a : Nat) (he : g a = some (.inr (1, [.null, .int 0]))) : Met l y_C_init (Cond.code y_C_init b_C_init 1 none :: TB) ({ frames := 1, cells := 1, slots := 100, locals := 24 } : Room) (va_Pc [.ref a] (hI D vwCl (tyL t) EX A g)) (va_Qv (fun u => ∃ q, g q = none ∧ u = va_up (va_up g q (some (arJ t 100 (fun _ => 0)))) a (some (cCl q 0))) (fun u v => hw D vwCl A u v.heap) A) 1 100 A := by
  refine Met.ofH (cc := b_C_init) (maxL := 1) (ret := none) (lv := [(0, .ref a)]) (by decide) (Nat.le_of_ble_eq_true rfl) rfl ?_
  intro p e s m below meth c ls X hP hS hl
  obtain ⟨hx, hb, hml, hr, hts, hown, hlocks, hK, hEs, hA, hnm⟩ := id X
  refine lv_aload_n hx hb d_C_init_0 rfl (lv_at hl 0 rfl) ?_
  refine W.objInit hx hb hown (hts _ (tbm 68 (by decide +kernel))) (hts _ (tbm 38 (by decide +kernel))) (hts _ (tbm 39 (by decide +kernel))) rfl (by rw [hml]; exact hl.1) rfl d_C_init_1 (Nat.le_of_ble_eq_true rfl) (Nat.le_of_ble_eq_true rfl) ?_
  refine W.eq (g2 := F0 m 4 ls _) rfl ?_
  refine lv_aload_n hx hb d_C_init_4 rfl (lv_at hl 0 rfl) ?_
  refine lv_bipush (v := 100) hx hb d_C_init_5 (by decide) ?_
  refine h_newa (a0 := (100, .inr (.inl (fun _ => 0)))) (N' := 100) hx hb (hts _ (tbm 77 (by decide +kernel))) rfl hK hP hS hA 1 rfl (fun _ => by rw [vp_cell_l]; rfl) (by decide) (by decide) (by decide) (Nat.le_of_ble_eq_true rfl) (Nat.le_of_ble_eq_true rfl) d_C_init_7 (fun q_1 H hq_1 hP hS => ?_)
  have he_2 := up_at (o := some (arJ t 100 (fun _ => 0))) he (hw_new he hq_1)
  have he_3 := va_up_self g q_1 (some (arJ t 100 (fun _ => 0) : va_E))
  have hP : hw D vwCl A (va_up g q_1 (some (arJ t 100 (fun _ => 0)))) H := hP
  refine p_C_9 X hb hP hS he_2 (Nat.le_of_ble_eq_true rfl) rfl d_C_init_9 (fun H locs hP hS => ?_)
  have he_4 := up_at (o := some (.inr (1, [.ref q_1, .int 0]))) he_3 (hw_kd he_3 he_2 rfl)
  have he_5 := va_up_self (va_up g q_1 (some (arJ t 100 (fun _ => 0)))) a (some (.inr (1, [.ref q_1, .int 0]) : va_E))
  have hP : hw D vwCl A (va_up (va_up g q_1 (some (arJ t 100 (fun _ => 0)))) a (some (.inr (1, [.ref q_1, .int 0])))) H := hP
  exact h_vret hx hb hr hlocks (Nat.le_of_ble_eq_true rfl) (Nat.le_of_ble_eq_true rfl) hP hS (⟨_, hq_1, rfl⟩) d_C_init_12
theorem k_F_33 {p : Program} {l : Launch} {e : Env} {R : Room} {s : State} {m : MethodId} {args : Array Value} {below : List Frame} {meth : Method} {c : Code} {H : Heap} {locs : List Loc} {cells slots : Nat} {Q : State → Prop} {cc : ByteArray} {pc : Nat} {ls : Array Slot} {rest : List Value} {D : va_G} {A : Nat → Prop} {t : Nat → ClassId} {g : hG} {nL : Nat} {ret0 : Option FieldType} {nm : String} (X : Cx p s m args meth c R_F cc nL ret0 TB D vwCl (tyL t) EX A nm) (hR : 1 + 1 ≤ R.frames ∧ 8 + (1 + 11) + 24 ≤ R.locals) (hf : cells + 1 ≤ R.cells ∧ slots + 100 ≤ R.slots) (hls : ls.size = nL) (hP : hw D vwCl A g H) (hS : va_S A s.heap H locs) {a : Nat} (he : g a = some (.inr (1, [.null, .int 0]))) (hW : (rest.map fun v => v.category).sum ≤ 8) (hdg : decode cc pc = .ok (.invokespecial 33, 3)) (kk : ∀ (u : hG) (H1 : Heap) (locs1 : List Loc), ((fun u => ∃ q, g q = none ∧ u = va_up (va_up g q (some (arJ t 100 (fun _ => 0)))) a (some (cCl q 0))) u) → hw D vwCl A u H1 → va_S A s.heap H1 locs1 → W p l e R s m args below meth c H1 locs1 (cells + 1) (slots + 100) Q (F0 m (pc + 3) ls rest)) : W p l e R s m args below meth c H locs cells slots Q (F0 m pc ls (.ref a :: rest)) :=
  h_cv (runIN R_F X (c_C_init l D t A g a he) X.2.2.2.2.2.2.2.2.1.1.2.1 (tbm 66 (by decide +kernel)) (tbm 22 (by decide +kernel)) (tbm 67 (by decide +kernel)) rfl (n := 0) (by decide +kernel) hR hf hP hS hls rfl rfl hW hdg) hS kk

set_option maxRecDepth 100000 in
theorem c_B_init (l : Launch) (D : va_G) (t : Nat → ClassId) (A : Nat → Prop) (g : hG) (a : Nat) (he : g a = some (.inr (3, [.null, .null, .int 0]))) : Met l y_B_init (Cond.code y_B_init b_B_init 1 none :: TB) ({ frames := 1, cells := 2, slots := 400, locals := 24 } : Room) (va_Pc [.ref a] (hI D vwCl (tyL t) EX A g)) (va_Qv (fun u => ∃ q r, g q = none ∧ (va_up (va_up g q (some (arQ t 5 200 (fun _ => none)))) a (some (.inr (3, [.ref q, .null, .int 0])))) r = none ∧ u = va_up (va_up (va_up (va_up g q (some (arQ t 5 200 (fun _ => none)))) a (some (.inr (3, [.ref q, .null, .int 0])))) r (some (arQ t 5 200 (fun _ => none)))) a (some (cBr q r 0))) (fun u v => hw D vwCl A u v.heap) A) 2 400 A := by
  refine Met.ofH (cc := b_B_init) (maxL := 1) (ret := none) (lv := [(0, .ref a)]) (by decide) (Nat.le_of_ble_eq_true rfl) rfl ?_
  intro p e s m below meth c ls X hP hS hl
  obtain ⟨hx, hb, hml, hr, hts, hown, hlocks, hK, hEs, hA, hnm⟩ := id X
  refine lv_aload_n hx hb d_B_init_0 rfl (lv_at hl 0 rfl) ?_
  refine W.objInit hx hb hown (hts _ (tbm 49 (by decide +kernel))) (hts _ (tbm 38 (by decide +kernel))) (hts _ (tbm 39 (by decide +kernel))) rfl (by rw [hml]; exact hl.1) rfl d_B_init_1 (Nat.le_of_ble_eq_true rfl) (Nat.le_of_ble_eq_true rfl) ?_
  refine W.eq (g2 := F0 m 4 ls _) rfl ?_
  refine lv_aload_n hx hb d_B_init_4 rfl (lv_at hl 0 rfl) ?_
  refine lv_sipush (v := 200) hx hb d_B_init_5 (by decide) ?_
  refine h_newq (N' := 200) hx hb hown (hts _ (tbm 50 (by decide +kernel))) hEs.2.2.2 hK hP hS hA 5 rfl (by decide) (by decide) (by decide) (Nat.le_of_ble_eq_true rfl) (Nat.le_of_ble_eq_true rfl) d_B_init_8 (fun q_1 H hq_1 hP hS => ?_)
  have he_2 := up_at (o := some (arQ t 5 200 (fun _ => none))) he (hw_new he hq_1)
  have he_3 := va_up_self g q_1 (some (arQ t 5 200 (fun _ => none) : va_E))
  have hP : hw D vwCl A (va_up g q_1 (some (arQ t 5 200 (fun _ => none)))) H := hP
  refine p_B_11 X hb hP hS he_2 (Nat.le_of_ble_eq_true rfl) rfl d_B_init_11 (fun H locs hP hS => ?_)
  have he_4 := up_at (o := some (.inr (3, [.ref q_1, .null, .int 0]))) he_3 (hw_kd he_3 he_2 rfl)
  have he_5 := va_up_self (va_up g q_1 (some (arQ t 5 200 (fun _ => none)))) a (some (.inr (3, [.ref q_1, .null, .int 0]) : va_E))
  have hP : hw D vwCl A (va_up (va_up g q_1 (some (arQ t 5 200 (fun _ => none)))) a (some (.inr (3, [.ref q_1, .null, .int 0])))) H := hP
  refine lv_aload_n hx hb d_B_init_14 rfl (lv_at hl 0 rfl) ?_
  refine lv_sipush (v := 200) hx hb d_B_init_15 (by decide) ?_
  refine h_newq (N' := 200) hx hb hown (hts _ (tbm 50 (by decide +kernel))) hEs.2.2.2 hK hP hS hA 5 rfl (by decide) (by decide) (by decide) (Nat.le_of_ble_eq_true rfl) (Nat.le_of_ble_eq_true rfl) d_B_init_18 (fun q_6 H hq_6 hP hS => ?_)
  have he_7 := up_at (o := some (arQ t 5 200 (fun _ => none))) he_4 (hw_new he_4 hq_6)
  have he_8 := up_at (o := some (arQ t 5 200 (fun _ => none))) he_5 (hw_new he_5 hq_6)
  have he_9 := va_up_self (va_up (va_up g q_1 (some (arQ t 5 200 (fun _ => none)))) a (some (.inr (3, [.ref q_1, .null, .int 0])))) q_6 (some (arQ t 5 200 (fun _ => none) : va_E))
  have hP : hw D vwCl A (va_up (va_up (va_up g q_1 (some (arQ t 5 200 (fun _ => none)))) a (some (.inr (3, [.ref q_1, .null, .int 0])))) q_6 (some (arQ t 5 200 (fun _ => none)))) H := hP
  refine p_B_17 X hb hP hS he_8 (Nat.le_of_ble_eq_true rfl) rfl d_B_init_21 (fun H locs hP hS => ?_)
  have he_10 := up_at (o := some (.inr (3, [.ref q_1, .ref q_6, .int 0]))) he_7 (hw_kd he_7 he_8 rfl)
  have he_11 := up_at (o := some (.inr (3, [.ref q_1, .ref q_6, .int 0]))) he_9 (hw_kd he_9 he_8 rfl)
  have he_12 := va_up_self (va_up (va_up (va_up g q_1 (some (arQ t 5 200 (fun _ => none)))) a (some (.inr (3, [.ref q_1, .null, .int 0])))) q_6 (some (arQ t 5 200 (fun _ => none)))) a (some (.inr (3, [.ref q_1, .ref q_6, .int 0]) : va_E))
  have hP : hw D vwCl A (va_up (va_up (va_up (va_up g q_1 (some (arQ t 5 200 (fun _ => none)))) a (some (.inr (3, [.ref q_1, .null, .int 0])))) q_6 (some (arQ t 5 200 (fun _ => none)))) a (some (.inr (3, [.ref q_1, .ref q_6, .int 0])))) H := hP
  exact h_vret hx hb hr hlocks (Nat.le_of_ble_eq_true rfl) (Nat.le_of_ble_eq_true rfl) hP hS (⟨_, _, hq_1, hq_6, rfl⟩) d_B_init_24
theorem k_F_26 {p : Program} {l : Launch} {e : Env} {R : Room} {s : State} {m : MethodId} {args : Array Value} {below : List Frame} {meth : Method} {c : Code} {H : Heap} {locs : List Loc} {cells slots : Nat} {Q : State → Prop} {cc : ByteArray} {pc : Nat} {ls : Array Slot} {rest : List Value} {D : va_G} {A : Nat → Prop} {t : Nat → ClassId} {g : hG} {nL : Nat} {ret0 : Option FieldType} {nm : String} (X : Cx p s m args meth c R_F cc nL ret0 TB D vwCl (tyL t) EX A nm) (hR : 1 + 1 ≤ R.frames ∧ 8 + (1 + 11) + 24 ≤ R.locals) (hf : cells + 2 ≤ R.cells ∧ slots + 400 ≤ R.slots) (hls : ls.size = nL) (hP : hw D vwCl A g H) (hS : va_S A s.heap H locs) {a : Nat} (he : g a = some (.inr (3, [.null, .null, .int 0]))) (hW : (rest.map fun v => v.category).sum ≤ 8) (hdg : decode cc pc = .ok (.invokespecial 26, 3)) (kk : ∀ (u : hG) (H1 : Heap) (locs1 : List Loc), ((fun u => ∃ q r, g q = none ∧ (va_up (va_up g q (some (arQ t 5 200 (fun _ => none)))) a (some (.inr (3, [.ref q, .null, .int 0])))) r = none ∧ u = va_up (va_up (va_up (va_up g q (some (arQ t 5 200 (fun _ => none)))) a (some (.inr (3, [.ref q, .null, .int 0])))) r (some (arQ t 5 200 (fun _ => none)))) a (some (cBr q r 0))) u) → hw D vwCl A u H1 → va_S A s.heap H1 locs1 → W p l e R s m args below meth c H1 locs1 (cells + 2) (slots + 400) Q (F0 m (pc + 3) ls rest)) : W p l e R s m args below meth c H locs cells slots Q (F0 m pc ls (.ref a :: rest)) :=
  h_cv (runIN R_F X (c_B_init l D t A g a he) X.2.2.2.2.2.2.2.2.1.1.1 (tbm 47 (by decide +kernel)) (tbm 21 (by decide +kernel)) (tbm 48 (by decide +kernel)) rfl (n := 0) (by decide +kernel) hR hf hP hS hls rfl rfl hW hdg) hS kk

def adM (x0 x1 x2 x3 x4 x5 x6 x7 x8 x9 : Nat) : Nat → Nat
  | 0 => x0
  | 1 => x1
  | 2 => x2
  | 3 => x3
  | 4 => x4
  | 5 => x5
  | 6 => x6
  | 7 => x7
  | 8 => x8
  | _ => x9
def σ0 : SS := ((0, fun _ => (0, 0, 0, 0, 0)), (0, fun _ => (0, 0, 0, 0, 0, 0)), (0, fun _ => (0, 0, 0, 0, 0, 0), fun _ => 0), (0, fun _ => 0), fun _ => 0, 1000, fun _ => none)

set_option maxHeartbeats 4000000 in
set_option maxRecDepth 100000 in
theorem c_F_init (l : Launch) (D : va_G) (t : Nat → ClassId) (A : Nat → Prop) (g : hG) (a : Nat) (he : g a = some (.inr (0, [.null, .int 0, .null, .int 0, .null, .null, .null, .null, .int 0]))) : Met l y_F_init (Cond.code y_F_init b_F_init 1 none :: TB) ({ frames := 2, cells := 9, slots := 725, locals := 44 } : Room) (va_Pc [.ref a] (hI D vwCl (tyL t) EX A g)) (va_Qv (fun u => ∃ ad, ad 0 = a ∧ RCx (fun z => z = a ∨ g z = none) t ad σ0 u ∧ Keep (fun z => z = a) g u) (fun u v => hw D vwCl A u v.heap) A) 9 725 A := by
  refine Met.ofH (cc := b_F_init) (maxL := 1) (ret := none) (lv := [(0, .ref a)]) (by decide) (Nat.le_of_ble_eq_true rfl) rfl ?_
  intro p e s m below meth c ls X hP hS hl
  obtain ⟨hx, hb, hml, hr, hts, hown, hlocks, hK, hEs, hA, hnm⟩ := id X
  refine lv_aload_n hx hb d_F_init_0 rfl (lv_at hl 0 rfl) ?_
  refine W.objInit hx hb hown (hts _ (tbm 37 (by decide +kernel))) (hts _ (tbm 38 (by decide +kernel))) (hts _ (tbm 39 (by decide +kernel))) rfl (by rw [hml]; exact hl.1) rfl d_F_init_1 (Nat.le_of_ble_eq_true rfl) (Nat.le_of_ble_eq_true rfl) ?_
  refine W.eq (g2 := F0 m 4 ls _) rfl ?_
  refine lv_aload_n hx hb d_F_init_4 rfl (lv_at hl 0 rfl) ?_
  refine lv_bipush (v := 10) hx hb d_F_init_5 (by decide) ?_
  refine h_newq (N' := 10) hx hb hown (hts _ (tbm 40 (by decide +kernel))) hEs.2.1 hK hP hS hA 3 rfl (by decide) (by decide) (by decide) (Nat.le_of_ble_eq_true rfl) (Nat.le_of_ble_eq_true rfl) d_F_init_7 (fun q_1 H hq_1 hP hS => ?_)
  have he_2 := up_at (o := some (arQ t 3 10 (fun _ => none))) he (hw_new he hq_1)
  have he_3 := va_up_self g q_1 (some (arQ t 3 10 (fun _ => none) : va_E))
  have hP : hw D vwCl A (va_up g q_1 (some (arQ t 3 10 (fun _ => none)))) H := hP
  refine p_F_11 X hb hP hS he_2 (Nat.le_of_ble_eq_true rfl) rfl d_F_init_10 (fun H locs hP hS => ?_)
  have he_4 := up_at (o := some (.inr (0, [.ref q_1, .int 0, .null, .int 0, .null, .null, .null, .null, .int 0]))) he_3 (hw_kd he_3 he_2 rfl)
  have he_5 := va_up_self (va_up g q_1 (some (arQ t 3 10 (fun _ => none)))) a (some (.inr (0, [.ref q_1, .int 0, .null, .int 0, .null, .null, .null, .null, .int 0]) : va_E))
  have hP : hw D vwCl A (va_up (va_up g q_1 (some (arQ t 3 10 (fun _ => none)))) a (some (.inr (0, [.ref q_1, .int 0, .null, .int 0, .null, .null, .null, .null, .int 0])))) H := hP
  refine lv_aload_n hx hb d_F_init_13 rfl (lv_at hl 0 rfl) ?_
  refine lv_bipush (v := 120) hx hb d_F_init_14 (by decide) ?_
  refine h_newq (N' := 120) hx hb hown (hts _ (tbm 42 (by decide +kernel))) hEs.2.2.1 hK hP hS hA 4 rfl (by decide) (by decide) (by decide) (Nat.le_of_ble_eq_true rfl) (Nat.le_of_ble_eq_true rfl) d_F_init_16 (fun q_6 H hq_6 hP hS => ?_)
  have he_7 := up_at (o := some (arQ t 4 120 (fun _ => none))) he_4 (hw_new he_4 hq_6)
  have he_8 := up_at (o := some (arQ t 4 120 (fun _ => none))) he_5 (hw_new he_5 hq_6)
  have he_9 := va_up_self (va_up (va_up g q_1 (some (arQ t 3 10 (fun _ => none)))) a (some (.inr (0, [.ref q_1, .int 0, .null, .int 0, .null, .null, .null, .null, .int 0])))) q_6 (some (arQ t 4 120 (fun _ => none) : va_E))
  have hP : hw D vwCl A (va_up (va_up (va_up g q_1 (some (arQ t 3 10 (fun _ => none)))) a (some (.inr (0, [.ref q_1, .int 0, .null, .int 0, .null, .null, .null, .null, .int 0])))) q_6 (some (arQ t 4 120 (fun _ => none)))) H := hP
  refine p_F_17 X hb hP hS he_8 (Nat.le_of_ble_eq_true rfl) rfl d_F_init_19 (fun H locs hP hS => ?_)
  have he_10 := up_at (o := some (.inr (0, [.ref q_1, .int 0, .ref q_6, .int 0, .null, .null, .null, .null, .int 0]))) he_7 (hw_kd he_7 he_8 rfl)
  have he_11 := up_at (o := some (.inr (0, [.ref q_1, .int 0, .ref q_6, .int 0, .null, .null, .null, .null, .int 0]))) he_9 (hw_kd he_9 he_8 rfl)
  have he_12 := va_up_self (va_up (va_up (va_up g q_1 (some (arQ t 3 10 (fun _ => none)))) a (some (.inr (0, [.ref q_1, .int 0, .null, .int 0, .null, .null, .null, .null, .int 0])))) q_6 (some (arQ t 4 120 (fun _ => none)))) a (some (.inr (0, [.ref q_1, .int 0, .ref q_6, .int 0, .null, .null, .null, .null, .int 0]) : va_E))
  have hP : hw D vwCl A (va_up (va_up (va_up (va_up g q_1 (some (arQ t 3 10 (fun _ => none)))) a (some (.inr (0, [.ref q_1, .int 0, .null, .int 0, .null, .null, .null, .null, .int 0])))) q_6 (some (arQ t 4 120 (fun _ => none)))) a (some (.inr (0, [.ref q_1, .int 0, .ref q_6, .int 0, .null, .null, .null, .null, .int 0])))) H := hP
  refine lv_aload_n hx hb d_F_init_22 rfl (lv_at hl 0 rfl) ?_
  refine lv_bipush (v := 60) hx hb d_F_init_23 (by decide) ?_
  refine h_newq (N' := 60) hx hb hown (hts _ (tbm 42 (by decide +kernel))) hEs.2.2.1 hK hP hS hA 4 rfl (by decide) (by decide) (by decide) (Nat.le_of_ble_eq_true rfl) (Nat.le_of_ble_eq_true rfl) d_F_init_25 (fun q_13 H hq_13 hP hS => ?_)
  have he_14 := up_at (o := some (arQ t 4 60 (fun _ => none))) he_10 (hw_new he_10 hq_13)
  have he_15 := up_at (o := some (arQ t 4 60 (fun _ => none))) he_11 (hw_new he_11 hq_13)
  have he_16 := up_at (o := some (arQ t 4 60 (fun _ => none))) he_12 (hw_new he_12 hq_13)
  have he_17 := va_up_self (va_up (va_up (va_up (va_up g q_1 (some (arQ t 3 10 (fun _ => none)))) a (some (.inr (0, [.ref q_1, .int 0, .null, .int 0, .null, .null, .null, .null, .int 0])))) q_6 (some (arQ t 4 120 (fun _ => none)))) a (some (.inr (0, [.ref q_1, .int 0, .ref q_6, .int 0, .null, .null, .null, .null, .int 0])))) q_13 (some (arQ t 4 60 (fun _ => none) : va_E))
  have hP : hw D vwCl A (va_up (va_up (va_up (va_up (va_up g q_1 (some (arQ t 3 10 (fun _ => none)))) a (some (.inr (0, [.ref q_1, .int 0, .null, .int 0, .null, .null, .null, .null, .int 0])))) q_6 (some (arQ t 4 120 (fun _ => none)))) a (some (.inr (0, [.ref q_1, .int 0, .ref q_6, .int 0, .null, .null, .null, .null, .int 0])))) q_13 (some (arQ t 4 60 (fun _ => none)))) H := hP
  refine p_F_21 X hb hP hS he_16 (Nat.le_of_ble_eq_true rfl) rfl d_F_init_28 (fun H locs hP hS => ?_)
  have he_18 := up_at (o := some (.inr (0, [.ref q_1, .int 0, .ref q_6, .int 0, .ref q_13, .null, .null, .null, .int 0]))) he_14 (hw_kd he_14 he_16 rfl)
  have he_19 := up_at (o := some (.inr (0, [.ref q_1, .int 0, .ref q_6, .int 0, .ref q_13, .null, .null, .null, .int 0]))) he_15 (hw_kd he_15 he_16 rfl)
  have he_20 := up_at (o := some (.inr (0, [.ref q_1, .int 0, .ref q_6, .int 0, .ref q_13, .null, .null, .null, .int 0]))) he_17 (hw_kd he_17 he_16 rfl)
  have he_21 := va_up_self (va_up (va_up (va_up (va_up (va_up g q_1 (some (arQ t 3 10 (fun _ => none)))) a (some (.inr (0, [.ref q_1, .int 0, .null, .int 0, .null, .null, .null, .null, .int 0])))) q_6 (some (arQ t 4 120 (fun _ => none)))) a (some (.inr (0, [.ref q_1, .int 0, .ref q_6, .int 0, .null, .null, .null, .null, .int 0])))) q_13 (some (arQ t 4 60 (fun _ => none)))) a (some (.inr (0, [.ref q_1, .int 0, .ref q_6, .int 0, .ref q_13, .null, .null, .null, .int 0]) : va_E))
  have hP : hw D vwCl A (va_up (va_up (va_up (va_up (va_up (va_up g q_1 (some (arQ t 3 10 (fun _ => none)))) a (some (.inr (0, [.ref q_1, .int 0, .null, .int 0, .null, .null, .null, .null, .int 0])))) q_6 (some (arQ t 4 120 (fun _ => none)))) a (some (.inr (0, [.ref q_1, .int 0, .ref q_6, .int 0, .null, .null, .null, .null, .int 0])))) q_13 (some (arQ t 4 60 (fun _ => none)))) a (some (.inr (0, [.ref q_1, .int 0, .ref q_6, .int 0, .ref q_13, .null, .null, .null, .int 0])))) H := hP
  refine lv_aload_n hx hb d_F_init_31 rfl (lv_at hl 0 rfl) ?_
  refine nw_F_24 X hb hP hS ⟨Nat.le_of_ble_eq_true rfl, Nat.le_of_ble_eq_true rfl⟩ d_F_init_32 (fun q_22 H hq_22 hP hS => ?_)
  have he_23 := up_at (o := some (.inr (3, [.null, .null, .int 0]))) he_18 (hw_new he_18 hq_22)
  have he_24 := up_at (o := some (.inr (3, [.null, .null, .int 0]))) he_19 (hw_new he_19 hq_22)
  have he_25 := up_at (o := some (.inr (3, [.null, .null, .int 0]))) he_20 (hw_new he_20 hq_22)
  have he_26 := up_at (o := some (.inr (3, [.null, .null, .int 0]))) he_21 (hw_new he_21 hq_22)
  have he_27 := va_up_self (va_up (va_up (va_up (va_up (va_up (va_up g q_1 (some (arQ t 3 10 (fun _ => none)))) a (some (.inr (0, [.ref q_1, .int 0, .null, .int 0, .null, .null, .null, .null, .int 0])))) q_6 (some (arQ t 4 120 (fun _ => none)))) a (some (.inr (0, [.ref q_1, .int 0, .ref q_6, .int 0, .null, .null, .null, .null, .int 0])))) q_13 (some (arQ t 4 60 (fun _ => none)))) a (some (.inr (0, [.ref q_1, .int 0, .ref q_6, .int 0, .ref q_13, .null, .null, .null, .int 0])))) q_22 (some (.inr (3, [.null, .null, .int 0]) : va_E))
  have hP : hw D vwCl A (va_up (va_up (va_up (va_up (va_up (va_up (va_up g q_1 (some (arQ t 3 10 (fun _ => none)))) a (some (.inr (0, [.ref q_1, .int 0, .null, .int 0, .null, .null, .null, .null, .int 0])))) q_6 (some (arQ t 4 120 (fun _ => none)))) a (some (.inr (0, [.ref q_1, .int 0, .ref q_6, .int 0, .null, .null, .null, .null, .int 0])))) q_13 (some (arQ t 4 60 (fun _ => none)))) a (some (.inr (0, [.ref q_1, .int 0, .ref q_6, .int 0, .ref q_13, .null, .null, .null, .int 0])))) q_22 (some (.inr (3, [.null, .null, .int 0])))) H := hP
  refine lv_dup hx hb d_F_init_35 rfl ?_
  refine k_F_26 X ⟨Nat.le_of_ble_eq_true rfl, Nat.le_of_ble_eq_true rfl⟩ ⟨Nat.le_of_ble_eq_true rfl, Nat.le_of_ble_eq_true rfl⟩ hl.1 hP hS he_27 (by exact Nat.le_of_ble_eq_true rfl) d_F_init_36 (fun u H locs hr_28 hP hS => ?_)
  obtain ⟨qn, qd, hqn, hqd, hu⟩ := hr_28
  rw [hu] at hP
  have he_29 := up_at (o := some (arQ t 5 200 (fun _ => none))) he_23 (hw_new he_23 hqn)
  have he_30 := up_at (o := some (arQ t 5 200 (fun _ => none))) he_24 (hw_new he_24 hqn)
  have he_31 := up_at (o := some (arQ t 5 200 (fun _ => none))) he_25 (hw_new he_25 hqn)
  have he_32 := up_at (o := some (arQ t 5 200 (fun _ => none))) he_26 (hw_new he_26 hqn)
  have he_33 := up_at (o := some (arQ t 5 200 (fun _ => none))) he_27 (hw_new he_27 hqn)
  have he_34 := va_up_self (va_up (va_up (va_up (va_up (va_up (va_up (va_up g q_1 (some (arQ t 3 10 (fun _ => none)))) a (some (.inr (0, [.ref q_1, .int 0, .null, .int 0, .null, .null, .null, .null, .int 0])))) q_6 (some (arQ t 4 120 (fun _ => none)))) a (some (.inr (0, [.ref q_1, .int 0, .ref q_6, .int 0, .null, .null, .null, .null, .int 0])))) q_13 (some (arQ t 4 60 (fun _ => none)))) a (some (.inr (0, [.ref q_1, .int 0, .ref q_6, .int 0, .ref q_13, .null, .null, .null, .int 0])))) q_22 (some (.inr (3, [.null, .null, .int 0])))) qn (some (arQ t 5 200 (fun _ => none) : va_E))
  have he_35 := up_at (o := some (.inr (3, [.ref qn, .null, .int 0]))) he_29 (hw_kd he_29 he_33 rfl)
  have he_36 := up_at (o := some (.inr (3, [.ref qn, .null, .int 0]))) he_30 (hw_kd he_30 he_33 rfl)
  have he_37 := up_at (o := some (.inr (3, [.ref qn, .null, .int 0]))) he_31 (hw_kd he_31 he_33 rfl)
  have he_38 := up_at (o := some (.inr (3, [.ref qn, .null, .int 0]))) he_32 (hw_kd he_32 he_33 rfl)
  have he_39 := up_at (o := some (.inr (3, [.ref qn, .null, .int 0]))) he_34 (hw_kd he_34 he_33 rfl)
  have he_40 := va_up_self (va_up (va_up (va_up (va_up (va_up (va_up (va_up (va_up g q_1 (some (arQ t 3 10 (fun _ => none)))) a (some (.inr (0, [.ref q_1, .int 0, .null, .int 0, .null, .null, .null, .null, .int 0])))) q_6 (some (arQ t 4 120 (fun _ => none)))) a (some (.inr (0, [.ref q_1, .int 0, .ref q_6, .int 0, .null, .null, .null, .null, .int 0])))) q_13 (some (arQ t 4 60 (fun _ => none)))) a (some (.inr (0, [.ref q_1, .int 0, .ref q_6, .int 0, .ref q_13, .null, .null, .null, .int 0])))) q_22 (some (.inr (3, [.null, .null, .int 0])))) qn (some (arQ t 5 200 (fun _ => none)))) q_22 (some (.inr (3, [.ref qn, .null, .int 0]) : va_E))
  have he_41 := up_at (o := some (arQ t 5 200 (fun _ => none))) he_35 (hw_new he_35 hqd)
  have he_42 := up_at (o := some (arQ t 5 200 (fun _ => none))) he_36 (hw_new he_36 hqd)
  have he_43 := up_at (o := some (arQ t 5 200 (fun _ => none))) he_37 (hw_new he_37 hqd)
  have he_44 := up_at (o := some (arQ t 5 200 (fun _ => none))) he_38 (hw_new he_38 hqd)
  have he_45 := up_at (o := some (arQ t 5 200 (fun _ => none))) he_39 (hw_new he_39 hqd)
  have he_46 := up_at (o := some (arQ t 5 200 (fun _ => none))) he_40 (hw_new he_40 hqd)
  have he_47 := va_up_self (va_up (va_up (va_up (va_up (va_up (va_up (va_up (va_up (va_up g q_1 (some (arQ t 3 10 (fun _ => none)))) a (some (.inr (0, [.ref q_1, .int 0, .null, .int 0, .null, .null, .null, .null, .int 0])))) q_6 (some (arQ t 4 120 (fun _ => none)))) a (some (.inr (0, [.ref q_1, .int 0, .ref q_6, .int 0, .null, .null, .null, .null, .int 0])))) q_13 (some (arQ t 4 60 (fun _ => none)))) a (some (.inr (0, [.ref q_1, .int 0, .ref q_6, .int 0, .ref q_13, .null, .null, .null, .int 0])))) q_22 (some (.inr (3, [.null, .null, .int 0])))) qn (some (arQ t 5 200 (fun _ => none)))) q_22 (some (.inr (3, [.ref qn, .null, .int 0])))) qd (some (arQ t 5 200 (fun _ => none) : va_E))
  have he_48 := up_at (o := some (cBr qn qd 0)) he_41 (hw_kd he_41 he_46 rfl)
  have he_49 := up_at (o := some (cBr qn qd 0)) he_42 (hw_kd he_42 he_46 rfl)
  have he_50 := up_at (o := some (cBr qn qd 0)) he_43 (hw_kd he_43 he_46 rfl)
  have he_51 := up_at (o := some (cBr qn qd 0)) he_44 (hw_kd he_44 he_46 rfl)
  have he_52 := up_at (o := some (cBr qn qd 0)) he_45 (hw_kd he_45 he_46 rfl)
  have he_53 := up_at (o := some (cBr qn qd 0)) he_47 (hw_kd he_47 he_46 rfl)
  have he_54 := va_up_self (va_up (va_up (va_up (va_up (va_up (va_up (va_up (va_up (va_up (va_up g q_1 (some (arQ t 3 10 (fun _ => none)))) a (some (.inr (0, [.ref q_1, .int 0, .null, .int 0, .null, .null, .null, .null, .int 0])))) q_6 (some (arQ t 4 120 (fun _ => none)))) a (some (.inr (0, [.ref q_1, .int 0, .ref q_6, .int 0, .null, .null, .null, .null, .int 0])))) q_13 (some (arQ t 4 60 (fun _ => none)))) a (some (.inr (0, [.ref q_1, .int 0, .ref q_6, .int 0, .ref q_13, .null, .null, .null, .int 0])))) q_22 (some (.inr (3, [.null, .null, .int 0])))) qn (some (arQ t 5 200 (fun _ => none)))) q_22 (some (.inr (3, [.ref qn, .null, .int 0])))) qd (some (arQ t 5 200 (fun _ => none)))) q_22 (some (cBr qn qd 0 : va_E))
  have hP : hw D vwCl A (va_up (va_up (va_up (va_up (va_up (va_up (va_up (va_up (va_up (va_up (va_up g q_1 (some (arQ t 3 10 (fun _ => none)))) a (some (.inr (0, [.ref q_1, .int 0, .null, .int 0, .null, .null, .null, .null, .int 0])))) q_6 (some (arQ t 4 120 (fun _ => none)))) a (some (.inr (0, [.ref q_1, .int 0, .ref q_6, .int 0, .null, .null, .null, .null, .int 0])))) q_13 (some (arQ t 4 60 (fun _ => none)))) a (some (.inr (0, [.ref q_1, .int 0, .ref q_6, .int 0, .ref q_13, .null, .null, .null, .int 0])))) q_22 (some (.inr (3, [.null, .null, .int 0])))) qn (some (arQ t 5 200 (fun _ => none)))) q_22 (some (.inr (3, [.ref qn, .null, .int 0])))) qd (some (arQ t 5 200 (fun _ => none)))) q_22 (some (cBr qn qd 0))) H := hP
  refine p_F_27 X hb hP hS he_51 (Nat.le_of_ble_eq_true rfl) rfl rfl rfl d_F_init_39 (fun H locs hP hS => ?_)
  have he_55 := up_at (o := some (.inr (0, [.ref q_1, .int 0, .ref q_6, .int 0, .ref q_13, .ref q_22, .null, .null, .int 0]))) he_48 (hw_kd he_48 he_51 rfl)
  have he_56 := up_at (o := some (.inr (0, [.ref q_1, .int 0, .ref q_6, .int 0, .ref q_13, .ref q_22, .null, .null, .int 0]))) he_49 (hw_kd he_49 he_51 rfl)
  have he_57 := up_at (o := some (.inr (0, [.ref q_1, .int 0, .ref q_6, .int 0, .ref q_13, .ref q_22, .null, .null, .int 0]))) he_50 (hw_kd he_50 he_51 rfl)
  have he_58 := up_at (o := some (.inr (0, [.ref q_1, .int 0, .ref q_6, .int 0, .ref q_13, .ref q_22, .null, .null, .int 0]))) he_52 (hw_kd he_52 he_51 rfl)
  have he_59 := up_at (o := some (.inr (0, [.ref q_1, .int 0, .ref q_6, .int 0, .ref q_13, .ref q_22, .null, .null, .int 0]))) he_53 (hw_kd he_53 he_51 rfl)
  have he_60 := up_at (o := some (.inr (0, [.ref q_1, .int 0, .ref q_6, .int 0, .ref q_13, .ref q_22, .null, .null, .int 0]))) he_54 (hw_kd he_54 he_51 rfl)
  have he_61 := va_up_self (va_up (va_up (va_up (va_up (va_up (va_up (va_up (va_up (va_up (va_up (va_up g q_1 (some (arQ t 3 10 (fun _ => none)))) a (some (.inr (0, [.ref q_1, .int 0, .null, .int 0, .null, .null, .null, .null, .int 0])))) q_6 (some (arQ t 4 120 (fun _ => none)))) a (some (.inr (0, [.ref q_1, .int 0, .ref q_6, .int 0, .null, .null, .null, .null, .int 0])))) q_13 (some (arQ t 4 60 (fun _ => none)))) a (some (.inr (0, [.ref q_1, .int 0, .ref q_6, .int 0, .ref q_13, .null, .null, .null, .int 0])))) q_22 (some (.inr (3, [.null, .null, .int 0])))) qn (some (arQ t 5 200 (fun _ => none)))) q_22 (some (.inr (3, [.ref qn, .null, .int 0])))) qd (some (arQ t 5 200 (fun _ => none)))) q_22 (some (cBr qn qd 0))) a (some (.inr (0, [.ref q_1, .int 0, .ref q_6, .int 0, .ref q_13, .ref q_22, .null, .null, .int 0]) : va_E))
  have hP : hw D vwCl A (va_up (va_up (va_up (va_up (va_up (va_up (va_up (va_up (va_up (va_up (va_up (va_up g q_1 (some (arQ t 3 10 (fun _ => none)))) a (some (.inr (0, [.ref q_1, .int 0, .null, .int 0, .null, .null, .null, .null, .int 0])))) q_6 (some (arQ t 4 120 (fun _ => none)))) a (some (.inr (0, [.ref q_1, .int 0, .ref q_6, .int 0, .null, .null, .null, .null, .int 0])))) q_13 (some (arQ t 4 60 (fun _ => none)))) a (some (.inr (0, [.ref q_1, .int 0, .ref q_6, .int 0, .ref q_13, .null, .null, .null, .int 0])))) q_22 (some (.inr (3, [.null, .null, .int 0])))) qn (some (arQ t 5 200 (fun _ => none)))) q_22 (some (.inr (3, [.ref qn, .null, .int 0])))) qd (some (arQ t 5 200 (fun _ => none)))) q_22 (some (cBr qn qd 0))) a (some (.inr (0, [.ref q_1, .int 0, .ref q_6, .int 0, .ref q_13, .ref q_22, .null, .null, .int 0])))) H := hP
  refine lv_aload_n hx hb d_F_init_42 rfl (lv_at hl 0 rfl) ?_
  refine nw_F_31 X hb hP hS ⟨Nat.le_of_ble_eq_true rfl, Nat.le_of_ble_eq_true rfl⟩ d_F_init_43 (fun q_62 H hq_62 hP hS => ?_)
  have he_63 := up_at (o := some (.inr (1, [.null, .int 0]))) he_55 (hw_new he_55 hq_62)
  have he_64 := up_at (o := some (.inr (1, [.null, .int 0]))) he_56 (hw_new he_56 hq_62)
  have he_65 := up_at (o := some (.inr (1, [.null, .int 0]))) he_57 (hw_new he_57 hq_62)
  have he_66 := up_at (o := some (.inr (1, [.null, .int 0]))) he_58 (hw_new he_58 hq_62)
  have he_67 := up_at (o := some (.inr (1, [.null, .int 0]))) he_59 (hw_new he_59 hq_62)
  have he_68 := up_at (o := some (.inr (1, [.null, .int 0]))) he_60 (hw_new he_60 hq_62)
  have he_69 := up_at (o := some (.inr (1, [.null, .int 0]))) he_61 (hw_new he_61 hq_62)
  have he_70 := va_up_self (va_up (va_up (va_up (va_up (va_up (va_up (va_up (va_up (va_up (va_up (va_up (va_up g q_1 (some (arQ t 3 10 (fun _ => none)))) a (some (.inr (0, [.ref q_1, .int 0, .null, .int 0, .null, .null, .null, .null, .int 0])))) q_6 (some (arQ t 4 120 (fun _ => none)))) a (some (.inr (0, [.ref q_1, .int 0, .ref q_6, .int 0, .null, .null, .null, .null, .int 0])))) q_13 (some (arQ t 4 60 (fun _ => none)))) a (some (.inr (0, [.ref q_1, .int 0, .ref q_6, .int 0, .ref q_13, .null, .null, .null, .int 0])))) q_22 (some (.inr (3, [.null, .null, .int 0])))) qn (some (arQ t 5 200 (fun _ => none)))) q_22 (some (.inr (3, [.ref qn, .null, .int 0])))) qd (some (arQ t 5 200 (fun _ => none)))) q_22 (some (cBr qn qd 0))) a (some (.inr (0, [.ref q_1, .int 0, .ref q_6, .int 0, .ref q_13, .ref q_22, .null, .null, .int 0])))) q_62 (some (.inr (1, [.null, .int 0]) : va_E))
  have hP : hw D vwCl A (va_up (va_up (va_up (va_up (va_up (va_up (va_up (va_up (va_up (va_up (va_up (va_up (va_up g q_1 (some (arQ t 3 10 (fun _ => none)))) a (some (.inr (0, [.ref q_1, .int 0, .null, .int 0, .null, .null, .null, .null, .int 0])))) q_6 (some (arQ t 4 120 (fun _ => none)))) a (some (.inr (0, [.ref q_1, .int 0, .ref q_6, .int 0, .null, .null, .null, .null, .int 0])))) q_13 (some (arQ t 4 60 (fun _ => none)))) a (some (.inr (0, [.ref q_1, .int 0, .ref q_6, .int 0, .ref q_13, .null, .null, .null, .int 0])))) q_22 (some (.inr (3, [.null, .null, .int 0])))) qn (some (arQ t 5 200 (fun _ => none)))) q_22 (some (.inr (3, [.ref qn, .null, .int 0])))) qd (some (arQ t 5 200 (fun _ => none)))) q_22 (some (cBr qn qd 0))) a (some (.inr (0, [.ref q_1, .int 0, .ref q_6, .int 0, .ref q_13, .ref q_22, .null, .null, .int 0])))) q_62 (some (.inr (1, [.null, .int 0])))) H := hP
  refine lv_dup hx hb d_F_init_46 rfl ?_
  refine k_F_33 X ⟨Nat.le_of_ble_eq_true rfl, Nat.le_of_ble_eq_true rfl⟩ ⟨Nat.le_of_ble_eq_true rfl, Nat.le_of_ble_eq_true rfl⟩ hl.1 hP hS he_70 (by exact Nat.le_of_ble_eq_true rfl) d_F_init_47 (fun u H locs hr_71 hP hS => ?_)
  obtain ⟨qy, hqy, hu⟩ := hr_71
  rw [hu] at hP
  have he_72 := up_at (o := some (arJ t 100 (fun _ => 0))) he_63 (hw_new he_63 hqy)
  have he_73 := up_at (o := some (arJ t 100 (fun _ => 0))) he_64 (hw_new he_64 hqy)
  have he_74 := up_at (o := some (arJ t 100 (fun _ => 0))) he_65 (hw_new he_65 hqy)
  have he_75 := up_at (o := some (arJ t 100 (fun _ => 0))) he_66 (hw_new he_66 hqy)
  have he_76 := up_at (o := some (arJ t 100 (fun _ => 0))) he_67 (hw_new he_67 hqy)
  have he_77 := up_at (o := some (arJ t 100 (fun _ => 0))) he_68 (hw_new he_68 hqy)
  have he_78 := up_at (o := some (arJ t 100 (fun _ => 0))) he_69 (hw_new he_69 hqy)
  have he_79 := up_at (o := some (arJ t 100 (fun _ => 0))) he_70 (hw_new he_70 hqy)
  have he_80 := va_up_self (va_up (va_up (va_up (va_up (va_up (va_up (va_up (va_up (va_up (va_up (va_up (va_up (va_up g q_1 (some (arQ t 3 10 (fun _ => none)))) a (some (.inr (0, [.ref q_1, .int 0, .null, .int 0, .null, .null, .null, .null, .int 0])))) q_6 (some (arQ t 4 120 (fun _ => none)))) a (some (.inr (0, [.ref q_1, .int 0, .ref q_6, .int 0, .null, .null, .null, .null, .int 0])))) q_13 (some (arQ t 4 60 (fun _ => none)))) a (some (.inr (0, [.ref q_1, .int 0, .ref q_6, .int 0, .ref q_13, .null, .null, .null, .int 0])))) q_22 (some (.inr (3, [.null, .null, .int 0])))) qn (some (arQ t 5 200 (fun _ => none)))) q_22 (some (.inr (3, [.ref qn, .null, .int 0])))) qd (some (arQ t 5 200 (fun _ => none)))) q_22 (some (cBr qn qd 0))) a (some (.inr (0, [.ref q_1, .int 0, .ref q_6, .int 0, .ref q_13, .ref q_22, .null, .null, .int 0])))) q_62 (some (.inr (1, [.null, .int 0])))) qy (some (arJ t 100 (fun _ => 0) : va_E))
  have he_81 := up_at (o := some (cCl qy 0)) he_72 (hw_kd he_72 he_79 rfl)
  have he_82 := up_at (o := some (cCl qy 0)) he_73 (hw_kd he_73 he_79 rfl)
  have he_83 := up_at (o := some (cCl qy 0)) he_74 (hw_kd he_74 he_79 rfl)
  have he_84 := up_at (o := some (cCl qy 0)) he_75 (hw_kd he_75 he_79 rfl)
  have he_85 := up_at (o := some (cCl qy 0)) he_76 (hw_kd he_76 he_79 rfl)
  have he_86 := up_at (o := some (cCl qy 0)) he_77 (hw_kd he_77 he_79 rfl)
  have he_87 := up_at (o := some (cCl qy 0)) he_78 (hw_kd he_78 he_79 rfl)
  have he_88 := up_at (o := some (cCl qy 0)) he_80 (hw_kd he_80 he_79 rfl)
  have he_89 := va_up_self (va_up (va_up (va_up (va_up (va_up (va_up (va_up (va_up (va_up (va_up (va_up (va_up (va_up (va_up g q_1 (some (arQ t 3 10 (fun _ => none)))) a (some (.inr (0, [.ref q_1, .int 0, .null, .int 0, .null, .null, .null, .null, .int 0])))) q_6 (some (arQ t 4 120 (fun _ => none)))) a (some (.inr (0, [.ref q_1, .int 0, .ref q_6, .int 0, .null, .null, .null, .null, .int 0])))) q_13 (some (arQ t 4 60 (fun _ => none)))) a (some (.inr (0, [.ref q_1, .int 0, .ref q_6, .int 0, .ref q_13, .null, .null, .null, .int 0])))) q_22 (some (.inr (3, [.null, .null, .int 0])))) qn (some (arQ t 5 200 (fun _ => none)))) q_22 (some (.inr (3, [.ref qn, .null, .int 0])))) qd (some (arQ t 5 200 (fun _ => none)))) q_22 (some (cBr qn qd 0))) a (some (.inr (0, [.ref q_1, .int 0, .ref q_6, .int 0, .ref q_13, .ref q_22, .null, .null, .int 0])))) q_62 (some (.inr (1, [.null, .int 0])))) qy (some (arJ t 100 (fun _ => 0)))) q_62 (some (cCl qy 0 : va_E))
  have hP : hw D vwCl A (va_up (va_up (va_up (va_up (va_up (va_up (va_up (va_up (va_up (va_up (va_up (va_up (va_up (va_up (va_up g q_1 (some (arQ t 3 10 (fun _ => none)))) a (some (.inr (0, [.ref q_1, .int 0, .null, .int 0, .null, .null, .null, .null, .int 0])))) q_6 (some (arQ t 4 120 (fun _ => none)))) a (some (.inr (0, [.ref q_1, .int 0, .ref q_6, .int 0, .null, .null, .null, .null, .int 0])))) q_13 (some (arQ t 4 60 (fun _ => none)))) a (some (.inr (0, [.ref q_1, .int 0, .ref q_6, .int 0, .ref q_13, .null, .null, .null, .int 0])))) q_22 (some (.inr (3, [.null, .null, .int 0])))) qn (some (arQ t 5 200 (fun _ => none)))) q_22 (some (.inr (3, [.ref qn, .null, .int 0])))) qd (some (arQ t 5 200 (fun _ => none)))) q_22 (some (cBr qn qd 0))) a (some (.inr (0, [.ref q_1, .int 0, .ref q_6, .int 0, .ref q_13, .ref q_22, .null, .null, .int 0])))) q_62 (some (.inr (1, [.null, .int 0])))) qy (some (arJ t 100 (fun _ => 0)))) q_62 (some (cCl qy 0))) H := hP
  refine p_F_34 X hb hP hS he_87 (Nat.le_of_ble_eq_true rfl) rfl rfl rfl d_F_init_50 (fun H locs hP hS => ?_)
  have he_90 := up_at (o := some (.inr (0, [.ref q_1, .int 0, .ref q_6, .int 0, .ref q_13, .ref q_22, .ref q_62, .null, .int 0]))) he_81 (hw_kd he_81 he_87 rfl)
  have he_91 := up_at (o := some (.inr (0, [.ref q_1, .int 0, .ref q_6, .int 0, .ref q_13, .ref q_22, .ref q_62, .null, .int 0]))) he_82 (hw_kd he_82 he_87 rfl)
  have he_92 := up_at (o := some (.inr (0, [.ref q_1, .int 0, .ref q_6, .int 0, .ref q_13, .ref q_22, .ref q_62, .null, .int 0]))) he_83 (hw_kd he_83 he_87 rfl)
  have he_93 := up_at (o := some (.inr (0, [.ref q_1, .int 0, .ref q_6, .int 0, .ref q_13, .ref q_22, .ref q_62, .null, .int 0]))) he_84 (hw_kd he_84 he_87 rfl)
  have he_94 := up_at (o := some (.inr (0, [.ref q_1, .int 0, .ref q_6, .int 0, .ref q_13, .ref q_22, .ref q_62, .null, .int 0]))) he_85 (hw_kd he_85 he_87 rfl)
  have he_95 := up_at (o := some (.inr (0, [.ref q_1, .int 0, .ref q_6, .int 0, .ref q_13, .ref q_22, .ref q_62, .null, .int 0]))) he_86 (hw_kd he_86 he_87 rfl)
  have he_96 := up_at (o := some (.inr (0, [.ref q_1, .int 0, .ref q_6, .int 0, .ref q_13, .ref q_22, .ref q_62, .null, .int 0]))) he_88 (hw_kd he_88 he_87 rfl)
  have he_97 := up_at (o := some (.inr (0, [.ref q_1, .int 0, .ref q_6, .int 0, .ref q_13, .ref q_22, .ref q_62, .null, .int 0]))) he_89 (hw_kd he_89 he_87 rfl)
  have he_98 := va_up_self (va_up (va_up (va_up (va_up (va_up (va_up (va_up (va_up (va_up (va_up (va_up (va_up (va_up (va_up (va_up g q_1 (some (arQ t 3 10 (fun _ => none)))) a (some (.inr (0, [.ref q_1, .int 0, .null, .int 0, .null, .null, .null, .null, .int 0])))) q_6 (some (arQ t 4 120 (fun _ => none)))) a (some (.inr (0, [.ref q_1, .int 0, .ref q_6, .int 0, .null, .null, .null, .null, .int 0])))) q_13 (some (arQ t 4 60 (fun _ => none)))) a (some (.inr (0, [.ref q_1, .int 0, .ref q_6, .int 0, .ref q_13, .null, .null, .null, .int 0])))) q_22 (some (.inr (3, [.null, .null, .int 0])))) qn (some (arQ t 5 200 (fun _ => none)))) q_22 (some (.inr (3, [.ref qn, .null, .int 0])))) qd (some (arQ t 5 200 (fun _ => none)))) q_22 (some (cBr qn qd 0))) a (some (.inr (0, [.ref q_1, .int 0, .ref q_6, .int 0, .ref q_13, .ref q_22, .null, .null, .int 0])))) q_62 (some (.inr (1, [.null, .int 0])))) qy (some (arJ t 100 (fun _ => 0)))) q_62 (some (cCl qy 0))) a (some (.inr (0, [.ref q_1, .int 0, .ref q_6, .int 0, .ref q_13, .ref q_22, .ref q_62, .null, .int 0]) : va_E))
  have hP : hw D vwCl A (va_up (va_up (va_up (va_up (va_up (va_up (va_up (va_up (va_up (va_up (va_up (va_up (va_up (va_up (va_up (va_up g q_1 (some (arQ t 3 10 (fun _ => none)))) a (some (.inr (0, [.ref q_1, .int 0, .null, .int 0, .null, .null, .null, .null, .int 0])))) q_6 (some (arQ t 4 120 (fun _ => none)))) a (some (.inr (0, [.ref q_1, .int 0, .ref q_6, .int 0, .null, .null, .null, .null, .int 0])))) q_13 (some (arQ t 4 60 (fun _ => none)))) a (some (.inr (0, [.ref q_1, .int 0, .ref q_6, .int 0, .ref q_13, .null, .null, .null, .int 0])))) q_22 (some (.inr (3, [.null, .null, .int 0])))) qn (some (arQ t 5 200 (fun _ => none)))) q_22 (some (.inr (3, [.ref qn, .null, .int 0])))) qd (some (arQ t 5 200 (fun _ => none)))) q_22 (some (cBr qn qd 0))) a (some (.inr (0, [.ref q_1, .int 0, .ref q_6, .int 0, .ref q_13, .ref q_22, .null, .null, .int 0])))) q_62 (some (.inr (1, [.null, .int 0])))) qy (some (arJ t 100 (fun _ => 0)))) q_62 (some (cCl qy 0))) a (some (.inr (0, [.ref q_1, .int 0, .ref q_6, .int 0, .ref q_13, .ref q_22, .ref q_62, .null, .int 0])))) H := hP
  refine lv_aload_n hx hb d_F_init_53 rfl (lv_at hl 0 rfl) ?_
  refine lv_bipush (v := 30) hx hb d_F_init_54 (by decide) ?_
  refine h_newa (a0 := (30, .inr (.inl (fun _ => 0)))) (N' := 30) hx hb (hts _ (tbm 77 (by decide +kernel))) rfl hK hP hS hA 1 rfl (fun _ => by rw [vp_cell_l]; rfl) (by decide) (by decide) (by decide) (Nat.le_of_ble_eq_true rfl) (Nat.le_of_ble_eq_true rfl) d_F_init_56 (fun q_99 H hq_99 hP hS => ?_)
  have he_100 := up_at (o := some (arJ t 30 (fun _ => 0))) he_90 (hw_new he_90 hq_99)
  have he_101 := up_at (o := some (arJ t 30 (fun _ => 0))) he_91 (hw_new he_91 hq_99)
  have he_102 := up_at (o := some (arJ t 30 (fun _ => 0))) he_92 (hw_new he_92 hq_99)
  have he_103 := up_at (o := some (arJ t 30 (fun _ => 0))) he_93 (hw_new he_93 hq_99)
  have he_104 := up_at (o := some (arJ t 30 (fun _ => 0))) he_94 (hw_new he_94 hq_99)
  have he_105 := up_at (o := some (arJ t 30 (fun _ => 0))) he_95 (hw_new he_95 hq_99)
  have he_106 := up_at (o := some (arJ t 30 (fun _ => 0))) he_96 (hw_new he_96 hq_99)
  have he_107 := up_at (o := some (arJ t 30 (fun _ => 0))) he_97 (hw_new he_97 hq_99)
  have he_108 := up_at (o := some (arJ t 30 (fun _ => 0))) he_98 (hw_new he_98 hq_99)
  have he_109 := va_up_self (va_up (va_up (va_up (va_up (va_up (va_up (va_up (va_up (va_up (va_up (va_up (va_up (va_up (va_up (va_up (va_up g q_1 (some (arQ t 3 10 (fun _ => none)))) a (some (.inr (0, [.ref q_1, .int 0, .null, .int 0, .null, .null, .null, .null, .int 0])))) q_6 (some (arQ t 4 120 (fun _ => none)))) a (some (.inr (0, [.ref q_1, .int 0, .ref q_6, .int 0, .null, .null, .null, .null, .int 0])))) q_13 (some (arQ t 4 60 (fun _ => none)))) a (some (.inr (0, [.ref q_1, .int 0, .ref q_6, .int 0, .ref q_13, .null, .null, .null, .int 0])))) q_22 (some (.inr (3, [.null, .null, .int 0])))) qn (some (arQ t 5 200 (fun _ => none)))) q_22 (some (.inr (3, [.ref qn, .null, .int 0])))) qd (some (arQ t 5 200 (fun _ => none)))) q_22 (some (cBr qn qd 0))) a (some (.inr (0, [.ref q_1, .int 0, .ref q_6, .int 0, .ref q_13, .ref q_22, .null, .null, .int 0])))) q_62 (some (.inr (1, [.null, .int 0])))) qy (some (arJ t 100 (fun _ => 0)))) q_62 (some (cCl qy 0))) a (some (.inr (0, [.ref q_1, .int 0, .ref q_6, .int 0, .ref q_13, .ref q_22, .ref q_62, .null, .int 0])))) q_99 (some (arJ t 30 (fun _ => 0) : va_E))
  have hP : hw D vwCl A (va_up (va_up (va_up (va_up (va_up (va_up (va_up (va_up (va_up (va_up (va_up (va_up (va_up (va_up (va_up (va_up (va_up g q_1 (some (arQ t 3 10 (fun _ => none)))) a (some (.inr (0, [.ref q_1, .int 0, .null, .int 0, .null, .null, .null, .null, .int 0])))) q_6 (some (arQ t 4 120 (fun _ => none)))) a (some (.inr (0, [.ref q_1, .int 0, .ref q_6, .int 0, .null, .null, .null, .null, .int 0])))) q_13 (some (arQ t 4 60 (fun _ => none)))) a (some (.inr (0, [.ref q_1, .int 0, .ref q_6, .int 0, .ref q_13, .null, .null, .null, .int 0])))) q_22 (some (.inr (3, [.null, .null, .int 0])))) qn (some (arQ t 5 200 (fun _ => none)))) q_22 (some (.inr (3, [.ref qn, .null, .int 0])))) qd (some (arQ t 5 200 (fun _ => none)))) q_22 (some (cBr qn qd 0))) a (some (.inr (0, [.ref q_1, .int 0, .ref q_6, .int 0, .ref q_13, .ref q_22, .null, .null, .int 0])))) q_62 (some (.inr (1, [.null, .int 0])))) qy (some (arJ t 100 (fun _ => 0)))) q_62 (some (cCl qy 0))) a (some (.inr (0, [.ref q_1, .int 0, .ref q_6, .int 0, .ref q_13, .ref q_22, .ref q_62, .null, .int 0])))) q_99 (some (arJ t 30 (fun _ => 0)))) H := hP
  refine p_F_38 X hb hP hS he_108 (Nat.le_of_ble_eq_true rfl) rfl d_F_init_58 (fun H locs hP hS => ?_)
  have he_110 := up_at (o := some (.inr (0, [.ref q_1, .int 0, .ref q_6, .int 0, .ref q_13, .ref q_22, .ref q_62, .ref q_99, .int 0]))) he_100 (hw_kd he_100 he_108 rfl)
  have he_111 := up_at (o := some (.inr (0, [.ref q_1, .int 0, .ref q_6, .int 0, .ref q_13, .ref q_22, .ref q_62, .ref q_99, .int 0]))) he_101 (hw_kd he_101 he_108 rfl)
  have he_112 := up_at (o := some (.inr (0, [.ref q_1, .int 0, .ref q_6, .int 0, .ref q_13, .ref q_22, .ref q_62, .ref q_99, .int 0]))) he_102 (hw_kd he_102 he_108 rfl)
  have he_113 := up_at (o := some (.inr (0, [.ref q_1, .int 0, .ref q_6, .int 0, .ref q_13, .ref q_22, .ref q_62, .ref q_99, .int 0]))) he_103 (hw_kd he_103 he_108 rfl)
  have he_114 := up_at (o := some (.inr (0, [.ref q_1, .int 0, .ref q_6, .int 0, .ref q_13, .ref q_22, .ref q_62, .ref q_99, .int 0]))) he_104 (hw_kd he_104 he_108 rfl)
  have he_115 := up_at (o := some (.inr (0, [.ref q_1, .int 0, .ref q_6, .int 0, .ref q_13, .ref q_22, .ref q_62, .ref q_99, .int 0]))) he_105 (hw_kd he_105 he_108 rfl)
  have he_116 := up_at (o := some (.inr (0, [.ref q_1, .int 0, .ref q_6, .int 0, .ref q_13, .ref q_22, .ref q_62, .ref q_99, .int 0]))) he_106 (hw_kd he_106 he_108 rfl)
  have he_117 := up_at (o := some (.inr (0, [.ref q_1, .int 0, .ref q_6, .int 0, .ref q_13, .ref q_22, .ref q_62, .ref q_99, .int 0]))) he_107 (hw_kd he_107 he_108 rfl)
  have he_118 := up_at (o := some (.inr (0, [.ref q_1, .int 0, .ref q_6, .int 0, .ref q_13, .ref q_22, .ref q_62, .ref q_99, .int 0]))) he_109 (hw_kd he_109 he_108 rfl)
  have he_119 := va_up_self (va_up (va_up (va_up (va_up (va_up (va_up (va_up (va_up (va_up (va_up (va_up (va_up (va_up (va_up (va_up (va_up (va_up g q_1 (some (arQ t 3 10 (fun _ => none)))) a (some (.inr (0, [.ref q_1, .int 0, .null, .int 0, .null, .null, .null, .null, .int 0])))) q_6 (some (arQ t 4 120 (fun _ => none)))) a (some (.inr (0, [.ref q_1, .int 0, .ref q_6, .int 0, .null, .null, .null, .null, .int 0])))) q_13 (some (arQ t 4 60 (fun _ => none)))) a (some (.inr (0, [.ref q_1, .int 0, .ref q_6, .int 0, .ref q_13, .null, .null, .null, .int 0])))) q_22 (some (.inr (3, [.null, .null, .int 0])))) qn (some (arQ t 5 200 (fun _ => none)))) q_22 (some (.inr (3, [.ref qn, .null, .int 0])))) qd (some (arQ t 5 200 (fun _ => none)))) q_22 (some (cBr qn qd 0))) a (some (.inr (0, [.ref q_1, .int 0, .ref q_6, .int 0, .ref q_13, .ref q_22, .null, .null, .int 0])))) q_62 (some (.inr (1, [.null, .int 0])))) qy (some (arJ t 100 (fun _ => 0)))) q_62 (some (cCl qy 0))) a (some (.inr (0, [.ref q_1, .int 0, .ref q_6, .int 0, .ref q_13, .ref q_22, .ref q_62, .null, .int 0])))) q_99 (some (arJ t 30 (fun _ => 0)))) a (some (.inr (0, [.ref q_1, .int 0, .ref q_6, .int 0, .ref q_13, .ref q_22, .ref q_62, .ref q_99, .int 0]) : va_E))
  have hP : hw D vwCl A (va_up (va_up (va_up (va_up (va_up (va_up (va_up (va_up (va_up (va_up (va_up (va_up (va_up (va_up (va_up (va_up (va_up (va_up g q_1 (some (arQ t 3 10 (fun _ => none)))) a (some (.inr (0, [.ref q_1, .int 0, .null, .int 0, .null, .null, .null, .null, .int 0])))) q_6 (some (arQ t 4 120 (fun _ => none)))) a (some (.inr (0, [.ref q_1, .int 0, .ref q_6, .int 0, .null, .null, .null, .null, .int 0])))) q_13 (some (arQ t 4 60 (fun _ => none)))) a (some (.inr (0, [.ref q_1, .int 0, .ref q_6, .int 0, .ref q_13, .null, .null, .null, .int 0])))) q_22 (some (.inr (3, [.null, .null, .int 0])))) qn (some (arQ t 5 200 (fun _ => none)))) q_22 (some (.inr (3, [.ref qn, .null, .int 0])))) qd (some (arQ t 5 200 (fun _ => none)))) q_22 (some (cBr qn qd 0))) a (some (.inr (0, [.ref q_1, .int 0, .ref q_6, .int 0, .ref q_13, .ref q_22, .null, .null, .int 0])))) q_62 (some (.inr (1, [.null, .int 0])))) qy (some (arJ t 100 (fun _ => 0)))) q_62 (some (cCl qy 0))) a (some (.inr (0, [.ref q_1, .int 0, .ref q_6, .int 0, .ref q_13, .ref q_22, .ref q_62, .null, .int 0])))) q_99 (some (arJ t 30 (fun _ => 0)))) a (some (.inr (0, [.ref q_1, .int 0, .ref q_6, .int 0, .ref q_13, .ref q_22, .ref q_62, .ref q_99, .int 0])))) H := hP
  refine lv_aload_n hx hb d_F_init_61 rfl (lv_at hl 0 rfl) ?_
  refine lv_sipush (v := 1000) hx hb d_F_init_62 (by decide) ?_
  refine p_F_42 X hb hP hS he_119 (Nat.le_of_ble_eq_true rfl) d_F_init_65 (fun H locs hP hS => ?_)
  have he_120 := up_at (o := some (.inr (0, [.ref q_1, .int 0, .ref q_6, .int 0, .ref q_13, .ref q_22, .ref q_62, .ref q_99, .int 1000]))) he_110 (hw_kd he_110 he_119 rfl)
  have he_121 := up_at (o := some (.inr (0, [.ref q_1, .int 0, .ref q_6, .int 0, .ref q_13, .ref q_22, .ref q_62, .ref q_99, .int 1000]))) he_111 (hw_kd he_111 he_119 rfl)
  have he_122 := up_at (o := some (.inr (0, [.ref q_1, .int 0, .ref q_6, .int 0, .ref q_13, .ref q_22, .ref q_62, .ref q_99, .int 1000]))) he_112 (hw_kd he_112 he_119 rfl)
  have he_123 := up_at (o := some (.inr (0, [.ref q_1, .int 0, .ref q_6, .int 0, .ref q_13, .ref q_22, .ref q_62, .ref q_99, .int 1000]))) he_113 (hw_kd he_113 he_119 rfl)
  have he_124 := up_at (o := some (.inr (0, [.ref q_1, .int 0, .ref q_6, .int 0, .ref q_13, .ref q_22, .ref q_62, .ref q_99, .int 1000]))) he_114 (hw_kd he_114 he_119 rfl)
  have he_125 := up_at (o := some (.inr (0, [.ref q_1, .int 0, .ref q_6, .int 0, .ref q_13, .ref q_22, .ref q_62, .ref q_99, .int 1000]))) he_115 (hw_kd he_115 he_119 rfl)
  have he_126 := up_at (o := some (.inr (0, [.ref q_1, .int 0, .ref q_6, .int 0, .ref q_13, .ref q_22, .ref q_62, .ref q_99, .int 1000]))) he_116 (hw_kd he_116 he_119 rfl)
  have he_127 := up_at (o := some (.inr (0, [.ref q_1, .int 0, .ref q_6, .int 0, .ref q_13, .ref q_22, .ref q_62, .ref q_99, .int 1000]))) he_117 (hw_kd he_117 he_119 rfl)
  have he_128 := up_at (o := some (.inr (0, [.ref q_1, .int 0, .ref q_6, .int 0, .ref q_13, .ref q_22, .ref q_62, .ref q_99, .int 1000]))) he_118 (hw_kd he_118 he_119 rfl)
  have he_129 := va_up_self (va_up (va_up (va_up (va_up (va_up (va_up (va_up (va_up (va_up (va_up (va_up (va_up (va_up (va_up (va_up (va_up (va_up (va_up g q_1 (some (arQ t 3 10 (fun _ => none)))) a (some (.inr (0, [.ref q_1, .int 0, .null, .int 0, .null, .null, .null, .null, .int 0])))) q_6 (some (arQ t 4 120 (fun _ => none)))) a (some (.inr (0, [.ref q_1, .int 0, .ref q_6, .int 0, .null, .null, .null, .null, .int 0])))) q_13 (some (arQ t 4 60 (fun _ => none)))) a (some (.inr (0, [.ref q_1, .int 0, .ref q_6, .int 0, .ref q_13, .null, .null, .null, .int 0])))) q_22 (some (.inr (3, [.null, .null, .int 0])))) qn (some (arQ t 5 200 (fun _ => none)))) q_22 (some (.inr (3, [.ref qn, .null, .int 0])))) qd (some (arQ t 5 200 (fun _ => none)))) q_22 (some (cBr qn qd 0))) a (some (.inr (0, [.ref q_1, .int 0, .ref q_6, .int 0, .ref q_13, .ref q_22, .null, .null, .int 0])))) q_62 (some (.inr (1, [.null, .int 0])))) qy (some (arJ t 100 (fun _ => 0)))) q_62 (some (cCl qy 0))) a (some (.inr (0, [.ref q_1, .int 0, .ref q_6, .int 0, .ref q_13, .ref q_22, .ref q_62, .null, .int 0])))) q_99 (some (arJ t 30 (fun _ => 0)))) a (some (.inr (0, [.ref q_1, .int 0, .ref q_6, .int 0, .ref q_13, .ref q_22, .ref q_62, .ref q_99, .int 0])))) a (some (.inr (0, [.ref q_1, .int 0, .ref q_6, .int 0, .ref q_13, .ref q_22, .ref q_62, .ref q_99, .int 1000]) : va_E))
  have hP : hw D vwCl A (va_up (va_up (va_up (va_up (va_up (va_up (va_up (va_up (va_up (va_up (va_up (va_up (va_up (va_up (va_up (va_up (va_up (va_up (va_up g q_1 (some (arQ t 3 10 (fun _ => none)))) a (some (.inr (0, [.ref q_1, .int 0, .null, .int 0, .null, .null, .null, .null, .int 0])))) q_6 (some (arQ t 4 120 (fun _ => none)))) a (some (.inr (0, [.ref q_1, .int 0, .ref q_6, .int 0, .null, .null, .null, .null, .int 0])))) q_13 (some (arQ t 4 60 (fun _ => none)))) a (some (.inr (0, [.ref q_1, .int 0, .ref q_6, .int 0, .ref q_13, .null, .null, .null, .int 0])))) q_22 (some (.inr (3, [.null, .null, .int 0])))) qn (some (arQ t 5 200 (fun _ => none)))) q_22 (some (.inr (3, [.ref qn, .null, .int 0])))) qd (some (arQ t 5 200 (fun _ => none)))) q_22 (some (cBr qn qd 0))) a (some (.inr (0, [.ref q_1, .int 0, .ref q_6, .int 0, .ref q_13, .ref q_22, .null, .null, .int 0])))) q_62 (some (.inr (1, [.null, .int 0])))) qy (some (arJ t 100 (fun _ => 0)))) q_62 (some (cCl qy 0))) a (some (.inr (0, [.ref q_1, .int 0, .ref q_6, .int 0, .ref q_13, .ref q_22, .ref q_62, .null, .int 0])))) q_99 (some (arJ t 30 (fun _ => 0)))) a (some (.inr (0, [.ref q_1, .int 0, .ref q_6, .int 0, .ref q_13, .ref q_22, .ref q_62, .ref q_99, .int 0])))) a (some (.inr (0, [.ref q_1, .int 0, .ref q_6, .int 0, .ref q_13, .ref q_22, .ref q_62, .ref q_99, .int 1000])))) H := hP
  have hn78 : qn ≠ qd := hw_new he_39 hqd
  have n_q_1 : g q_1 = none := hq_1
  have n_q_6 : g q_6 = none := none_up (none_up (hq_6))
  have n_q_13 : g q_13 = none := none_up (none_up (none_up (none_up (hq_13))))
  have n_q_22 : g q_22 = none := none_up (none_up (none_up (none_up (none_up (none_up (hq_22))))))
  have n_q_62 : g q_62 = none := none_up (none_up (none_up (none_up (none_up (none_up (none_up (none_up (none_up (none_up (none_up (none_up (hq_62))))))))))))
  have n_q_99 : g q_99 = none := none_up (none_up (none_up (none_up (none_up (none_up (none_up (none_up (none_up (none_up (none_up (none_up (none_up (none_up (none_up (none_up (hq_99))))))))))))))))
  have n_qn : g qn = none := none_up (none_up (none_up (none_up (none_up (none_up (none_up (hqn)))))))
  have n_qd : g qd = none := none_up (none_up (none_up (none_up (none_up (none_up (none_up (none_up (none_up (hqd)))))))))
  have n_qy : g qy = none := none_up (none_up (none_up (none_up (none_up (none_up (none_up (none_up (none_up (none_up (none_up (none_up (none_up (hqy)))))))))))))
  have hRR : RCx (fun z => z = a ∨ g z = none) t (adM a q_1 q_6 q_13 q_22 q_62 q_99 qn qd qy) σ0 (va_up (va_up (va_up (va_up (va_up (va_up (va_up (va_up (va_up (va_up (va_up (va_up (va_up (va_up (va_up (va_up (va_up (va_up (va_up g q_1 (some (arQ t 3 10 (fun _ => none)))) a (some (.inr (0, [.ref q_1, .int 0, .null, .int 0, .null, .null, .null, .null, .int 0])))) q_6 (some (arQ t 4 120 (fun _ => none)))) a (some (.inr (0, [.ref q_1, .int 0, .ref q_6, .int 0, .null, .null, .null, .null, .int 0])))) q_13 (some (arQ t 4 60 (fun _ => none)))) a (some (.inr (0, [.ref q_1, .int 0, .ref q_6, .int 0, .ref q_13, .null, .null, .null, .int 0])))) q_22 (some (.inr (3, [.null, .null, .int 0])))) qn (some (arQ t 5 200 (fun _ => none)))) q_22 (some (.inr (3, [.ref qn, .null, .int 0])))) qd (some (arQ t 5 200 (fun _ => none)))) q_22 (some (cBr qn qd 0))) a (some (.inr (0, [.ref q_1, .int 0, .ref q_6, .int 0, .ref q_13, .ref q_22, .null, .null, .int 0])))) q_62 (some (.inr (1, [.null, .int 0])))) qy (some (arJ t 100 (fun _ => 0)))) q_62 (some (cCl qy 0))) a (some (.inr (0, [.ref q_1, .int 0, .ref q_6, .int 0, .ref q_13, .ref q_22, .ref q_62, .null, .int 0])))) q_99 (some (arJ t 30 (fun _ => 0)))) a (some (.inr (0, [.ref q_1, .int 0, .ref q_6, .int 0, .ref q_13, .ref q_22, .ref q_62, .ref q_99, .int 0])))) a (some (.inr (0, [.ref q_1, .int 0, .ref q_6, .int 0, .ref q_13, .ref q_22, .ref q_62, .ref q_99, .int 1000])))) := by
    refine ⟨fun _ => 0, fun _ => 0, fun _ => 0, _, _, _, _, _, he_129, ⟨he_120, fun k hk => absurd hk (Nat.not_lt_zero k)⟩, ⟨he_121, fun k hk => absurd hk (Nat.not_lt_zero k)⟩, ⟨he_122, fun i hi => rfl⟩, he_125, he_127, he_128, ⟨he_123, fun k hk => absurd hk (Nat.not_lt_zero k)⟩, ⟨he_124, fun k hk => absurd hk (Nat.not_lt_zero k)⟩, he_126, fun k hk => absurd hk (Nat.not_lt_zero k), fun k hk => absurd hk (Nat.not_lt_zero k), fun k hk => absurd hk (Nat.not_lt_zero k), hn78, ⟨fun i j hi => absurd hi (Nat.not_lt_zero i), fun i j hi => absurd hi (Nat.not_lt_zero i), fun i j hi => absurd hi (Nat.not_lt_zero i)⟩, fun i hi => ?_, fun k hk => absurd hk (Nat.not_lt_zero k), fun k hk => absurd hk (Nat.not_lt_zero k), fun k hk => absurd hk (Nat.not_lt_zero k)⟩
    match i, hi with
    | 0, _ => exact Or.inl rfl
    | 1, _ => exact Or.inr n_q_1
    | 2, _ => exact Or.inr n_q_6
    | 3, _ => exact Or.inr n_q_13
    | 4, _ => exact Or.inr n_q_22
    | 5, _ => exact Or.inr n_q_62
    | 6, _ => exact Or.inr n_q_99
    | 7, _ => exact Or.inr n_qn
    | 8, _ => exact Or.inr n_qd
    | 9, _ => exact Or.inr n_qy
    | n + 10, h => exact absurd h (by omega)
  have hKK : Keep (fun z => z = a) g (va_up (va_up (va_up (va_up (va_up (va_up (va_up (va_up (va_up (va_up (va_up (va_up (va_up (va_up (va_up (va_up (va_up (va_up (va_up g q_1 (some (arQ t 3 10 (fun _ => none)))) a (some (.inr (0, [.ref q_1, .int 0, .null, .int 0, .null, .null, .null, .null, .int 0])))) q_6 (some (arQ t 4 120 (fun _ => none)))) a (some (.inr (0, [.ref q_1, .int 0, .ref q_6, .int 0, .null, .null, .null, .null, .int 0])))) q_13 (some (arQ t 4 60 (fun _ => none)))) a (some (.inr (0, [.ref q_1, .int 0, .ref q_6, .int 0, .ref q_13, .null, .null, .null, .int 0])))) q_22 (some (.inr (3, [.null, .null, .int 0])))) qn (some (arQ t 5 200 (fun _ => none)))) q_22 (some (.inr (3, [.ref qn, .null, .int 0])))) qd (some (arQ t 5 200 (fun _ => none)))) q_22 (some (cBr qn qd 0))) a (some (.inr (0, [.ref q_1, .int 0, .ref q_6, .int 0, .ref q_13, .ref q_22, .null, .null, .int 0])))) q_62 (some (.inr (1, [.null, .int 0])))) qy (some (arJ t 100 (fun _ => 0)))) q_62 (some (cCl qy 0))) a (some (.inr (0, [.ref q_1, .int 0, .ref q_6, .int 0, .ref q_13, .ref q_22, .ref q_62, .null, .int 0])))) q_99 (some (arJ t 30 (fun _ => 0)))) a (some (.inr (0, [.ref q_1, .int 0, .ref q_6, .int 0, .ref q_13, .ref q_22, .ref q_62, .ref q_99, .int 0])))) a (some (.inr (0, [.ref q_1, .int 0, .ref q_6, .int 0, .ref q_13, .ref q_22, .ref q_62, .ref q_99, .int 1000])))) := Keep.up (Keep.up (Keep.up (Keep.up (Keep.up (Keep.up (Keep.up (Keep.up (Keep.up (Keep.up (Keep.up (Keep.up (Keep.up (Keep.up (Keep.up (Keep.up (Keep.up (Keep.up (Keep.up (Keep.rf) (Or.inr n_q_1)) (Or.inl rfl)) (Or.inr n_q_6)) (Or.inl rfl)) (Or.inr n_q_13)) (Or.inl rfl)) (Or.inr n_q_22)) (Or.inr n_qn)) (Or.inr n_q_22)) (Or.inr n_qd)) (Or.inr n_q_22)) (Or.inl rfl)) (Or.inr n_q_62)) (Or.inr n_qy)) (Or.inr n_q_62)) (Or.inl rfl)) (Or.inr n_q_99)) (Or.inl rfl)) (Or.inl rfl)
  exact h_vret hx hb hr hlocks (Nat.le_of_ble_eq_true rfl) (Nat.le_of_ble_eq_true rfl) hP hS (⟨adM a q_1 q_6 q_13 q_22 q_62 q_99 qn qd qy, rfl, hRR, hKK⟩) d_F_init_68
theorem k_W_15 {p : Program} {l : Launch} {e : Env} {R : Room} {s : State} {m : MethodId} {args : Array Value} {below : List Frame} {meth : Method} {c : Code} {H : Heap} {locs : List Loc} {cells slots : Nat} {Q : State → Prop} {cc : ByteArray} {pc : Nat} {ls : Array Slot} {rest : List Value} {D : va_G} {A : Nat → Prop} {t : Nat → ClassId} {g : hG} {nL : Nat} {ret0 : Option FieldType} {nm : String} (X : Cx p s m args meth c R_W cc nL ret0 TB D vwCl (tyL t) EX A nm) (hR : 2 + 1 ≤ R.frames ∧ 8 + (1 + 11) + 44 ≤ R.locals) (hf : cells + 9 ≤ R.cells ∧ slots + 725 ≤ R.slots) (hls : ls.size = nL) (hP : hw D vwCl A g H) (hS : va_S A s.heap H locs) {a : Nat} (he : g a = some (.inr (0, [.null, .int 0, .null, .int 0, .null, .null, .null, .null, .int 0]))) (hW : (rest.map fun v => v.category).sum ≤ 8) (hdg : decode cc pc = .ok (.invokespecial 15, 3)) (kk : ∀ (u : hG) (H1 : Heap) (locs1 : List Loc), ((fun u => ∃ ad, ad 0 = a ∧ RCx (fun z => z = a ∨ g z = none) t ad σ0 u ∧ Keep (fun z => z = a) g u) u) → hw D vwCl A u H1 → va_S A s.heap H1 locs1 → W p l e R s m args below meth c H1 locs1 (cells + 9) (slots + 725) Q (F0 m (pc + 3) ls rest)) : W p l e R s m args below meth c H locs cells slots Q (F0 m pc ls (.ref a :: rest)) :=
  h_cv (runI X (c_F_init l D t A g a he) (tbm 34 (by decide +kernel)) (tbm 35 (by decide +kernel)) (tbm 20 (by decide +kernel)) (tbm 36 (by decide +kernel)) rfl (n := 0) (by decide +kernel) hR hf hP hS hls rfl rfl hW hdg) hS kk
end
section
theorem d_M_init_0 : decode b_M_init 0 = .ok (.aload_n 0, 1) := by decide +kernel
theorem d_M_init_1 : decode b_M_init 1 = .ok (.invokespecial 1, 3) := by decide +kernel
theorem d_M_init_4 : decode b_M_init 4 = .ok (.aload_n 0, 1) := by decide +kernel
theorem d_M_init_5 : decode b_M_init 5 = .ok (.bipush 10, 2) := by decide +kernel
theorem d_M_init_7 : decode b_M_init 7 = .ok (.newarray .int, 2) := by decide +kernel
theorem d_M_init_9 : decode b_M_init 9 = .ok (.putfield 7, 3) := by decide +kernel
theorem d_M_init_12 : decode b_M_init 12 = .ok (.aload_n 0, 1) := by decide +kernel
theorem d_M_init_13 : decode b_M_init 13 = .ok (.bipush 10, 2) := by decide +kernel
theorem d_M_init_15 : decode b_M_init 15 = .ok (.newarray .int, 2) := by decide +kernel
theorem d_M_init_17 : decode b_M_init 17 = .ok (.putfield 13, 3) := by decide +kernel
theorem d_M_init_20 : decode b_M_init 20 = .ok (.aload_n 0, 1) := by decide +kernel
theorem d_M_init_21 : decode b_M_init 21 = .ok (.bipush 10, 2) := by decide +kernel
theorem d_M_init_23 : decode b_M_init 23 = .ok (.newarray .int, 2) := by decide +kernel
theorem d_M_init_25 : decode b_M_init 25 = .ok (.putfield 16, 3) := by decide +kernel
theorem d_M_init_28 : decode b_M_init 28 = .ok (.aload_n 0, 1) := by decide +kernel
theorem d_M_init_29 : decode b_M_init 29 = .ok (.bipush 10, 2) := by decide +kernel
theorem d_M_init_31 : decode b_M_init 31 = .ok (.newarray .int, 2) := by decide +kernel
theorem d_M_init_33 : decode b_M_init 33 = .ok (.putfield 19, 3) := by decide +kernel
theorem d_M_init_36 : decode b_M_init 36 = .ok (.aload_n 0, 1) := by decide +kernel
theorem d_M_init_37 : decode b_M_init 37 = .ok (.bipush 10, 2) := by decide +kernel
theorem d_M_init_39 : decode b_M_init 39 = .ok (.newarray .int, 2) := by decide +kernel
theorem d_M_init_41 : decode b_M_init 41 = .ok (.putfield 22, 3) := by decide +kernel
theorem d_M_init_44 : decode b_M_init 44 = .ok (.aload_n 0, 1) := by decide +kernel
theorem d_M_init_45 : decode b_M_init 45 = .ok (.bipush 100, 2) := by decide +kernel
theorem d_M_init_47 : decode b_M_init 47 = .ok (.newarray .long, 2) := by decide +kernel
theorem d_M_init_49 : decode b_M_init 49 = .ok (.putfield 25, 3) := by decide +kernel
theorem d_M_init_52 : decode b_M_init 52 = .ok (.aload_n 0, 1) := by decide +kernel
theorem d_M_init_53 : decode b_M_init 53 = .ok (.bipush 121, 2) := by decide +kernel
theorem d_M_init_55 : decode b_M_init 55 = .ok (.newarray .int, 2) := by decide +kernel
theorem d_M_init_57 : decode b_M_init 57 = .ok (.putfield 29, 3) := by decide +kernel
theorem d_M_init_60 : decode b_M_init 60 = .ok (.aload_n 0, 1) := by decide +kernel
theorem d_M_init_61 : decode b_M_init 61 = .ok (.bipush 121, 2) := by decide +kernel
theorem d_M_init_63 : decode b_M_init 63 = .ok (.newarray .int, 2) := by decide +kernel
theorem d_M_init_65 : decode b_M_init 65 = .ok (.putfield 32, 3) := by decide +kernel
theorem d_M_init_68 : decode b_M_init 68 = .ok (.aload_n 0, 1) := by decide +kernel
theorem d_M_init_69 : decode b_M_init 69 = .ok (.bipush 121, 2) := by decide +kernel
theorem d_M_init_71 : decode b_M_init 71 = .ok (.newarray .int, 2) := by decide +kernel
theorem d_M_init_73 : decode b_M_init 73 = .ok (.putfield 35, 3) := by decide +kernel
theorem d_M_init_76 : decode b_M_init 76 = .ok (.aload_n 0, 1) := by decide +kernel
theorem d_M_init_77 : decode b_M_init 77 = .ok (.bipush 121, 2) := by decide +kernel
theorem d_M_init_79 : decode b_M_init 79 = .ok (.newarray .int, 2) := by decide +kernel
theorem d_M_init_81 : decode b_M_init 81 = .ok (.putfield 38, 3) := by decide +kernel
theorem d_M_init_84 : decode b_M_init 84 = .ok (.aload_n 0, 1) := by decide +kernel
theorem d_M_init_85 : decode b_M_init 85 = .ok (.bipush 121, 2) := by decide +kernel
theorem d_M_init_87 : decode b_M_init 87 = .ok (.newarray .int, 2) := by decide +kernel
theorem d_M_init_89 : decode b_M_init 89 = .ok (.putfield 41, 3) := by decide +kernel
theorem d_M_init_92 : decode b_M_init 92 = .ok (.aload_n 0, 1) := by decide +kernel
theorem d_M_init_93 : decode b_M_init 93 = .ok (.bipush 121, 2) := by decide +kernel
theorem d_M_init_95 : decode b_M_init 95 = .ok (.newarray .long, 2) := by decide +kernel
theorem d_M_init_97 : decode b_M_init 97 = .ok (.putfield 44, 3) := by decide +kernel
theorem d_M_init_100 : decode b_M_init 100 = .ok (.aload_n 0, 1) := by decide +kernel
theorem d_M_init_101 : decode b_M_init 101 = .ok (.sipush 201, 3) := by decide +kernel
theorem d_M_init_104 : decode b_M_init 104 = .ok (.newarray .int, 2) := by decide +kernel
theorem d_M_init_106 : decode b_M_init 106 = .ok (.putfield 47, 3) := by decide +kernel
theorem d_M_init_109 : decode b_M_init 109 = .ok (.aload_n 0, 1) := by decide +kernel
theorem d_M_init_110 : decode b_M_init 110 = .ok (.sipush 201, 3) := by decide +kernel
theorem d_M_init_113 : decode b_M_init 113 = .ok (.newarray .int, 2) := by decide +kernel
theorem d_M_init_115 : decode b_M_init 115 = .ok (.putfield 50, 3) := by decide +kernel
theorem d_M_init_118 : decode b_M_init 118 = .ok (.aload_n 0, 1) := by decide +kernel
theorem d_M_init_119 : decode b_M_init 119 = .ok (.sipush 201, 3) := by decide +kernel
theorem d_M_init_122 : decode b_M_init 122 = .ok (.newarray .int, 2) := by decide +kernel
theorem d_M_init_124 : decode b_M_init 124 = .ok (.putfield 53, 3) := by decide +kernel
theorem d_M_init_127 : decode b_M_init 127 = .ok (.aload_n 0, 1) := by decide +kernel
theorem d_M_init_128 : decode b_M_init 128 = .ok (.sipush 201, 3) := by decide +kernel
theorem d_M_init_131 : decode b_M_init 131 = .ok (.newarray .int, 2) := by decide +kernel
theorem d_M_init_133 : decode b_M_init 133 = .ok (.putfield 56, 3) := by decide +kernel
theorem d_M_init_136 : decode b_M_init 136 = .ok (.aload_n 0, 1) := by decide +kernel
theorem d_M_init_137 : decode b_M_init 137 = .ok (.sipush 201, 3) := by decide +kernel
theorem d_M_init_140 : decode b_M_init 140 = .ok (.newarray .int, 2) := by decide +kernel
theorem d_M_init_142 : decode b_M_init 142 = .ok (.putfield 59, 3) := by decide +kernel
theorem d_M_init_145 : decode b_M_init 145 = .ok (.aload_n 0, 1) := by decide +kernel
theorem d_M_init_146 : decode b_M_init 146 = .ok (.sipush 201, 3) := by decide +kernel
theorem d_M_init_149 : decode b_M_init 149 = .ok (.newarray .long, 2) := by decide +kernel
theorem d_M_init_151 : decode b_M_init 151 = .ok (.putfield 62, 3) := by decide +kernel
theorem d_M_init_154 : decode b_M_init 154 = .ok (.aload_n 0, 1) := by decide +kernel
theorem d_M_init_155 : decode b_M_init 155 = .ok (.sipush 201, 3) := by decide +kernel
theorem d_M_init_158 : decode b_M_init 158 = .ok (.newarray .boolean, 2) := by decide +kernel
theorem d_M_init_160 : decode b_M_init 160 = .ok (.putfield 65, 3) := by decide +kernel
theorem d_M_init_163 : decode b_M_init 163 = .ok (.aload_n 0, 1) := by decide +kernel
theorem d_M_init_164 : decode b_M_init 164 = .ok (.bipush 30, 2) := by decide +kernel
theorem d_M_init_166 : decode b_M_init 166 = .ok (.newarray .long, 2) := by decide +kernel
theorem d_M_init_168 : decode b_M_init 168 = .ok (.putfield 69, 3) := by decide +kernel
theorem d_M_init_171 : decode b_M_init 171 = .ok (.aload_n 0, 1) := by decide +kernel
theorem d_M_init_172 : decode b_M_init 172 = .ok (.sipush 1000, 3) := by decide +kernel
theorem d_M_init_175 : decode b_M_init 175 = .ok (.putfield 72, 3) := by decide +kernel
theorem d_M_init_178 : decode b_M_init 178 = .ok (.return_, 1) := by decide +kernel
theorem d_M_thrown_0 : decode b_M_thrown 0 = .ok (.aload_n 0, 1) := by decide +kernel
theorem d_M_thrown_1 : decode b_M_thrown 1 = .ok (.getfield 76, 3) := by decide +kernel
theorem d_M_thrown_4 : decode b_M_thrown 4 = .ok (.ireturn, 1) := by decide +kernel
theorem d_M_in_0 : decode b_M_in 0 = .ok (.lload_n 0, 1) := by decide +kernel
theorem d_M_in_1 : decode b_M_in 1 = .ok (.lload_n 2, 1) := by decide +kernel
theorem d_M_in_2 : decode b_M_in 2 = .ok (.lcmp, 1) := by decide +kernel
theorem d_M_in_3 : decode b_M_in 3 = .ok (.ifCond .lt 14, 3) := by decide +kernel
theorem d_M_in_6 : decode b_M_in 6 = .ok (.lload_n 0, 1) := by decide +kernel
theorem d_M_in_7 : decode b_M_in 7 = .ok (.lload 4, 2) := by decide +kernel
theorem d_M_in_9 : decode b_M_in 9 = .ok (.lcmp, 1) := by decide +kernel
theorem d_M_in_10 : decode b_M_in 10 = .ok (.ifCond .gt 7, 3) := by decide +kernel
theorem d_M_in_13 : decode b_M_in 13 = .ok (.iconst 1, 1) := by decide +kernel
theorem d_M_in_14 : decode b_M_in 14 = .ok (.goto 4, 3) := by decide +kernel
theorem d_M_in_17 : decode b_M_in 17 = .ok (.iconst 0, 1) := by decide +kernel
theorem d_M_in_18 : decode b_M_in 18 = .ok (.ireturn, 1) := by decide +kernel
theorem d_M_isDay_0 : decode b_M_isDay 0 = .ok (.lload_n 0, 1) := by decide +kernel
theorem d_M_isDay_1 : decode b_M_isDay 1 = .ok (.lconst 0, 1) := by decide +kernel
theorem d_M_isDay_2 : decode b_M_isDay 2 = .ok (.ldc2_w 79, 3) := by decide +kernel
theorem d_M_isDay_5 : decode b_M_isDay 5 = .ok (.invokestatic 81, 3) := by decide +kernel
theorem d_M_isDay_8 : decode b_M_isDay 8 = .ok (.ireturn, 1) := by decide +kernel
theorem d_M_rule_0 : decode b_M_rule 0 = .ok (.aload_n 0, 1) := by decide +kernel
theorem d_M_rule_1 : decode b_M_rule 1 = .ok (.iconst 0, 1) := by decide +kernel
theorem d_M_rule_2 : decode b_M_rule 2 = .ok (.putfield 76, 3) := by decide +kernel
theorem d_M_rule_5 : decode b_M_rule 5 = .ok (.iload_n 1, 1) := by decide +kernel
theorem d_M_rule_6 : decode b_M_rule 6 = .ok (.i2l, 1) := by decide +kernel
theorem d_M_rule_7 : decode b_M_rule 7 = .ok (.lconst 0, 1) := by decide +kernel
theorem d_M_rule_8 : decode b_M_rule 8 = .ok (.ldc2_w 85, 3) := by decide +kernel
theorem d_M_rule_11 : decode b_M_rule 11 = .ok (.invokestatic 81, 3) := by decide +kernel
theorem d_M_rule_14 : decode b_M_rule 14 = .ok (.ifCond .eq 36, 3) := by decide +kernel
theorem d_M_rule_17 : decode b_M_rule 17 = .ok (.iload_n 2, 1) := by decide +kernel
theorem d_M_rule_18 : decode b_M_rule 18 = .ok (.i2l, 1) := by decide +kernel
theorem d_M_rule_19 : decode b_M_rule 19 = .ok (.lconst 0, 1) := by decide +kernel
theorem d_M_rule_20 : decode b_M_rule 20 = .ok (.ldc2_w 87, 3) := by decide +kernel
theorem d_M_rule_23 : decode b_M_rule 23 = .ok (.invokestatic 81, 3) := by decide +kernel
theorem d_M_rule_26 : decode b_M_rule 26 = .ok (.ifCond .eq 24, 3) := by decide +kernel
theorem d_M_rule_29 : decode b_M_rule 29 = .ok (.iload_n 3, 1) := by decide +kernel
theorem d_M_rule_30 : decode b_M_rule 30 = .ok (.i2l, 1) := by decide +kernel
theorem d_M_rule_31 : decode b_M_rule 31 = .ok (.lconst 0, 1) := by decide +kernel
theorem d_M_rule_32 : decode b_M_rule 32 = .ok (.ldc2_w 89, 3) := by decide +kernel
theorem d_M_rule_35 : decode b_M_rule 35 = .ok (.invokestatic 81, 3) := by decide +kernel
theorem d_M_rule_38 : decode b_M_rule 38 = .ok (.ifCond .eq 12, 3) := by decide +kernel
theorem d_M_rule_41 : decode b_M_rule 41 = .ok (.aload_n 0, 1) := by decide +kernel
theorem d_M_rule_42 : decode b_M_rule 42 = .ok (.getfield 91, 3) := by decide +kernel
theorem d_M_rule_45 : decode b_M_rule 45 = .ok (.bipush 10, 2) := by decide +kernel
theorem d_M_rule_47 : decode b_M_rule 47 = .ok (.if_icmp .ne 5, 3) := by decide +kernel
theorem d_M_rule_50 : decode b_M_rule 50 = .ok (.iconst (-1), 1) := by decide +kernel
theorem d_M_rule_51 : decode b_M_rule 51 = .ok (.ireturn, 1) := by decide +kernel
theorem d_M_rule_52 : decode b_M_rule 52 = .ok (.aload_n 0, 1) := by decide +kernel
theorem d_M_rule_53 : decode b_M_rule 53 = .ok (.getfield 7, 3) := by decide +kernel
theorem d_M_rule_56 : decode b_M_rule 56 = .ok (.aload_n 0, 1) := by decide +kernel
theorem d_M_rule_57 : decode b_M_rule 57 = .ok (.getfield 91, 3) := by decide +kernel
theorem d_M_rule_60 : decode b_M_rule 60 = .ok (.iload_n 1, 1) := by decide +kernel
theorem d_M_rule_61 : decode b_M_rule 61 = .ok (.iastore, 1) := by decide +kernel
theorem d_M_rule_62 : decode b_M_rule 62 = .ok (.aload_n 0, 1) := by decide +kernel
theorem d_M_rule_63 : decode b_M_rule 63 = .ok (.getfield 13, 3) := by decide +kernel
theorem d_M_rule_66 : decode b_M_rule 66 = .ok (.aload_n 0, 1) := by decide +kernel
theorem d_M_rule_67 : decode b_M_rule 67 = .ok (.getfield 91, 3) := by decide +kernel
theorem d_M_rule_70 : decode b_M_rule 70 = .ok (.iload_n 2, 1) := by decide +kernel
theorem d_M_rule_71 : decode b_M_rule 71 = .ok (.iastore, 1) := by decide +kernel
theorem d_M_rule_72 : decode b_M_rule 72 = .ok (.aload_n 0, 1) := by decide +kernel
theorem d_M_rule_73 : decode b_M_rule 73 = .ok (.getfield 16, 3) := by decide +kernel
theorem d_M_rule_76 : decode b_M_rule 76 = .ok (.aload_n 0, 1) := by decide +kernel
theorem d_M_rule_77 : decode b_M_rule 77 = .ok (.getfield 91, 3) := by decide +kernel
theorem d_M_rule_80 : decode b_M_rule 80 = .ok (.iload_n 3, 1) := by decide +kernel
theorem d_M_rule_81 : decode b_M_rule 81 = .ok (.iastore, 1) := by decide +kernel
theorem d_M_rule_82 : decode b_M_rule 82 = .ok (.aload_n 0, 1) := by decide +kernel
theorem d_M_rule_83 : decode b_M_rule 83 = .ok (.getfield 19, 3) := by decide +kernel
theorem d_M_rule_86 : decode b_M_rule 86 = .ok (.aload_n 0, 1) := by decide +kernel
theorem d_M_rule_87 : decode b_M_rule 87 = .ok (.getfield 91, 3) := by decide +kernel
theorem d_M_rule_90 : decode b_M_rule 90 = .ok (.iconst 0, 1) := by decide +kernel
theorem d_M_rule_91 : decode b_M_rule 91 = .ok (.iastore, 1) := by decide +kernel
theorem d_M_rule_92 : decode b_M_rule 92 = .ok (.aload_n 0, 1) := by decide +kernel
theorem d_M_rule_93 : decode b_M_rule 93 = .ok (.getfield 22, 3) := by decide +kernel
theorem d_M_rule_96 : decode b_M_rule 96 = .ok (.aload_n 0, 1) := by decide +kernel
theorem d_M_rule_97 : decode b_M_rule 97 = .ok (.getfield 91, 3) := by decide +kernel
theorem d_M_rule_100 : decode b_M_rule 100 = .ok (.iconst 1, 1) := by decide +kernel
theorem d_M_rule_101 : decode b_M_rule 101 = .ok (.iastore, 1) := by decide +kernel
theorem d_M_rule_102 : decode b_M_rule 102 = .ok (.aload_n 0, 1) := by decide +kernel
theorem d_M_rule_103 : decode b_M_rule 103 = .ok (.dup, 1) := by decide +kernel
theorem d_M_rule_104 : decode b_M_rule 104 = .ok (.getfield 91, 3) := by decide +kernel
theorem d_M_rule_107 : decode b_M_rule 107 = .ok (.iconst 1, 1) := by decide +kernel
theorem d_M_rule_108 : decode b_M_rule 108 = .ok (.iadd, 1) := by decide +kernel
theorem d_M_rule_109 : decode b_M_rule 109 = .ok (.putfield 91, 3) := by decide +kernel
theorem d_M_rule_112 : decode b_M_rule 112 = .ok (.aload_n 0, 1) := by decide +kernel
theorem d_M_rule_113 : decode b_M_rule 113 = .ok (.getfield 91, 3) := by decide +kernel
theorem d_M_rule_116 : decode b_M_rule 116 = .ok (.iconst 1, 1) := by decide +kernel
theorem d_M_rule_117 : decode b_M_rule 117 = .ok (.isub, 1) := by decide +kernel
theorem d_M_rule_118 : decode b_M_rule 118 = .ok (.ireturn, 1) := by decide +kernel
theorem d_M_interest_0 : decode b_M_interest 0 = .ok (.iload_n 1, 1) := by decide +kernel
theorem d_M_interest_1 : decode b_M_interest 1 = .ok (.i2l, 1) := by decide +kernel
theorem d_M_interest_2 : decode b_M_interest 2 = .ok (.lconst 0, 1) := by decide +kernel
theorem d_M_interest_3 : decode b_M_interest 3 = .ok (.aload_n 0, 1) := by decide +kernel
theorem d_M_interest_4 : decode b_M_interest 4 = .ok (.getfield 91, 3) := by decide +kernel
theorem d_M_interest_7 : decode b_M_interest 7 = .ok (.iconst 1, 1) := by decide +kernel
theorem d_M_interest_8 : decode b_M_interest 8 = .ok (.isub, 1) := by decide +kernel
theorem d_M_interest_9 : decode b_M_interest 9 = .ok (.i2l, 1) := by decide +kernel
theorem d_M_interest_10 : decode b_M_interest 10 = .ok (.invokestatic 81, 3) := by decide +kernel
theorem d_M_interest_13 : decode b_M_interest 13 = .ok (.ifCond .eq 31, 3) := by decide +kernel
theorem d_M_interest_16 : decode b_M_interest 16 = .ok (.iload_n 2, 1) := by decide +kernel
theorem d_M_interest_17 : decode b_M_interest 17 = .ok (.i2l, 1) := by decide +kernel
theorem d_M_interest_18 : decode b_M_interest 18 = .ok (.lconst 0, 1) := by decide +kernel
theorem d_M_interest_19 : decode b_M_interest 19 = .ok (.ldc2_w 94, 3) := by decide +kernel
theorem d_M_interest_22 : decode b_M_interest 22 = .ok (.invokestatic 81, 3) := by decide +kernel
theorem d_M_interest_25 : decode b_M_interest 25 = .ok (.ifCond .eq 19, 3) := by decide +kernel
theorem d_M_interest_28 : decode b_M_interest 28 = .ok (.iload_n 3, 1) := by decide +kernel
theorem d_M_interest_29 : decode b_M_interest 29 = .ok (.i2l, 1) := by decide +kernel
theorem d_M_interest_30 : decode b_M_interest 30 = .ok (.lconst 0, 1) := by decide +kernel
theorem d_M_interest_31 : decode b_M_interest 31 = .ok (.ldc2_w 79, 3) := by decide +kernel
theorem d_M_interest_34 : decode b_M_interest 34 = .ok (.invokestatic 81, 3) := by decide +kernel
theorem d_M_interest_37 : decode b_M_interest 37 = .ok (.ifCond .eq 7, 3) := by decide +kernel
theorem d_M_interest_40 : decode b_M_interest 40 = .ok (.iconst 1, 1) := by decide +kernel
theorem d_M_interest_41 : decode b_M_interest 41 = .ok (.goto 4, 3) := by decide +kernel
theorem d_M_interest_44 : decode b_M_interest 44 = .ok (.iconst 0, 1) := by decide +kernel
theorem d_M_interest_45 : decode b_M_interest 45 = .ok (.istore 4, 2) := by decide +kernel
theorem d_M_interest_47 : decode b_M_interest 47 = .ok (.aload_n 0, 1) := by decide +kernel
theorem d_M_interest_48 : decode b_M_interest 48 = .ok (.iload 4, 2) := by decide +kernel
theorem d_M_interest_50 : decode b_M_interest 50 = .ok (.ifCond .eq 11, 3) := by decide +kernel
theorem d_M_interest_53 : decode b_M_interest 53 = .ok (.iload_n 3, 1) := by decide +kernel
theorem d_M_interest_54 : decode b_M_interest 54 = .ok (.ifCond .ne 7, 3) := by decide +kernel
theorem d_M_interest_57 : decode b_M_interest 57 = .ok (.iconst 1, 1) := by decide +kernel
theorem d_M_interest_58 : decode b_M_interest 58 = .ok (.goto 4, 3) := by decide +kernel
theorem d_M_interest_61 : decode b_M_interest 61 = .ok (.iconst 0, 1) := by decide +kernel
theorem d_M_interest_62 : decode b_M_interest 62 = .ok (.putfield 76, 3) := by decide +kernel
theorem d_M_interest_65 : decode b_M_interest 65 = .ok (.iload 4, 2) := by decide +kernel
theorem d_M_interest_67 : decode b_M_interest 67 = .ok (.ifCond .eq 7, 3) := by decide +kernel
theorem d_M_interest_70 : decode b_M_interest 70 = .ok (.iload_n 3, 1) := by decide +kernel
theorem d_M_interest_71 : decode b_M_interest 71 = .ok (.ifCond .ne 14, 3) := by decide +kernel
theorem d_M_interest_74 : decode b_M_interest 74 = .ok (.iload 4, 2) := by decide +kernel
theorem d_M_interest_76 : decode b_M_interest 76 = .ok (.ifCond .eq 7, 3) := by decide +kernel
theorem d_M_interest_79 : decode b_M_interest 79 = .ok (.iconst 0, 1) := by decide +kernel
theorem d_M_interest_80 : decode b_M_interest 80 = .ok (.goto 4, 3) := by decide +kernel
theorem d_M_interest_83 : decode b_M_interest 83 = .ok (.iconst (-1), 1) := by decide +kernel
theorem d_M_interest_84 : decode b_M_interest 84 = .ok (.ireturn, 1) := by decide +kernel
theorem d_M_interest_85 : decode b_M_interest 85 = .ok (.aload_n 0, 1) := by decide +kernel
theorem d_M_interest_86 : decode b_M_interest 86 = .ok (.getfield 19, 3) := by decide +kernel
theorem d_M_interest_89 : decode b_M_interest 89 = .ok (.iload_n 1, 1) := by decide +kernel
theorem d_M_interest_90 : decode b_M_interest 90 = .ok (.iload_n 2, 1) := by decide +kernel
theorem d_M_interest_91 : decode b_M_interest 91 = .ok (.iastore, 1) := by decide +kernel
theorem d_M_interest_92 : decode b_M_interest 92 = .ok (.aload_n 0, 1) := by decide +kernel
theorem d_M_interest_93 : decode b_M_interest 93 = .ok (.getfield 22, 3) := by decide +kernel
theorem d_M_interest_96 : decode b_M_interest 96 = .ok (.iload_n 1, 1) := by decide +kernel
theorem d_M_interest_97 : decode b_M_interest 97 = .ok (.iload_n 3, 1) := by decide +kernel
theorem d_M_interest_98 : decode b_M_interest 98 = .ok (.iastore, 1) := by decide +kernel
theorem d_M_interest_99 : decode b_M_interest 99 = .ok (.ldc 96, 2) := by decide +kernel
theorem d_M_interest_101 : decode b_M_interest 101 = .ok (.iload_n 2, 1) := by decide +kernel
theorem d_M_interest_102 : decode b_M_interest 102 = .ok (.imul, 1) := by decide +kernel
theorem d_M_interest_103 : decode b_M_interest 103 = .ok (.iload_n 3, 1) := by decide +kernel
theorem d_M_interest_104 : decode b_M_interest 104 = .ok (.idiv, 1) := by decide +kernel
theorem d_M_interest_105 : decode b_M_interest 105 = .ok (.ireturn, 1) := by decide +kernel
theorem d_M_isClosed_0 : decode b_M_isClosed 0 = .ok (.iconst 0, 1) := by decide +kernel
theorem d_M_isClosed_1 : decode b_M_isClosed 1 = .ok (.istore_n 3, 1) := by decide +kernel
theorem d_M_isClosed_2 : decode b_M_isClosed 2 = .ok (.iconst 0, 1) := by decide +kernel
theorem d_M_isClosed_3 : decode b_M_isClosed 3 = .ok (.istore 4, 2) := by decide +kernel
theorem d_M_isClosed_5 : decode b_M_isClosed 5 = .ok (.iload 4, 2) := by decide +kernel
theorem d_M_isClosed_7 : decode b_M_isClosed 7 = .ok (.aload_n 0, 1) := by decide +kernel
theorem d_M_isClosed_8 : decode b_M_isClosed 8 = .ok (.getfield 97, 3) := by decide +kernel
theorem d_M_isClosed_11 : decode b_M_isClosed 11 = .ok (.if_icmp .ge 31, 3) := by decide +kernel
theorem d_M_isClosed_14 : decode b_M_isClosed 14 = .ok (.iload_n 3, 1) := by decide +kernel
theorem d_M_isClosed_15 : decode b_M_isClosed 15 = .ok (.ifCond .ne 15, 3) := by decide +kernel
theorem d_M_isClosed_18 : decode b_M_isClosed 18 = .ok (.aload_n 0, 1) := by decide +kernel
theorem d_M_isClosed_19 : decode b_M_isClosed 19 = .ok (.getfield 25, 3) := by decide +kernel
theorem d_M_isClosed_22 : decode b_M_isClosed 22 = .ok (.iload 4, 2) := by decide +kernel
theorem d_M_isClosed_24 : decode b_M_isClosed 24 = .ok (.laload, 1) := by decide +kernel
theorem d_M_isClosed_25 : decode b_M_isClosed 25 = .ok (.lload_n 1, 1) := by decide +kernel
theorem d_M_isClosed_26 : decode b_M_isClosed 26 = .ok (.lcmp, 1) := by decide +kernel
theorem d_M_isClosed_27 : decode b_M_isClosed 27 = .ok (.ifCond .ne 7, 3) := by decide +kernel
theorem d_M_isClosed_30 : decode b_M_isClosed 30 = .ok (.iconst 1, 1) := by decide +kernel
theorem d_M_isClosed_31 : decode b_M_isClosed 31 = .ok (.goto 4, 3) := by decide +kernel
theorem d_M_isClosed_34 : decode b_M_isClosed 34 = .ok (.iconst 0, 1) := by decide +kernel
theorem d_M_isClosed_35 : decode b_M_isClosed 35 = .ok (.istore_n 3, 1) := by decide +kernel
theorem d_M_isClosed_36 : decode b_M_isClosed 36 = .ok (.iinc 4 1, 3) := by decide +kernel
theorem d_M_isClosed_39 : decode b_M_isClosed 39 = .ok (.goto (-34), 3) := by decide +kernel
theorem d_M_isClosed_42 : decode b_M_isClosed 42 = .ok (.iload_n 3, 1) := by decide +kernel
theorem d_M_isClosed_43 : decode b_M_isClosed 43 = .ok (.ireturn, 1) := by decide +kernel
theorem d_M_closed_0 : decode b_M_closed 0 = .ok (.aload_n 0, 1) := by decide +kernel
theorem d_M_closed_1 : decode b_M_closed 1 = .ok (.iconst 0, 1) := by decide +kernel
theorem d_M_closed_2 : decode b_M_closed 2 = .ok (.putfield 76, 3) := by decide +kernel
theorem d_M_closed_5 : decode b_M_closed 5 = .ok (.lload_n 1, 1) := by decide +kernel
theorem d_M_closed_6 : decode b_M_closed 6 = .ok (.invokestatic 100, 3) := by decide +kernel
theorem d_M_closed_9 : decode b_M_closed 9 = .ok (.ifCond .eq 20, 3) := by decide +kernel
theorem d_M_closed_12 : decode b_M_closed 12 = .ok (.aload_n 0, 1) := by decide +kernel
theorem d_M_closed_13 : decode b_M_closed 13 = .ok (.lload_n 1, 1) := by decide +kernel
theorem d_M_closed_14 : decode b_M_closed 14 = .ok (.invokevirtual 104, 3) := by decide +kernel
theorem d_M_closed_17 : decode b_M_closed 17 = .ok (.ifCond .ne 12, 3) := by decide +kernel
theorem d_M_closed_20 : decode b_M_closed 20 = .ok (.aload_n 0, 1) := by decide +kernel
theorem d_M_closed_21 : decode b_M_closed 21 = .ok (.getfield 97, 3) := by decide +kernel
theorem d_M_closed_24 : decode b_M_closed 24 = .ok (.bipush 100, 2) := by decide +kernel
theorem d_M_closed_26 : decode b_M_closed 26 = .ok (.if_icmp .ne 5, 3) := by decide +kernel
theorem d_M_closed_29 : decode b_M_closed 29 = .ok (.iconst 0, 1) := by decide +kernel
theorem d_M_closed_30 : decode b_M_closed 30 = .ok (.ireturn, 1) := by decide +kernel
theorem d_M_closed_31 : decode b_M_closed 31 = .ok (.aload_n 0, 1) := by decide +kernel
theorem d_M_closed_32 : decode b_M_closed 32 = .ok (.getfield 25, 3) := by decide +kernel
theorem d_M_closed_35 : decode b_M_closed 35 = .ok (.aload_n 0, 1) := by decide +kernel
theorem d_M_closed_36 : decode b_M_closed 36 = .ok (.getfield 97, 3) := by decide +kernel
theorem d_M_closed_39 : decode b_M_closed 39 = .ok (.lload_n 1, 1) := by decide +kernel
theorem d_M_closed_40 : decode b_M_closed 40 = .ok (.lastore, 1) := by decide +kernel
theorem d_M_closed_41 : decode b_M_closed 41 = .ok (.aload_n 0, 1) := by decide +kernel
theorem d_M_closed_42 : decode b_M_closed 42 = .ok (.dup, 1) := by decide +kernel
theorem d_M_closed_43 : decode b_M_closed 43 = .ok (.getfield 97, 3) := by decide +kernel
theorem d_M_closed_46 : decode b_M_closed 46 = .ok (.iconst 1, 1) := by decide +kernel
theorem d_M_closed_47 : decode b_M_closed 47 = .ok (.iadd, 1) := by decide +kernel
theorem d_M_closed_48 : decode b_M_closed 48 = .ok (.putfield 97, 3) := by decide +kernel
theorem d_M_closed_51 : decode b_M_closed 51 = .ok (.aload_n 0, 1) := by decide +kernel
theorem d_M_closed_52 : decode b_M_closed 52 = .ok (.getfield 97, 3) := by decide +kernel
theorem d_M_closed_55 : decode b_M_closed 55 = .ok (.ireturn, 1) := by decide +kernel
theorem d_M_loanOfItem_0 : decode b_M_loanOfItem 0 = .ok (.iconst 0, 1) := by decide +kernel
theorem d_M_loanOfItem_1 : decode b_M_loanOfItem 1 = .ok (.istore_n 2, 1) := by decide +kernel
theorem d_M_loanOfItem_2 : decode b_M_loanOfItem 2 = .ok (.iconst 1, 1) := by decide +kernel
theorem d_M_loanOfItem_3 : decode b_M_loanOfItem 3 = .ok (.istore_n 3, 1) := by decide +kernel
theorem d_M_loanOfItem_4 : decode b_M_loanOfItem 4 = .ok (.iload_n 3, 1) := by decide +kernel
theorem d_M_loanOfItem_5 : decode b_M_loanOfItem 5 = .ok (.aload_n 0, 1) := by decide +kernel
theorem d_M_loanOfItem_6 : decode b_M_loanOfItem 6 = .ok (.getfield 107, 3) := by decide +kernel
theorem d_M_loanOfItem_9 : decode b_M_loanOfItem 9 = .ok (.if_icmp .gt 35, 3) := by decide +kernel
theorem d_M_loanOfItem_12 : decode b_M_loanOfItem 12 = .ok (.aload_n 0, 1) := by decide +kernel
theorem d_M_loanOfItem_13 : decode b_M_loanOfItem 13 = .ok (.getfield 29, 3) := by decide +kernel
theorem d_M_loanOfItem_16 : decode b_M_loanOfItem 16 = .ok (.iload_n 3, 1) := by decide +kernel
theorem d_M_loanOfItem_17 : decode b_M_loanOfItem 17 = .ok (.iaload, 1) := by decide +kernel
theorem d_M_loanOfItem_18 : decode b_M_loanOfItem 18 = .ok (.iload_n 1, 1) := by decide +kernel
theorem d_M_loanOfItem_19 : decode b_M_loanOfItem 19 = .ok (.if_icmp .ne 17, 3) := by decide +kernel
theorem d_M_loanOfItem_22 : decode b_M_loanOfItem 22 = .ok (.aload_n 0, 1) := by decide +kernel
theorem d_M_loanOfItem_23 : decode b_M_loanOfItem 23 = .ok (.getfield 38, 3) := by decide +kernel
theorem d_M_loanOfItem_26 : decode b_M_loanOfItem 26 = .ok (.iload_n 3, 1) := by decide +kernel
theorem d_M_loanOfItem_27 : decode b_M_loanOfItem 27 = .ok (.iaload, 1) := by decide +kernel
theorem d_M_loanOfItem_28 : decode b_M_loanOfItem 28 = .ok (.iconst 2, 1) := by decide +kernel
theorem d_M_loanOfItem_29 : decode b_M_loanOfItem 29 = .ok (.if_icmp .eq 7, 3) := by decide +kernel
theorem d_M_loanOfItem_32 : decode b_M_loanOfItem 32 = .ok (.iload_n 3, 1) := by decide +kernel
theorem d_M_loanOfItem_33 : decode b_M_loanOfItem 33 = .ok (.goto 4, 3) := by decide +kernel
theorem d_M_loanOfItem_36 : decode b_M_loanOfItem 36 = .ok (.iload_n 2, 1) := by decide +kernel
theorem d_M_loanOfItem_37 : decode b_M_loanOfItem 37 = .ok (.istore_n 2, 1) := by decide +kernel
theorem d_M_loanOfItem_38 : decode b_M_loanOfItem 38 = .ok (.iinc 3 1, 3) := by decide +kernel
theorem d_M_loanOfItem_41 : decode b_M_loanOfItem 41 = .ok (.goto (-37), 3) := by decide +kernel
theorem d_M_loanOfItem_44 : decode b_M_loanOfItem 44 = .ok (.iload_n 2, 1) := by decide +kernel
theorem d_M_loanOfItem_45 : decode b_M_loanOfItem 45 = .ok (.ireturn, 1) := by decide +kernel
theorem d_M_loan_0 : decode b_M_loan 0 = .ok (.aload_n 0, 1) := by decide +kernel
theorem d_M_loan_1 : decode b_M_loan 1 = .ok (.iconst 0, 1) := by decide +kernel
theorem d_M_loan_2 : decode b_M_loan 2 = .ok (.putfield 76, 3) := by decide +kernel
theorem d_M_loan_5 : decode b_M_loan 5 = .ok (.iload_n 1, 1) := by decide +kernel
theorem d_M_loan_6 : decode b_M_loan 6 = .ok (.i2l, 1) := by decide +kernel
theorem d_M_loan_7 : decode b_M_loan 7 = .ok (.lconst 0, 1) := by decide +kernel
theorem d_M_loan_8 : decode b_M_loan 8 = .ok (.ldc2_w 110, 3) := by decide +kernel
theorem d_M_loan_11 : decode b_M_loan 11 = .ok (.invokestatic 81, 3) := by decide +kernel
theorem d_M_loan_14 : decode b_M_loan 14 = .ok (.ifCond .eq 56, 3) := by decide +kernel
theorem d_M_loan_17 : decode b_M_loan 17 = .ok (.iload_n 2, 1) := by decide +kernel
theorem d_M_loan_18 : decode b_M_loan 18 = .ok (.i2l, 1) := by decide +kernel
theorem d_M_loan_19 : decode b_M_loan 19 = .ok (.lconst 0, 1) := by decide +kernel
theorem d_M_loan_20 : decode b_M_loan 20 = .ok (.ldc2_w 112, 3) := by decide +kernel
theorem d_M_loan_23 : decode b_M_loan 23 = .ok (.invokestatic 81, 3) := by decide +kernel
theorem d_M_loan_26 : decode b_M_loan 26 = .ok (.ifCond .eq 44, 3) := by decide +kernel
theorem d_M_loan_29 : decode b_M_loan 29 = .ok (.iload_n 3, 1) := by decide +kernel
theorem d_M_loan_30 : decode b_M_loan 30 = .ok (.i2l, 1) := by decide +kernel
theorem d_M_loan_31 : decode b_M_loan 31 = .ok (.lconst 0, 1) := by decide +kernel
theorem d_M_loan_32 : decode b_M_loan 32 = .ok (.aload_n 0, 1) := by decide +kernel
theorem d_M_loan_33 : decode b_M_loan 33 = .ok (.getfield 91, 3) := by decide +kernel
theorem d_M_loan_36 : decode b_M_loan 36 = .ok (.iconst 1, 1) := by decide +kernel
theorem d_M_loan_37 : decode b_M_loan 37 = .ok (.isub, 1) := by decide +kernel
theorem d_M_loan_38 : decode b_M_loan 38 = .ok (.i2l, 1) := by decide +kernel
theorem d_M_loan_39 : decode b_M_loan 39 = .ok (.invokestatic 81, 3) := by decide +kernel
theorem d_M_loan_42 : decode b_M_loan 42 = .ok (.ifCond .eq 28, 3) := by decide +kernel
theorem d_M_loan_45 : decode b_M_loan 45 = .ok (.lload 4, 2) := by decide +kernel
theorem d_M_loan_47 : decode b_M_loan 47 = .ok (.invokestatic 100, 3) := by decide +kernel
theorem d_M_loan_50 : decode b_M_loan 50 = .ok (.ifCond .eq 20, 3) := by decide +kernel
theorem d_M_loan_53 : decode b_M_loan 53 = .ok (.aload_n 0, 1) := by decide +kernel
theorem d_M_loan_54 : decode b_M_loan 54 = .ok (.getfield 107, 3) := by decide +kernel
theorem d_M_loan_57 : decode b_M_loan 57 = .ok (.bipush 120, 2) := by decide +kernel
theorem d_M_loan_59 : decode b_M_loan 59 = .ok (.if_icmp .eq 11, 3) := by decide +kernel
theorem d_M_loan_62 : decode b_M_loan 62 = .ok (.aload_n 0, 1) := by decide +kernel
theorem d_M_loan_63 : decode b_M_loan 63 = .ok (.iload_n 1, 1) := by decide +kernel
theorem d_M_loan_64 : decode b_M_loan 64 = .ok (.invokevirtual 114, 3) := by decide +kernel
theorem d_M_loan_67 : decode b_M_loan 67 = .ok (.ifCond .le 5, 3) := by decide +kernel
theorem d_M_loan_70 : decode b_M_loan 70 = .ok (.iconst 0, 1) := by decide +kernel
theorem d_M_loan_71 : decode b_M_loan 71 = .ok (.ireturn, 1) := by decide +kernel
theorem d_M_loan_72 : decode b_M_loan 72 = .ok (.aload_n 0, 1) := by decide +kernel
theorem d_M_loan_73 : decode b_M_loan 73 = .ok (.dup, 1) := by decide +kernel
theorem d_M_loan_74 : decode b_M_loan 74 = .ok (.getfield 107, 3) := by decide +kernel
theorem d_M_loan_77 : decode b_M_loan 77 = .ok (.iconst 1, 1) := by decide +kernel
theorem d_M_loan_78 : decode b_M_loan 78 = .ok (.iadd, 1) := by decide +kernel
theorem d_M_loan_79 : decode b_M_loan 79 = .ok (.putfield 107, 3) := by decide +kernel
theorem d_M_loan_82 : decode b_M_loan 82 = .ok (.aload_n 0, 1) := by decide +kernel
theorem d_M_loan_83 : decode b_M_loan 83 = .ok (.getfield 29, 3) := by decide +kernel
theorem d_M_loan_86 : decode b_M_loan 86 = .ok (.aload_n 0, 1) := by decide +kernel
theorem d_M_loan_87 : decode b_M_loan 87 = .ok (.getfield 107, 3) := by decide +kernel
theorem d_M_loan_90 : decode b_M_loan 90 = .ok (.iload_n 1, 1) := by decide +kernel
theorem d_M_loan_91 : decode b_M_loan 91 = .ok (.iastore, 1) := by decide +kernel
theorem d_M_loan_92 : decode b_M_loan 92 = .ok (.aload_n 0, 1) := by decide +kernel
theorem d_M_loan_93 : decode b_M_loan 93 = .ok (.getfield 32, 3) := by decide +kernel
theorem d_M_loan_96 : decode b_M_loan 96 = .ok (.aload_n 0, 1) := by decide +kernel
theorem d_M_loan_97 : decode b_M_loan 97 = .ok (.getfield 107, 3) := by decide +kernel
theorem d_M_loan_100 : decode b_M_loan 100 = .ok (.iload_n 2, 1) := by decide +kernel
theorem d_M_loan_101 : decode b_M_loan 101 = .ok (.iastore, 1) := by decide +kernel
theorem d_M_loan_102 : decode b_M_loan 102 = .ok (.aload_n 0, 1) := by decide +kernel
theorem d_M_loan_103 : decode b_M_loan 103 = .ok (.getfield 35, 3) := by decide +kernel
theorem d_M_loan_106 : decode b_M_loan 106 = .ok (.aload_n 0, 1) := by decide +kernel
theorem d_M_loan_107 : decode b_M_loan 107 = .ok (.getfield 107, 3) := by decide +kernel
theorem d_M_loan_110 : decode b_M_loan 110 = .ok (.iload_n 3, 1) := by decide +kernel
theorem d_M_loan_111 : decode b_M_loan 111 = .ok (.iastore, 1) := by decide +kernel
theorem d_M_loan_112 : decode b_M_loan 112 = .ok (.aload_n 0, 1) := by decide +kernel
theorem d_M_loan_113 : decode b_M_loan 113 = .ok (.getfield 44, 3) := by decide +kernel
theorem d_M_loan_116 : decode b_M_loan 116 = .ok (.aload_n 0, 1) := by decide +kernel
theorem d_M_loan_117 : decode b_M_loan 117 = .ok (.getfield 107, 3) := by decide +kernel
theorem d_M_loan_120 : decode b_M_loan 120 = .ok (.lload 4, 2) := by decide +kernel
theorem d_M_loan_122 : decode b_M_loan 122 = .ok (.lastore, 1) := by decide +kernel
theorem d_M_loan_123 : decode b_M_loan 123 = .ok (.aload_n 0, 1) := by decide +kernel
theorem d_M_loan_124 : decode b_M_loan 124 = .ok (.getfield 38, 3) := by decide +kernel
theorem d_M_loan_127 : decode b_M_loan 127 = .ok (.aload_n 0, 1) := by decide +kernel
theorem d_M_loan_128 : decode b_M_loan 128 = .ok (.getfield 107, 3) := by decide +kernel
theorem d_M_loan_131 : decode b_M_loan 131 = .ok (.iconst 1, 1) := by decide +kernel
theorem d_M_loan_132 : decode b_M_loan 132 = .ok (.iastore, 1) := by decide +kernel
theorem d_M_loan_133 : decode b_M_loan 133 = .ok (.aload_n 0, 1) := by decide +kernel
theorem d_M_loan_134 : decode b_M_loan 134 = .ok (.getfield 107, 3) := by decide +kernel
theorem d_M_loan_137 : decode b_M_loan 137 = .ok (.ireturn, 1) := by decide +kernel
theorem d_M_isLent_0 : decode b_M_isLent 0 = .ok (.iload_n 1, 1) := by decide +kernel
theorem d_M_isLent_1 : decode b_M_isLent 1 = .ok (.i2l, 1) := by decide +kernel
theorem d_M_isLent_2 : decode b_M_isLent 2 = .ok (.lconst 1, 1) := by decide +kernel
theorem d_M_isLent_3 : decode b_M_isLent 3 = .ok (.aload_n 0, 1) := by decide +kernel
theorem d_M_isLent_4 : decode b_M_isLent 4 = .ok (.getfield 107, 3) := by decide +kernel
theorem d_M_isLent_7 : decode b_M_isLent 7 = .ok (.i2l, 1) := by decide +kernel
theorem d_M_isLent_8 : decode b_M_isLent 8 = .ok (.invokestatic 81, 3) := by decide +kernel
theorem d_M_isLent_11 : decode b_M_isLent 11 = .ok (.ifCond .eq 17, 3) := by decide +kernel
theorem d_M_isLent_14 : decode b_M_isLent 14 = .ok (.aload_n 0, 1) := by decide +kernel
theorem d_M_isLent_15 : decode b_M_isLent 15 = .ok (.getfield 38, 3) := by decide +kernel
theorem d_M_isLent_18 : decode b_M_isLent 18 = .ok (.iload_n 1, 1) := by decide +kernel
theorem d_M_isLent_19 : decode b_M_isLent 19 = .ok (.iaload, 1) := by decide +kernel
theorem d_M_isLent_20 : decode b_M_isLent 20 = .ok (.iconst 1, 1) := by decide +kernel
theorem d_M_isLent_21 : decode b_M_isLent 21 = .ok (.if_icmp .ne 7, 3) := by decide +kernel
theorem d_M_isLent_24 : decode b_M_isLent 24 = .ok (.iconst 1, 1) := by decide +kernel
theorem d_M_isLent_25 : decode b_M_isLent 25 = .ok (.goto 4, 3) := by decide +kernel
theorem d_M_isLent_28 : decode b_M_isLent 28 = .ok (.iconst 0, 1) := by decide +kernel
theorem d_M_isLent_29 : decode b_M_isLent 29 = .ok (.ireturn, 1) := by decide +kernel
theorem d_M_late_0 : decode b_M_late 0 = .ok (.lload_n 2, 1) := by decide +kernel
theorem d_M_late_1 : decode b_M_late 1 = .ok (.aload_n 0, 1) := by decide +kernel
theorem d_M_late_2 : decode b_M_late 2 = .ok (.getfield 44, 3) := by decide +kernel
theorem d_M_late_5 : decode b_M_late 5 = .ok (.iload_n 1, 1) := by decide +kernel
theorem d_M_late_6 : decode b_M_late 6 = .ok (.laload, 1) := by decide +kernel
theorem d_M_late_7 : decode b_M_late 7 = .ok (.lsub, 1) := by decide +kernel
theorem d_M_late_8 : decode b_M_late 8 = .ok (.lstore 4, 2) := by decide +kernel
theorem d_M_late_10 : decode b_M_late 10 = .ok (.iconst 0, 1) := by decide +kernel
theorem d_M_late_11 : decode b_M_late 11 = .ok (.istore 6, 2) := by decide +kernel
theorem d_M_late_13 : decode b_M_late 13 = .ok (.iload 6, 2) := by decide +kernel
theorem d_M_late_15 : decode b_M_late 15 = .ok (.aload_n 0, 1) := by decide +kernel
theorem d_M_late_16 : decode b_M_late 16 = .ok (.getfield 97, 3) := by decide +kernel
theorem d_M_late_19 : decode b_M_late 19 = .ok (.if_icmp .ge 48, 3) := by decide +kernel
theorem d_M_late_22 : decode b_M_late 22 = .ok (.lload 4, 2) := by decide +kernel
theorem d_M_late_24 : decode b_M_late 24 = .ok (.aload_n 0, 1) := by decide +kernel
theorem d_M_late_25 : decode b_M_late 25 = .ok (.getfield 25, 3) := by decide +kernel
theorem d_M_late_28 : decode b_M_late 28 = .ok (.iload 6, 2) := by decide +kernel
theorem d_M_late_30 : decode b_M_late 30 = .ok (.laload, 1) := by decide +kernel
theorem d_M_late_31 : decode b_M_late 31 = .ok (.aload_n 0, 1) := by decide +kernel
theorem d_M_late_32 : decode b_M_late 32 = .ok (.getfield 44, 3) := by decide +kernel
theorem d_M_late_35 : decode b_M_late 35 = .ok (.iload_n 1, 1) := by decide +kernel
theorem d_M_late_36 : decode b_M_late 36 = .ok (.laload, 1) := by decide +kernel
theorem d_M_late_37 : decode b_M_late 37 = .ok (.lcmp, 1) := by decide +kernel
theorem d_M_late_38 : decode b_M_late 38 = .ok (.ifCond .le 19, 3) := by decide +kernel
theorem d_M_late_41 : decode b_M_late 41 = .ok (.aload_n 0, 1) := by decide +kernel
theorem d_M_late_42 : decode b_M_late 42 = .ok (.getfield 25, 3) := by decide +kernel
theorem d_M_late_45 : decode b_M_late 45 = .ok (.iload 6, 2) := by decide +kernel
theorem d_M_late_47 : decode b_M_late 47 = .ok (.laload, 1) := by decide +kernel
theorem d_M_late_48 : decode b_M_late 48 = .ok (.lload_n 2, 1) := by decide +kernel
theorem d_M_late_49 : decode b_M_late 49 = .ok (.lcmp, 1) := by decide +kernel
theorem d_M_late_50 : decode b_M_late 50 = .ok (.ifCond .gt 7, 3) := by decide +kernel
theorem d_M_late_53 : decode b_M_late 53 = .ok (.lconst 1, 1) := by decide +kernel
theorem d_M_late_54 : decode b_M_late 54 = .ok (.goto 4, 3) := by decide +kernel
theorem d_M_late_57 : decode b_M_late 57 = .ok (.lconst 0, 1) := by decide +kernel
theorem d_M_late_58 : decode b_M_late 58 = .ok (.lsub, 1) := by decide +kernel
theorem d_M_late_59 : decode b_M_late 59 = .ok (.lstore 4, 2) := by decide +kernel
theorem d_M_late_61 : decode b_M_late 61 = .ok (.iinc 6 1, 3) := by decide +kernel
theorem d_M_late_64 : decode b_M_late 64 = .ok (.goto (-51), 3) := by decide +kernel
theorem d_M_late_67 : decode b_M_late 67 = .ok (.aload_n 0, 1) := by decide +kernel
theorem d_M_late_68 : decode b_M_late 68 = .ok (.getfield 35, 3) := by decide +kernel
theorem d_M_late_71 : decode b_M_late 71 = .ok (.iload_n 1, 1) := by decide +kernel
theorem d_M_late_72 : decode b_M_late 72 = .ok (.iaload, 1) := by decide +kernel
theorem d_M_late_73 : decode b_M_late 73 = .ok (.istore 6, 2) := by decide +kernel
theorem d_M_late_75 : decode b_M_late 75 = .ok (.lload_n 2, 1) := by decide +kernel
theorem d_M_late_76 : decode b_M_late 76 = .ok (.aload_n 0, 1) := by decide +kernel
theorem d_M_late_77 : decode b_M_late 77 = .ok (.getfield 44, 3) := by decide +kernel
theorem d_M_late_80 : decode b_M_late 80 = .ok (.iload_n 1, 1) := by decide +kernel
theorem d_M_late_81 : decode b_M_late 81 = .ok (.laload, 1) := by decide +kernel
theorem d_M_late_82 : decode b_M_late 82 = .ok (.lcmp, 1) := by decide +kernel
theorem d_M_late_83 : decode b_M_late 83 = .ok (.ifCond .le 17, 3) := by decide +kernel
theorem d_M_late_86 : decode b_M_late 86 = .ok (.lload 4, 2) := by decide +kernel
theorem d_M_late_88 : decode b_M_late 88 = .ok (.aload_n 0, 1) := by decide +kernel
theorem d_M_late_89 : decode b_M_late 89 = .ok (.getfield 16, 3) := by decide +kernel
theorem d_M_late_92 : decode b_M_late 92 = .ok (.iload 6, 2) := by decide +kernel
theorem d_M_late_94 : decode b_M_late 94 = .ok (.iaload, 1) := by decide +kernel
theorem d_M_late_95 : decode b_M_late 95 = .ok (.i2l, 1) := by decide +kernel
theorem d_M_late_96 : decode b_M_late 96 = .ok (.lcmp, 1) := by decide +kernel
theorem d_M_late_97 : decode b_M_late 97 = .ok (.ifCond .gt 5, 3) := by decide +kernel
theorem d_M_late_100 : decode b_M_late 100 = .ok (.lconst 0, 1) := by decide +kernel
theorem d_M_late_101 : decode b_M_late 101 = .ok (.lreturn, 1) := by decide +kernel
theorem d_M_late_102 : decode b_M_late 102 = .ok (.lload 4, 2) := by decide +kernel
theorem d_M_late_104 : decode b_M_late 104 = .ok (.aload_n 0, 1) := by decide +kernel
theorem d_M_late_105 : decode b_M_late 105 = .ok (.getfield 7, 3) := by decide +kernel
theorem d_M_late_108 : decode b_M_late 108 = .ok (.iload 6, 2) := by decide +kernel
theorem d_M_late_110 : decode b_M_late 110 = .ok (.iaload, 1) := by decide +kernel
theorem d_M_late_111 : decode b_M_late 111 = .ok (.i2l, 1) := by decide +kernel
theorem d_M_late_112 : decode b_M_late 112 = .ok (.lmul, 1) := by decide +kernel
theorem d_M_late_113 : decode b_M_late 113 = .ok (.lstore 7, 2) := by decide +kernel
theorem d_M_late_115 : decode b_M_late 115 = .ok (.lload 7, 2) := by decide +kernel
theorem d_M_late_117 : decode b_M_late 117 = .ok (.aload_n 0, 1) := by decide +kernel
theorem d_M_late_118 : decode b_M_late 118 = .ok (.getfield 13, 3) := by decide +kernel
theorem d_M_late_121 : decode b_M_late 121 = .ok (.iload 6, 2) := by decide +kernel
theorem d_M_late_123 : decode b_M_late 123 = .ok (.iaload, 1) := by decide +kernel
theorem d_M_late_124 : decode b_M_late 124 = .ok (.i2l, 1) := by decide +kernel
theorem d_M_late_125 : decode b_M_late 125 = .ok (.lcmp, 1) := by decide +kernel
theorem d_M_late_126 : decode b_M_late 126 = .ok (.ifCond .le 14, 3) := by decide +kernel
theorem d_M_late_129 : decode b_M_late 129 = .ok (.aload_n 0, 1) := by decide +kernel
theorem d_M_late_130 : decode b_M_late 130 = .ok (.getfield 13, 3) := by decide +kernel
theorem d_M_late_133 : decode b_M_late 133 = .ok (.iload 6, 2) := by decide +kernel
theorem d_M_late_135 : decode b_M_late 135 = .ok (.iaload, 1) := by decide +kernel
theorem d_M_late_136 : decode b_M_late 136 = .ok (.i2l, 1) := by decide +kernel
theorem d_M_late_137 : decode b_M_late 137 = .ok (.goto 5, 3) := by decide +kernel
theorem d_M_late_140 : decode b_M_late 140 = .ok (.lload 7, 2) := by decide +kernel
theorem d_M_late_142 : decode b_M_late 142 = .ok (.lreturn, 1) := by decide +kernel
theorem d_M_overdue_0 : decode b_M_overdue 0 = .ok (.aload_n 0, 1) := by decide +kernel
theorem d_M_overdue_1 : decode b_M_overdue 1 = .ok (.iconst 0, 1) := by decide +kernel
theorem d_M_overdue_2 : decode b_M_overdue 2 = .ok (.putfield 76, 3) := by decide +kernel
theorem d_M_overdue_5 : decode b_M_overdue 5 = .ok (.aload_n 0, 1) := by decide +kernel
theorem d_M_overdue_6 : decode b_M_overdue 6 = .ok (.iload_n 1, 1) := by decide +kernel
theorem d_M_overdue_7 : decode b_M_overdue 7 = .ok (.invokevirtual 118, 3) := by decide +kernel
theorem d_M_overdue_10 : decode b_M_overdue 10 = .ok (.ifCond .eq 19, 3) := by decide +kernel
theorem d_M_overdue_13 : decode b_M_overdue 13 = .ok (.lload_n 2, 1) := by decide +kernel
theorem d_M_overdue_14 : decode b_M_overdue 14 = .ok (.invokestatic 100, 3) := by decide +kernel
theorem d_M_overdue_17 : decode b_M_overdue 17 = .ok (.ifCond .eq 12, 3) := by decide +kernel
theorem d_M_overdue_20 : decode b_M_overdue 20 = .ok (.aload_n 0, 1) := by decide +kernel
theorem d_M_overdue_21 : decode b_M_overdue 21 = .ok (.iload_n 1, 1) := by decide +kernel
theorem d_M_overdue_22 : decode b_M_overdue 22 = .ok (.lload_n 2, 1) := by decide +kernel
theorem d_M_overdue_23 : decode b_M_overdue 23 = .ok (.invokevirtual 122, 3) := by decide +kernel
theorem d_M_overdue_26 : decode b_M_overdue 26 = .ok (.goto 6, 3) := by decide +kernel
theorem d_M_overdue_29 : decode b_M_overdue 29 = .ok (.ldc2_w 126, 3) := by decide +kernel
theorem d_M_overdue_32 : decode b_M_overdue 32 = .ok (.lreturn, 1) := by decide +kernel
theorem d_M_comes_0 : decode b_M_comes 0 = .ok (.aload_n 0, 1) := by decide +kernel
theorem d_M_comes_1 : decode b_M_comes 1 = .ok (.dup, 1) := by decide +kernel
theorem d_M_comes_2 : decode b_M_comes 2 = .ok (.getfield 128, 3) := by decide +kernel
theorem d_M_comes_5 : decode b_M_comes 5 = .ok (.iconst 1, 1) := by decide +kernel
theorem d_M_comes_6 : decode b_M_comes 6 = .ok (.iadd, 1) := by decide +kernel
theorem d_M_comes_7 : decode b_M_comes 7 = .ok (.putfield 128, 3) := by decide +kernel
theorem d_M_comes_10 : decode b_M_comes 10 = .ok (.aload_n 0, 1) := by decide +kernel
theorem d_M_comes_11 : decode b_M_comes 11 = .ok (.getfield 47, 3) := by decide +kernel
theorem d_M_comes_14 : decode b_M_comes 14 = .ok (.aload_n 0, 1) := by decide +kernel
theorem d_M_comes_15 : decode b_M_comes 15 = .ok (.getfield 128, 3) := by decide +kernel
theorem d_M_comes_18 : decode b_M_comes 18 = .ok (.iload_n 1, 1) := by decide +kernel
theorem d_M_comes_19 : decode b_M_comes 19 = .ok (.iastore, 1) := by decide +kernel
theorem d_M_comes_20 : decode b_M_comes 20 = .ok (.aload_n 0, 1) := by decide +kernel
theorem d_M_comes_21 : decode b_M_comes 21 = .ok (.getfield 50, 3) := by decide +kernel
theorem d_M_comes_24 : decode b_M_comes 24 = .ok (.aload_n 0, 1) := by decide +kernel
theorem d_M_comes_25 : decode b_M_comes 25 = .ok (.getfield 128, 3) := by decide +kernel
theorem d_M_comes_28 : decode b_M_comes 28 = .ok (.iload_n 2, 1) := by decide +kernel
theorem d_M_comes_29 : decode b_M_comes 29 = .ok (.iastore, 1) := by decide +kernel
theorem d_M_comes_30 : decode b_M_comes 30 = .ok (.aload_n 0, 1) := by decide +kernel
theorem d_M_comes_31 : decode b_M_comes 31 = .ok (.getfield 53, 3) := by decide +kernel
theorem d_M_comes_34 : decode b_M_comes 34 = .ok (.aload_n 0, 1) := by decide +kernel
theorem d_M_comes_35 : decode b_M_comes 35 = .ok (.getfield 128, 3) := by decide +kernel
theorem d_M_comes_38 : decode b_M_comes 38 = .ok (.iload_n 2, 1) := by decide +kernel
theorem d_M_comes_39 : decode b_M_comes 39 = .ok (.iastore, 1) := by decide +kernel
theorem d_M_comes_40 : decode b_M_comes 40 = .ok (.aload_n 0, 1) := by decide +kernel
theorem d_M_comes_41 : decode b_M_comes 41 = .ok (.getfield 56, 3) := by decide +kernel
theorem d_M_comes_44 : decode b_M_comes 44 = .ok (.aload_n 0, 1) := by decide +kernel
theorem d_M_comes_45 : decode b_M_comes 45 = .ok (.getfield 128, 3) := by decide +kernel
theorem d_M_comes_48 : decode b_M_comes 48 = .ok (.iconst 0, 1) := by decide +kernel
theorem d_M_comes_49 : decode b_M_comes 49 = .ok (.iastore, 1) := by decide +kernel
theorem d_M_comes_50 : decode b_M_comes 50 = .ok (.aload_n 0, 1) := by decide +kernel
theorem d_M_comes_51 : decode b_M_comes 51 = .ok (.getfield 59, 3) := by decide +kernel
theorem d_M_comes_54 : decode b_M_comes 54 = .ok (.aload_n 0, 1) := by decide +kernel
theorem d_M_comes_55 : decode b_M_comes 55 = .ok (.getfield 128, 3) := by decide +kernel
theorem d_M_comes_58 : decode b_M_comes 58 = .ok (.iload 5, 2) := by decide +kernel
theorem d_M_comes_60 : decode b_M_comes 60 = .ok (.iastore, 1) := by decide +kernel
theorem d_M_comes_61 : decode b_M_comes 61 = .ok (.aload_n 0, 1) := by decide +kernel
theorem d_M_comes_62 : decode b_M_comes 62 = .ok (.getfield 62, 3) := by decide +kernel
theorem d_M_comes_65 : decode b_M_comes 65 = .ok (.aload_n 0, 1) := by decide +kernel
theorem d_M_comes_66 : decode b_M_comes 66 = .ok (.getfield 128, 3) := by decide +kernel
theorem d_M_comes_69 : decode b_M_comes 69 = .ok (.lload_n 3, 1) := by decide +kernel
theorem d_M_comes_70 : decode b_M_comes 70 = .ok (.lastore, 1) := by decide +kernel
theorem d_M_comes_71 : decode b_M_comes 71 = .ok (.aload_n 0, 1) := by decide +kernel
theorem d_M_comes_72 : decode b_M_comes 72 = .ok (.getfield 128, 3) := by decide +kernel
theorem d_M_comes_75 : decode b_M_comes 75 = .ok (.ireturn, 1) := by decide +kernel
theorem d_M_back_0 : decode b_M_back 0 = .ok (.aload_n 0, 1) := by decide +kernel
theorem d_M_back_1 : decode b_M_back 1 = .ok (.iconst 0, 1) := by decide +kernel
theorem d_M_back_2 : decode b_M_back 2 = .ok (.putfield 76, 3) := by decide +kernel
theorem d_M_back_5 : decode b_M_back 5 = .ok (.aload_n 0, 1) := by decide +kernel
theorem d_M_back_6 : decode b_M_back 6 = .ok (.iload_n 1, 1) := by decide +kernel
theorem d_M_back_7 : decode b_M_back 7 = .ok (.invokevirtual 118, 3) := by decide +kernel
theorem d_M_back_10 : decode b_M_back 10 = .ok (.ifCond .eq 31, 3) := by decide +kernel
theorem d_M_back_13 : decode b_M_back 13 = .ok (.lload_n 2, 1) := by decide +kernel
theorem d_M_back_14 : decode b_M_back 14 = .ok (.invokestatic 100, 3) := by decide +kernel
theorem d_M_back_17 : decode b_M_back 17 = .ok (.ifCond .eq 24, 3) := by decide +kernel
theorem d_M_back_20 : decode b_M_back 20 = .ok (.aload_n 0, 1) := by decide +kernel
theorem d_M_back_21 : decode b_M_back 21 = .ok (.iload_n 1, 1) := by decide +kernel
theorem d_M_back_22 : decode b_M_back 22 = .ok (.lload_n 2, 1) := by decide +kernel
theorem d_M_back_23 : decode b_M_back 23 = .ok (.invokevirtual 122, 3) := by decide +kernel
theorem d_M_back_26 : decode b_M_back 26 = .ok (.lconst 0, 1) := by decide +kernel
theorem d_M_back_27 : decode b_M_back 27 = .ok (.lcmp, 1) := by decide +kernel
theorem d_M_back_28 : decode b_M_back 28 = .ok (.ifCond .le 15, 3) := by decide +kernel
theorem d_M_back_31 : decode b_M_back 31 = .ok (.aload_n 0, 1) := by decide +kernel
theorem d_M_back_32 : decode b_M_back 32 = .ok (.getfield 128, 3) := by decide +kernel
theorem d_M_back_35 : decode b_M_back 35 = .ok (.sipush 200, 3) := by decide +kernel
theorem d_M_back_38 : decode b_M_back 38 = .ok (.if_icmp .ne 5, 3) := by decide +kernel
theorem d_M_back_41 : decode b_M_back 41 = .ok (.iconst (-1), 1) := by decide +kernel
theorem d_M_back_42 : decode b_M_back 42 = .ok (.ireturn, 1) := by decide +kernel
theorem d_M_back_43 : decode b_M_back 43 = .ok (.aload_n 0, 1) := by decide +kernel
theorem d_M_back_44 : decode b_M_back 44 = .ok (.getfield 38, 3) := by decide +kernel
theorem d_M_back_47 : decode b_M_back 47 = .ok (.iload_n 1, 1) := by decide +kernel
theorem d_M_back_48 : decode b_M_back 48 = .ok (.iconst 2, 1) := by decide +kernel
theorem d_M_back_49 : decode b_M_back 49 = .ok (.iastore, 1) := by decide +kernel
theorem d_M_back_50 : decode b_M_back 50 = .ok (.aload_n 0, 1) := by decide +kernel
theorem d_M_back_51 : decode b_M_back 51 = .ok (.iload_n 1, 1) := by decide +kernel
theorem d_M_back_52 : decode b_M_back 52 = .ok (.lload_n 2, 1) := by decide +kernel
theorem d_M_back_53 : decode b_M_back 53 = .ok (.invokevirtual 122, 3) := by decide +kernel
theorem d_M_back_56 : decode b_M_back 56 = .ok (.lconst 0, 1) := by decide +kernel
theorem d_M_back_57 : decode b_M_back 57 = .ok (.lcmp, 1) := by decide +kernel
theorem d_M_back_58 : decode b_M_back 58 = .ok (.ifCond .le 20, 3) := by decide +kernel
theorem d_M_back_61 : decode b_M_back 61 = .ok (.aload_n 0, 1) := by decide +kernel
theorem d_M_back_62 : decode b_M_back 62 = .ok (.iload_n 1, 1) := by decide +kernel
theorem d_M_back_63 : decode b_M_back 63 = .ok (.aload_n 0, 1) := by decide +kernel
theorem d_M_back_64 : decode b_M_back 64 = .ok (.iload_n 1, 1) := by decide +kernel
theorem d_M_back_65 : decode b_M_back 65 = .ok (.lload_n 2, 1) := by decide +kernel
theorem d_M_back_66 : decode b_M_back 66 = .ok (.invokevirtual 122, 3) := by decide +kernel
theorem d_M_back_69 : decode b_M_back 69 = .ok (.l2i, 1) := by decide +kernel
theorem d_M_back_70 : decode b_M_back 70 = .ok (.lload_n 2, 1) := by decide +kernel
theorem d_M_back_71 : decode b_M_back 71 = .ok (.iconst 0, 1) := by decide +kernel
theorem d_M_back_72 : decode b_M_back 72 = .ok (.invokevirtual 131, 3) := by decide +kernel
theorem d_M_back_75 : decode b_M_back 75 = .ok (.goto 4, 3) := by decide +kernel
theorem d_M_back_78 : decode b_M_back 78 = .ok (.iconst 0, 1) := by decide +kernel
theorem d_M_back_79 : decode b_M_back 79 = .ok (.ireturn, 1) := by decide +kernel
theorem d_M_lost_0 : decode b_M_lost 0 = .ok (.aload_n 0, 1) := by decide +kernel
theorem d_M_lost_1 : decode b_M_lost 1 = .ok (.iconst 0, 1) := by decide +kernel
theorem d_M_lost_2 : decode b_M_lost 2 = .ok (.putfield 76, 3) := by decide +kernel
theorem d_M_lost_5 : decode b_M_lost 5 = .ok (.aload_n 0, 1) := by decide +kernel
theorem d_M_lost_6 : decode b_M_lost 6 = .ok (.iload_n 1, 1) := by decide +kernel
theorem d_M_lost_7 : decode b_M_lost 7 = .ok (.invokevirtual 118, 3) := by decide +kernel
theorem d_M_lost_10 : decode b_M_lost 10 = .ok (.ifCond .eq 32, 3) := by decide +kernel
theorem d_M_lost_13 : decode b_M_lost 13 = .ok (.lload_n 3, 1) := by decide +kernel
theorem d_M_lost_14 : decode b_M_lost 14 = .ok (.invokestatic 100, 3) := by decide +kernel
theorem d_M_lost_17 : decode b_M_lost 17 = .ok (.ifCond .eq 25, 3) := by decide +kernel
theorem d_M_lost_20 : decode b_M_lost 20 = .ok (.iload_n 2, 1) := by decide +kernel
theorem d_M_lost_21 : decode b_M_lost 21 = .ok (.i2l, 1) := by decide +kernel
theorem d_M_lost_22 : decode b_M_lost 22 = .ok (.lconst 1, 1) := by decide +kernel
theorem d_M_lost_23 : decode b_M_lost 23 = .ok (.ldc2_w 87, 3) := by decide +kernel
theorem d_M_lost_26 : decode b_M_lost 26 = .ok (.invokestatic 81, 3) := by decide +kernel
theorem d_M_lost_29 : decode b_M_lost 29 = .ok (.ifCond .eq 13, 3) := by decide +kernel
theorem d_M_lost_32 : decode b_M_lost 32 = .ok (.aload_n 0, 1) := by decide +kernel
theorem d_M_lost_33 : decode b_M_lost 33 = .ok (.getfield 128, 3) := by decide +kernel
theorem d_M_lost_36 : decode b_M_lost 36 = .ok (.sipush 200, 3) := by decide +kernel
theorem d_M_lost_39 : decode b_M_lost 39 = .ok (.if_icmp .ne 5, 3) := by decide +kernel
theorem d_M_lost_42 : decode b_M_lost 42 = .ok (.iconst (-1), 1) := by decide +kernel
theorem d_M_lost_43 : decode b_M_lost 43 = .ok (.ireturn, 1) := by decide +kernel
theorem d_M_lost_44 : decode b_M_lost 44 = .ok (.aload_n 0, 1) := by decide +kernel
theorem d_M_lost_45 : decode b_M_lost 45 = .ok (.getfield 38, 3) := by decide +kernel
theorem d_M_lost_48 : decode b_M_lost 48 = .ok (.iload_n 1, 1) := by decide +kernel
theorem d_M_lost_49 : decode b_M_lost 49 = .ok (.iconst 3, 1) := by decide +kernel
theorem d_M_lost_50 : decode b_M_lost 50 = .ok (.iastore, 1) := by decide +kernel
theorem d_M_lost_51 : decode b_M_lost 51 = .ok (.aload_n 0, 1) := by decide +kernel
theorem d_M_lost_52 : decode b_M_lost 52 = .ok (.getfield 41, 3) := by decide +kernel
theorem d_M_lost_55 : decode b_M_lost 55 = .ok (.iload_n 1, 1) := by decide +kernel
theorem d_M_lost_56 : decode b_M_lost 56 = .ok (.aload_n 0, 1) := by decide +kernel
theorem d_M_lost_57 : decode b_M_lost 57 = .ok (.iload_n 1, 1) := by decide +kernel
theorem d_M_lost_58 : decode b_M_lost 58 = .ok (.iload_n 2, 1) := by decide +kernel
theorem d_M_lost_59 : decode b_M_lost 59 = .ok (.lload_n 3, 1) := by decide +kernel
theorem d_M_lost_60 : decode b_M_lost 60 = .ok (.iconst 1, 1) := by decide +kernel
theorem d_M_lost_61 : decode b_M_lost 61 = .ok (.invokevirtual 131, 3) := by decide +kernel
theorem d_M_lost_64 : decode b_M_lost 64 = .ok (.iastore, 1) := by decide +kernel
theorem d_M_lost_65 : decode b_M_lost 65 = .ok (.aload_n 0, 1) := by decide +kernel
theorem d_M_lost_66 : decode b_M_lost 66 = .ok (.getfield 41, 3) := by decide +kernel
theorem d_M_lost_69 : decode b_M_lost 69 = .ok (.iload_n 1, 1) := by decide +kernel
theorem d_M_lost_70 : decode b_M_lost 70 = .ok (.iaload, 1) := by decide +kernel
theorem d_M_lost_71 : decode b_M_lost 71 = .ok (.ireturn, 1) := by decide +kernel
theorem d_M_found_0 : decode b_M_found 0 = .ok (.aload_n 0, 1) := by decide +kernel
theorem d_M_found_1 : decode b_M_found 1 = .ok (.iconst 0, 1) := by decide +kernel
theorem d_M_found_2 : decode b_M_found 2 = .ok (.putfield 76, 3) := by decide +kernel
theorem d_M_found_5 : decode b_M_found 5 = .ok (.aload_n 0, 1) := by decide +kernel
theorem d_M_found_6 : decode b_M_found 6 = .ok (.iload_n 1, 1) := by decide +kernel
theorem d_M_found_7 : decode b_M_found 7 = .ok (.invokevirtual 114, 3) := by decide +kernel
theorem d_M_found_10 : decode b_M_found 10 = .ok (.istore 4, 2) := by decide +kernel
theorem d_M_found_12 : decode b_M_found 12 = .ok (.iload 4, 2) := by decide +kernel
theorem d_M_found_14 : decode b_M_found 14 = .ok (.ifCond .eq 43, 3) := by decide +kernel
theorem d_M_found_17 : decode b_M_found 17 = .ok (.aload_n 0, 1) := by decide +kernel
theorem d_M_found_18 : decode b_M_found 18 = .ok (.getfield 38, 3) := by decide +kernel
theorem d_M_found_21 : decode b_M_found 21 = .ok (.iload 4, 2) := by decide +kernel
theorem d_M_found_23 : decode b_M_found 23 = .ok (.iaload, 1) := by decide +kernel
theorem d_M_found_24 : decode b_M_found 24 = .ok (.iconst 3, 1) := by decide +kernel
theorem d_M_found_25 : decode b_M_found 25 = .ok (.if_icmp .ne 32, 3) := by decide +kernel
theorem d_M_found_28 : decode b_M_found 28 = .ok (.lload_n 2, 1) := by decide +kernel
theorem d_M_found_29 : decode b_M_found 29 = .ok (.invokestatic 100, 3) := by decide +kernel
theorem d_M_found_32 : decode b_M_found 32 = .ok (.ifCond .eq 25, 3) := by decide +kernel
theorem d_M_found_35 : decode b_M_found 35 = .ok (.aload_n 0, 1) := by decide +kernel
theorem d_M_found_36 : decode b_M_found 36 = .ok (.iload 4, 2) := by decide +kernel
theorem d_M_found_38 : decode b_M_found 38 = .ok (.lload_n 2, 1) := by decide +kernel
theorem d_M_found_39 : decode b_M_found 39 = .ok (.invokevirtual 122, 3) := by decide +kernel
theorem d_M_found_42 : decode b_M_found 42 = .ok (.lconst 0, 1) := by decide +kernel
theorem d_M_found_43 : decode b_M_found 43 = .ok (.lcmp, 1) := by decide +kernel
theorem d_M_found_44 : decode b_M_found 44 = .ok (.ifCond .le 17, 3) := by decide +kernel
theorem d_M_found_47 : decode b_M_found 47 = .ok (.aload_n 0, 1) := by decide +kernel
theorem d_M_found_48 : decode b_M_found 48 = .ok (.getfield 128, 3) := by decide +kernel
theorem d_M_found_51 : decode b_M_found 51 = .ok (.sipush 200, 3) := by decide +kernel
theorem d_M_found_54 : decode b_M_found 54 = .ok (.if_icmp .ne 7, 3) := by decide +kernel
theorem d_M_found_57 : decode b_M_found 57 = .ok (.ldc2_w 126, 3) := by decide +kernel
theorem d_M_found_60 : decode b_M_found 60 = .ok (.lreturn, 1) := by decide +kernel
theorem d_M_found_61 : decode b_M_found 61 = .ok (.aload_n 0, 1) := by decide +kernel
theorem d_M_found_62 : decode b_M_found 62 = .ok (.getfield 38, 3) := by decide +kernel
theorem d_M_found_65 : decode b_M_found 65 = .ok (.iload 4, 2) := by decide +kernel
theorem d_M_found_67 : decode b_M_found 67 = .ok (.iconst 2, 1) := by decide +kernel
theorem d_M_found_68 : decode b_M_found 68 = .ok (.iastore, 1) := by decide +kernel
theorem d_M_found_69 : decode b_M_found 69 = .ok (.aload_n 0, 1) := by decide +kernel
theorem d_M_found_70 : decode b_M_found 70 = .ok (.getfield 41, 3) := by decide +kernel
theorem d_M_found_73 : decode b_M_found 73 = .ok (.iload 4, 2) := by decide +kernel
theorem d_M_found_75 : decode b_M_found 75 = .ok (.iaload, 1) := by decide +kernel
theorem d_M_found_76 : decode b_M_found 76 = .ok (.istore 5, 2) := by decide +kernel
theorem d_M_found_78 : decode b_M_found 78 = .ok (.aload_n 0, 1) := by decide +kernel
theorem d_M_found_79 : decode b_M_found 79 = .ok (.getfield 53, 3) := by decide +kernel
theorem d_M_found_82 : decode b_M_found 82 = .ok (.iload 5, 2) := by decide +kernel
theorem d_M_found_84 : decode b_M_found 84 = .ok (.iconst 0, 1) := by decide +kernel
theorem d_M_found_85 : decode b_M_found 85 = .ok (.iastore, 1) := by decide +kernel
theorem d_M_found_86 : decode b_M_found 86 = .ok (.aload_n 0, 1) := by decide +kernel
theorem d_M_found_87 : decode b_M_found 87 = .ok (.getfield 69, 3) := by decide +kernel
theorem d_M_found_90 : decode b_M_found 90 = .ok (.aload_n 0, 1) := by decide +kernel
theorem d_M_found_91 : decode b_M_found 91 = .ok (.getfield 32, 3) := by decide +kernel
theorem d_M_found_94 : decode b_M_found 94 = .ok (.iload 4, 2) := by decide +kernel
theorem d_M_found_96 : decode b_M_found 96 = .ok (.iaload, 1) := by decide +kernel
theorem d_M_found_97 : decode b_M_found 97 = .ok (.dup2, 1) := by decide +kernel
theorem d_M_found_98 : decode b_M_found 98 = .ok (.laload, 1) := by decide +kernel
theorem d_M_found_99 : decode b_M_found 99 = .ok (.aload_n 0, 1) := by decide +kernel
theorem d_M_found_100 : decode b_M_found 100 = .ok (.getfield 56, 3) := by decide +kernel
theorem d_M_found_103 : decode b_M_found 103 = .ok (.iload 5, 2) := by decide +kernel
theorem d_M_found_105 : decode b_M_found 105 = .ok (.iaload, 1) := by decide +kernel
theorem d_M_found_106 : decode b_M_found 106 = .ok (.i2l, 1) := by decide +kernel
theorem d_M_found_107 : decode b_M_found 107 = .ok (.ladd, 1) := by decide +kernel
theorem d_M_found_108 : decode b_M_found 108 = .ok (.lastore, 1) := by decide +kernel
theorem d_M_found_109 : decode b_M_found 109 = .ok (.aload_n 0, 1) := by decide +kernel
theorem d_M_found_110 : decode b_M_found 110 = .ok (.iload 4, 2) := by decide +kernel
theorem d_M_found_112 : decode b_M_found 112 = .ok (.lload_n 2, 1) := by decide +kernel
theorem d_M_found_113 : decode b_M_found 113 = .ok (.invokevirtual 122, 3) := by decide +kernel
theorem d_M_found_116 : decode b_M_found 116 = .ok (.lconst 0, 1) := by decide +kernel
theorem d_M_found_117 : decode b_M_found 117 = .ok (.lcmp, 1) := by decide +kernel
theorem d_M_found_118 : decode b_M_found 118 = .ok (.ifCond .le 20, 3) := by decide +kernel
theorem d_M_found_121 : decode b_M_found 121 = .ok (.aload_n 0, 1) := by decide +kernel
theorem d_M_found_122 : decode b_M_found 122 = .ok (.iload 4, 2) := by decide +kernel
theorem d_M_found_124 : decode b_M_found 124 = .ok (.aload_n 0, 1) := by decide +kernel
theorem d_M_found_125 : decode b_M_found 125 = .ok (.iload 4, 2) := by decide +kernel
theorem d_M_found_127 : decode b_M_found 127 = .ok (.lload_n 2, 1) := by decide +kernel
theorem d_M_found_128 : decode b_M_found 128 = .ok (.invokevirtual 122, 3) := by decide +kernel
theorem d_M_found_131 : decode b_M_found 131 = .ok (.l2i, 1) := by decide +kernel
theorem d_M_found_132 : decode b_M_found 132 = .ok (.lload_n 2, 1) := by decide +kernel
theorem d_M_found_133 : decode b_M_found 133 = .ok (.iconst 0, 1) := by decide +kernel
theorem d_M_found_134 : decode b_M_found 134 = .ok (.invokevirtual 131, 3) := by decide +kernel
theorem d_M_found_137 : decode b_M_found 137 = .ok (.pop, 1) := by decide +kernel
theorem d_M_found_138 : decode b_M_found 138 = .ok (.aload_n 0, 1) := by decide +kernel
theorem d_M_found_139 : decode b_M_found 139 = .ok (.getfield 56, 3) := by decide +kernel
theorem d_M_found_142 : decode b_M_found 142 = .ok (.iload 5, 2) := by decide +kernel
theorem d_M_found_144 : decode b_M_found 144 = .ok (.iaload, 1) := by decide +kernel
theorem d_M_found_145 : decode b_M_found 145 = .ok (.i2l, 1) := by decide +kernel
theorem d_M_found_146 : decode b_M_found 146 = .ok (.lreturn, 1) := by decide +kernel
theorem d_M_personOf_0 : decode b_M_personOf 0 = .ok (.aload_n 0, 1) := by decide +kernel
theorem d_M_personOf_1 : decode b_M_personOf 1 = .ok (.getfield 32, 3) := by decide +kernel
theorem d_M_personOf_4 : decode b_M_personOf 4 = .ok (.aload_n 0, 1) := by decide +kernel
theorem d_M_personOf_5 : decode b_M_personOf 5 = .ok (.getfield 47, 3) := by decide +kernel
theorem d_M_personOf_8 : decode b_M_personOf 8 = .ok (.iload_n 1, 1) := by decide +kernel
theorem d_M_personOf_9 : decode b_M_personOf 9 = .ok (.iaload, 1) := by decide +kernel
theorem d_M_personOf_10 : decode b_M_personOf 10 = .ok (.iaload, 1) := by decide +kernel
theorem d_M_personOf_11 : decode b_M_personOf 11 = .ok (.ireturn, 1) := by decide +kernel
theorem d_M_next_0 : decode b_M_next 0 = .ok (.iconst 0, 1) := by decide +kernel
theorem d_M_next_1 : decode b_M_next 1 = .ok (.istore_n 2, 1) := by decide +kernel
theorem d_M_next_2 : decode b_M_next 2 = .ok (.iconst 1, 1) := by decide +kernel
theorem d_M_next_3 : decode b_M_next 3 = .ok (.istore_n 3, 1) := by decide +kernel
theorem d_M_next_4 : decode b_M_next 4 = .ok (.iload_n 3, 1) := by decide +kernel
theorem d_M_next_5 : decode b_M_next 5 = .ok (.aload_n 0, 1) := by decide +kernel
theorem d_M_next_6 : decode b_M_next 6 = .ok (.getfield 128, 3) := by decide +kernel
theorem d_M_next_9 : decode b_M_next 9 = .ok (.if_icmp .gt 65, 3) := by decide +kernel
theorem d_M_next_12 : decode b_M_next 12 = .ok (.aload_n 0, 1) := by decide +kernel
theorem d_M_next_13 : decode b_M_next 13 = .ok (.iload_n 3, 1) := by decide +kernel
theorem d_M_next_14 : decode b_M_next 14 = .ok (.invokevirtual 135, 3) := by decide +kernel
theorem d_M_next_17 : decode b_M_next 17 = .ok (.iload_n 1, 1) := by decide +kernel
theorem d_M_next_18 : decode b_M_next 18 = .ok (.if_icmp .ne 16, 3) := by decide +kernel
theorem d_M_next_21 : decode b_M_next 21 = .ok (.aload_n 0, 1) := by decide +kernel
theorem d_M_next_22 : decode b_M_next 22 = .ok (.getfield 65, 3) := by decide +kernel
theorem d_M_next_25 : decode b_M_next 25 = .ok (.iload_n 3, 1) := by decide +kernel
theorem d_M_next_26 : decode b_M_next 26 = .ok (.baload, 1) := by decide +kernel
theorem d_M_next_27 : decode b_M_next 27 = .ok (.ifCond .ne 7, 3) := by decide +kernel
theorem d_M_next_30 : decode b_M_next 30 = .ok (.iconst 1, 1) := by decide +kernel
theorem d_M_next_31 : decode b_M_next 31 = .ok (.goto 4, 3) := by decide +kernel
theorem d_M_next_34 : decode b_M_next 34 = .ok (.iconst 0, 1) := by decide +kernel
theorem d_M_next_35 : decode b_M_next 35 = .ok (.istore 4, 2) := by decide +kernel
theorem d_M_next_37 : decode b_M_next 37 = .ok (.iload 4, 2) := by decide +kernel
theorem d_M_next_39 : decode b_M_next 39 = .ok (.ifCond .eq 27, 3) := by decide +kernel
theorem d_M_next_42 : decode b_M_next 42 = .ok (.iload_n 2, 1) := by decide +kernel
theorem d_M_next_43 : decode b_M_next 43 = .ok (.ifCond .eq 19, 3) := by decide +kernel
theorem d_M_next_46 : decode b_M_next 46 = .ok (.aload_n 0, 1) := by decide +kernel
theorem d_M_next_47 : decode b_M_next 47 = .ok (.getfield 62, 3) := by decide +kernel
theorem d_M_next_50 : decode b_M_next 50 = .ok (.iload_n 3, 1) := by decide +kernel
theorem d_M_next_51 : decode b_M_next 51 = .ok (.laload, 1) := by decide +kernel
theorem d_M_next_52 : decode b_M_next 52 = .ok (.aload_n 0, 1) := by decide +kernel
theorem d_M_next_53 : decode b_M_next 53 = .ok (.getfield 62, 3) := by decide +kernel
theorem d_M_next_56 : decode b_M_next 56 = .ok (.iload_n 2, 1) := by decide +kernel
theorem d_M_next_57 : decode b_M_next 57 = .ok (.laload, 1) := by decide +kernel
theorem d_M_next_58 : decode b_M_next 58 = .ok (.lcmp, 1) := by decide +kernel
theorem d_M_next_59 : decode b_M_next 59 = .ok (.ifCond .ge 7, 3) := by decide +kernel
theorem d_M_next_62 : decode b_M_next 62 = .ok (.iload_n 3, 1) := by decide +kernel
theorem d_M_next_63 : decode b_M_next 63 = .ok (.goto 4, 3) := by decide +kernel
theorem d_M_next_66 : decode b_M_next 66 = .ok (.iload_n 2, 1) := by decide +kernel
theorem d_M_next_67 : decode b_M_next 67 = .ok (.istore_n 2, 1) := by decide +kernel
theorem d_M_next_68 : decode b_M_next 68 = .ok (.iinc 3 1, 3) := by decide +kernel
theorem d_M_next_71 : decode b_M_next 71 = .ok (.goto (-67), 3) := by decide +kernel
theorem d_M_next_74 : decode b_M_next 74 = .ok (.iload_n 2, 1) := by decide +kernel
theorem d_M_next_75 : decode b_M_next 75 = .ok (.ireturn, 1) := by decide +kernel
theorem d_M_pay_0 : decode b_M_pay 0 = .ok (.aload_n 0, 1) := by decide +kernel
theorem d_M_pay_1 : decode b_M_pay 1 = .ok (.iconst 0, 1) := by decide +kernel
theorem d_M_pay_2 : decode b_M_pay 2 = .ok (.putfield 76, 3) := by decide +kernel
theorem d_M_pay_5 : decode b_M_pay 5 = .ok (.iload_n 1, 1) := by decide +kernel
theorem d_M_pay_6 : decode b_M_pay 6 = .ok (.i2l, 1) := by decide +kernel
theorem d_M_pay_7 : decode b_M_pay 7 = .ok (.lconst 0, 1) := by decide +kernel
theorem d_M_pay_8 : decode b_M_pay 8 = .ok (.ldc2_w 112, 3) := by decide +kernel
theorem d_M_pay_11 : decode b_M_pay 11 = .ok (.invokestatic 81, 3) := by decide +kernel
theorem d_M_pay_14 : decode b_M_pay 14 = .ok (.ifCond .eq 15, 3) := by decide +kernel
theorem d_M_pay_17 : decode b_M_pay 17 = .ok (.iload_n 2, 1) := by decide +kernel
theorem d_M_pay_18 : decode b_M_pay 18 = .ok (.i2l, 1) := by decide +kernel
theorem d_M_pay_19 : decode b_M_pay 19 = .ok (.lconst 1, 1) := by decide +kernel
theorem d_M_pay_20 : decode b_M_pay 20 = .ok (.ldc2_w 87, 3) := by decide +kernel
theorem d_M_pay_23 : decode b_M_pay 23 = .ok (.invokestatic 81, 3) := by decide +kernel
theorem d_M_pay_26 : decode b_M_pay 26 = .ok (.ifCond .ne 5, 3) := by decide +kernel
theorem d_M_pay_29 : decode b_M_pay 29 = .ok (.iconst (-1), 1) := by decide +kernel
theorem d_M_pay_30 : decode b_M_pay 30 = .ok (.ireturn, 1) := by decide +kernel
theorem d_M_pay_31 : decode b_M_pay 31 = .ok (.aload_n 0, 1) := by decide +kernel
theorem d_M_pay_32 : decode b_M_pay 32 = .ok (.getfield 69, 3) := by decide +kernel
theorem d_M_pay_35 : decode b_M_pay 35 = .ok (.iload_n 1, 1) := by decide +kernel
theorem d_M_pay_36 : decode b_M_pay 36 = .ok (.laload, 1) := by decide +kernel
theorem d_M_pay_37 : decode b_M_pay 37 = .ok (.iload_n 2, 1) := by decide +kernel
theorem d_M_pay_38 : decode b_M_pay 38 = .ok (.i2l, 1) := by decide +kernel
theorem d_M_pay_39 : decode b_M_pay 39 = .ok (.ladd, 1) := by decide +kernel
theorem d_M_pay_40 : decode b_M_pay 40 = .ok (.lstore_n 3, 1) := by decide +kernel
theorem d_M_pay_41 : decode b_M_pay 41 = .ok (.iconst 1, 1) := by decide +kernel
theorem d_M_pay_42 : decode b_M_pay 42 = .ok (.istore 5, 2) := by decide +kernel
theorem d_M_pay_44 : decode b_M_pay 44 = .ok (.iload 5, 2) := by decide +kernel
theorem d_M_pay_46 : decode b_M_pay 46 = .ok (.aload_n 0, 1) := by decide +kernel
theorem d_M_pay_47 : decode b_M_pay 47 = .ok (.getfield 128, 3) := by decide +kernel
theorem d_M_pay_50 : decode b_M_pay 50 = .ok (.if_icmp .gt 17, 3) := by decide +kernel
theorem d_M_pay_53 : decode b_M_pay 53 = .ok (.aload_n 0, 1) := by decide +kernel
theorem d_M_pay_54 : decode b_M_pay 54 = .ok (.getfield 65, 3) := by decide +kernel
theorem d_M_pay_57 : decode b_M_pay 57 = .ok (.iload 5, 2) := by decide +kernel
theorem d_M_pay_59 : decode b_M_pay 59 = .ok (.iconst 0, 1) := by decide +kernel
theorem d_M_pay_60 : decode b_M_pay 60 = .ok (.bastore, 1) := by decide +kernel
theorem d_M_pay_61 : decode b_M_pay 61 = .ok (.iinc 5 1, 3) := by decide +kernel
theorem d_M_pay_64 : decode b_M_pay 64 = .ok (.goto (-20), 3) := by decide +kernel
theorem d_M_pay_67 : decode b_M_pay 67 = .ok (.iconst 0, 1) := by decide +kernel
theorem d_M_pay_68 : decode b_M_pay 68 = .ok (.istore 5, 2) := by decide +kernel
theorem d_M_pay_70 : decode b_M_pay 70 = .ok (.aload_n 0, 1) := by decide +kernel
theorem d_M_pay_71 : decode b_M_pay 71 = .ok (.iload_n 1, 1) := by decide +kernel
theorem d_M_pay_72 : decode b_M_pay 72 = .ok (.invokevirtual 138, 3) := by decide +kernel
theorem d_M_pay_75 : decode b_M_pay 75 = .ok (.istore 6, 2) := by decide +kernel
theorem d_M_pay_77 : decode b_M_pay 77 = .ok (.iload 6, 2) := by decide +kernel
theorem d_M_pay_79 : decode b_M_pay 79 = .ok (.ifCond .le 93, 3) := by decide +kernel
theorem d_M_pay_82 : decode b_M_pay 82 = .ok (.aload_n 0, 1) := by decide +kernel
theorem d_M_pay_83 : decode b_M_pay 83 = .ok (.getfield 65, 3) := by decide +kernel
theorem d_M_pay_86 : decode b_M_pay 86 = .ok (.iload 6, 2) := by decide +kernel
theorem d_M_pay_88 : decode b_M_pay 88 = .ok (.iconst 1, 1) := by decide +kernel
theorem d_M_pay_89 : decode b_M_pay 89 = .ok (.bastore, 1) := by decide +kernel
theorem d_M_pay_90 : decode b_M_pay 90 = .ok (.aload_n 0, 1) := by decide +kernel
theorem d_M_pay_91 : decode b_M_pay 91 = .ok (.getfield 53, 3) := by decide +kernel
theorem d_M_pay_94 : decode b_M_pay 94 = .ok (.iload 6, 2) := by decide +kernel
theorem d_M_pay_96 : decode b_M_pay 96 = .ok (.iaload, 1) := by decide +kernel
theorem d_M_pay_97 : decode b_M_pay 97 = .ok (.i2l, 1) := by decide +kernel
theorem d_M_pay_98 : decode b_M_pay 98 = .ok (.lload_n 3, 1) := by decide +kernel
theorem d_M_pay_99 : decode b_M_pay 99 = .ok (.lcmp, 1) := by decide +kernel
theorem d_M_pay_100 : decode b_M_pay 100 = .ok (.ifCond .ge 13, 3) := by decide +kernel
theorem d_M_pay_103 : decode b_M_pay 103 = .ok (.aload_n 0, 1) := by decide +kernel
theorem d_M_pay_104 : decode b_M_pay 104 = .ok (.getfield 53, 3) := by decide +kernel
theorem d_M_pay_107 : decode b_M_pay 107 = .ok (.iload 6, 2) := by decide +kernel
theorem d_M_pay_109 : decode b_M_pay 109 = .ok (.iaload, 1) := by decide +kernel
theorem d_M_pay_110 : decode b_M_pay 110 = .ok (.goto 5, 3) := by decide +kernel
theorem d_M_pay_113 : decode b_M_pay 113 = .ok (.lload_n 3, 1) := by decide +kernel
theorem d_M_pay_114 : decode b_M_pay 114 = .ok (.l2i, 1) := by decide +kernel
theorem d_M_pay_115 : decode b_M_pay 115 = .ok (.istore 7, 2) := by decide +kernel
theorem d_M_pay_117 : decode b_M_pay 117 = .ok (.aload_n 0, 1) := by decide +kernel
theorem d_M_pay_118 : decode b_M_pay 118 = .ok (.getfield 53, 3) := by decide +kernel
theorem d_M_pay_121 : decode b_M_pay 121 = .ok (.iload 6, 2) := by decide +kernel
theorem d_M_pay_123 : decode b_M_pay 123 = .ok (.dup2, 1) := by decide +kernel
theorem d_M_pay_124 : decode b_M_pay 124 = .ok (.iaload, 1) := by decide +kernel
theorem d_M_pay_125 : decode b_M_pay 125 = .ok (.iload 7, 2) := by decide +kernel
theorem d_M_pay_127 : decode b_M_pay 127 = .ok (.isub, 1) := by decide +kernel
theorem d_M_pay_128 : decode b_M_pay 128 = .ok (.iastore, 1) := by decide +kernel
theorem d_M_pay_129 : decode b_M_pay 129 = .ok (.aload_n 0, 1) := by decide +kernel
theorem d_M_pay_130 : decode b_M_pay 130 = .ok (.getfield 56, 3) := by decide +kernel
theorem d_M_pay_133 : decode b_M_pay 133 = .ok (.iload 6, 2) := by decide +kernel
theorem d_M_pay_135 : decode b_M_pay 135 = .ok (.dup2, 1) := by decide +kernel
theorem d_M_pay_136 : decode b_M_pay 136 = .ok (.iaload, 1) := by decide +kernel
theorem d_M_pay_137 : decode b_M_pay 137 = .ok (.iload 7, 2) := by decide +kernel
theorem d_M_pay_139 : decode b_M_pay 139 = .ok (.iadd, 1) := by decide +kernel
theorem d_M_pay_140 : decode b_M_pay 140 = .ok (.iastore, 1) := by decide +kernel
theorem d_M_pay_141 : decode b_M_pay 141 = .ok (.lload_n 3, 1) := by decide +kernel
theorem d_M_pay_142 : decode b_M_pay 142 = .ok (.iload 7, 2) := by decide +kernel
theorem d_M_pay_144 : decode b_M_pay 144 = .ok (.i2l, 1) := by decide +kernel
theorem d_M_pay_145 : decode b_M_pay 145 = .ok (.lsub, 1) := by decide +kernel
theorem d_M_pay_146 : decode b_M_pay 146 = .ok (.lstore_n 3, 1) := by decide +kernel
theorem d_M_pay_147 : decode b_M_pay 147 = .ok (.iload 5, 2) := by decide +kernel
theorem d_M_pay_149 : decode b_M_pay 149 = .ok (.iload 7, 2) := by decide +kernel
theorem d_M_pay_151 : decode b_M_pay 151 = .ok (.ifCond .le 7, 3) := by decide +kernel
theorem d_M_pay_154 : decode b_M_pay 154 = .ok (.iconst 1, 1) := by decide +kernel
theorem d_M_pay_155 : decode b_M_pay 155 = .ok (.goto 4, 3) := by decide +kernel
theorem d_M_pay_158 : decode b_M_pay 158 = .ok (.iconst 0, 1) := by decide +kernel
theorem d_M_pay_159 : decode b_M_pay 159 = .ok (.iadd, 1) := by decide +kernel
theorem d_M_pay_160 : decode b_M_pay 160 = .ok (.istore 5, 2) := by decide +kernel
theorem d_M_pay_162 : decode b_M_pay 162 = .ok (.aload_n 0, 1) := by decide +kernel
theorem d_M_pay_163 : decode b_M_pay 163 = .ok (.iload_n 1, 1) := by decide +kernel
theorem d_M_pay_164 : decode b_M_pay 164 = .ok (.invokevirtual 138, 3) := by decide +kernel
theorem d_M_pay_167 : decode b_M_pay 167 = .ok (.istore 6, 2) := by decide +kernel
theorem d_M_pay_169 : decode b_M_pay 169 = .ok (.goto (-92), 3) := by decide +kernel
theorem d_M_pay_172 : decode b_M_pay 172 = .ok (.aload_n 0, 1) := by decide +kernel
theorem d_M_pay_173 : decode b_M_pay 173 = .ok (.getfield 69, 3) := by decide +kernel
theorem d_M_pay_176 : decode b_M_pay 176 = .ok (.iload_n 1, 1) := by decide +kernel
theorem d_M_pay_177 : decode b_M_pay 177 = .ok (.lload_n 3, 1) := by decide +kernel
theorem d_M_pay_178 : decode b_M_pay 178 = .ok (.lastore, 1) := by decide +kernel
theorem d_M_pay_179 : decode b_M_pay 179 = .ok (.iload 5, 2) := by decide +kernel
theorem d_M_pay_181 : decode b_M_pay 181 = .ok (.ireturn, 1) := by decide +kernel
theorem d_M_isDebt_0 : decode b_M_isDebt 0 = .ok (.iload_n 1, 1) := by decide +kernel
theorem d_M_isDebt_1 : decode b_M_isDebt 1 = .ok (.i2l, 1) := by decide +kernel
theorem d_M_isDebt_2 : decode b_M_isDebt 2 = .ok (.lconst 1, 1) := by decide +kernel
theorem d_M_isDebt_3 : decode b_M_isDebt 3 = .ok (.aload_n 0, 1) := by decide +kernel
theorem d_M_isDebt_4 : decode b_M_isDebt 4 = .ok (.getfield 128, 3) := by decide +kernel
theorem d_M_isDebt_7 : decode b_M_isDebt 7 = .ok (.i2l, 1) := by decide +kernel
theorem d_M_isDebt_8 : decode b_M_isDebt 8 = .ok (.invokestatic 81, 3) := by decide +kernel
theorem d_M_isDebt_11 : decode b_M_isDebt 11 = .ok (.ireturn, 1) := by decide +kernel
theorem d_M_waive_0 : decode b_M_waive 0 = .ok (.aload_n 0, 1) := by decide +kernel
theorem d_M_waive_1 : decode b_M_waive 1 = .ok (.iconst 0, 1) := by decide +kernel
theorem d_M_waive_2 : decode b_M_waive 2 = .ok (.putfield 76, 3) := by decide +kernel
theorem d_M_waive_5 : decode b_M_waive 5 = .ok (.aload_n 0, 1) := by decide +kernel
theorem d_M_waive_6 : decode b_M_waive 6 = .ok (.iload_n 1, 1) := by decide +kernel
theorem d_M_waive_7 : decode b_M_waive 7 = .ok (.invokevirtual 141, 3) := by decide +kernel
theorem d_M_waive_10 : decode b_M_waive 10 = .ok (.ifCond .eq 15, 3) := by decide +kernel
theorem d_M_waive_13 : decode b_M_waive 13 = .ok (.iload_n 2, 1) := by decide +kernel
theorem d_M_waive_14 : decode b_M_waive 14 = .ok (.i2l, 1) := by decide +kernel
theorem d_M_waive_15 : decode b_M_waive 15 = .ok (.lconst 0, 1) := by decide +kernel
theorem d_M_waive_16 : decode b_M_waive 16 = .ok (.ldc2_w 85, 3) := by decide +kernel
theorem d_M_waive_19 : decode b_M_waive 19 = .ok (.invokestatic 81, 3) := by decide +kernel
theorem d_M_waive_22 : decode b_M_waive 22 = .ok (.ifCond .ne 7, 3) := by decide +kernel
theorem d_M_waive_25 : decode b_M_waive 25 = .ok (.ldc2_w 126, 3) := by decide +kernel
theorem d_M_waive_28 : decode b_M_waive 28 = .ok (.lreturn, 1) := by decide +kernel
theorem d_M_waive_29 : decode b_M_waive 29 = .ok (.aload_n 0, 1) := by decide +kernel
theorem d_M_waive_30 : decode b_M_waive 30 = .ok (.getfield 53, 3) := by decide +kernel
theorem d_M_waive_33 : decode b_M_waive 33 = .ok (.iload_n 1, 1) := by decide +kernel
theorem d_M_waive_34 : decode b_M_waive 34 = .ok (.iaload, 1) := by decide +kernel
theorem d_M_waive_35 : decode b_M_waive 35 = .ok (.iload_n 2, 1) := by decide +kernel
theorem d_M_waive_36 : decode b_M_waive 36 = .ok (.if_icmp .le 7, 3) := by decide +kernel
theorem d_M_waive_39 : decode b_M_waive 39 = .ok (.iconst 0, 1) := by decide +kernel
theorem d_M_waive_40 : decode b_M_waive 40 = .ok (.goto 9, 3) := by decide +kernel
theorem d_M_waive_43 : decode b_M_waive 43 = .ok (.aload_n 0, 1) := by decide +kernel
theorem d_M_waive_44 : decode b_M_waive 44 = .ok (.getfield 53, 3) := by decide +kernel
theorem d_M_waive_47 : decode b_M_waive 47 = .ok (.iload_n 1, 1) := by decide +kernel
theorem d_M_waive_48 : decode b_M_waive 48 = .ok (.iaload, 1) := by decide +kernel
theorem d_M_waive_49 : decode b_M_waive 49 = .ok (.istore_n 3, 1) := by decide +kernel
theorem d_M_waive_50 : decode b_M_waive 50 = .ok (.aload_n 0, 1) := by decide +kernel
theorem d_M_waive_51 : decode b_M_waive 51 = .ok (.getfield 53, 3) := by decide +kernel
theorem d_M_waive_54 : decode b_M_waive 54 = .ok (.iload_n 1, 1) := by decide +kernel
theorem d_M_waive_55 : decode b_M_waive 55 = .ok (.dup2, 1) := by decide +kernel
theorem d_M_waive_56 : decode b_M_waive 56 = .ok (.iaload, 1) := by decide +kernel
theorem d_M_waive_57 : decode b_M_waive 57 = .ok (.iload_n 3, 1) := by decide +kernel
theorem d_M_waive_58 : decode b_M_waive 58 = .ok (.isub, 1) := by decide +kernel
theorem d_M_waive_59 : decode b_M_waive 59 = .ok (.iastore, 1) := by decide +kernel
theorem d_M_waive_60 : decode b_M_waive 60 = .ok (.iload_n 3, 1) := by decide +kernel
theorem d_M_waive_61 : decode b_M_waive 61 = .ok (.i2l, 1) := by decide +kernel
theorem d_M_waive_62 : decode b_M_waive 62 = .ok (.lreturn, 1) := by decide +kernel
theorem d_M_interestOf_0 : decode b_M_interestOf 0 = .ok (.lload_n 2, 1) := by decide +kernel
theorem d_M_interestOf_1 : decode b_M_interestOf 1 = .ok (.aload_n 0, 1) := by decide +kernel
theorem d_M_interestOf_2 : decode b_M_interestOf 2 = .ok (.getfield 62, 3) := by decide +kernel
theorem d_M_interestOf_5 : decode b_M_interestOf 5 = .ok (.iload_n 1, 1) := by decide +kernel
theorem d_M_interestOf_6 : decode b_M_interestOf 6 = .ok (.laload, 1) := by decide +kernel
theorem d_M_interestOf_7 : decode b_M_interestOf 7 = .ok (.lcmp, 1) := by decide +kernel
theorem d_M_interestOf_8 : decode b_M_interestOf 8 = .ok (.ifCond .ge 7, 3) := by decide +kernel
theorem d_M_interestOf_11 : decode b_M_interestOf 11 = .ok (.lconst 0, 1) := by decide +kernel
theorem d_M_interestOf_12 : decode b_M_interestOf 12 = .ok (.goto 15, 3) := by decide +kernel
theorem d_M_interestOf_15 : decode b_M_interestOf 15 = .ok (.lload_n 2, 1) := by decide +kernel
theorem d_M_interestOf_16 : decode b_M_interestOf 16 = .ok (.aload_n 0, 1) := by decide +kernel
theorem d_M_interestOf_17 : decode b_M_interestOf 17 = .ok (.getfield 62, 3) := by decide +kernel
theorem d_M_interestOf_20 : decode b_M_interestOf 20 = .ok (.iload_n 1, 1) := by decide +kernel
theorem d_M_interestOf_21 : decode b_M_interestOf 21 = .ok (.laload, 1) := by decide +kernel
theorem d_M_interestOf_22 : decode b_M_interestOf 22 = .ok (.lsub, 1) := by decide +kernel
theorem d_M_interestOf_23 : decode b_M_interestOf 23 = .ok (.ldc2_w 144, 3) := by decide +kernel
theorem d_M_interestOf_26 : decode b_M_interestOf 26 = .ok (.ldiv, 1) := by decide +kernel
theorem d_M_interestOf_27 : decode b_M_interestOf 27 = .ok (.lstore 4, 2) := by decide +kernel
theorem d_M_interestOf_29 : decode b_M_interestOf 29 = .ok (.aload_n 0, 1) := by decide +kernel
theorem d_M_interestOf_30 : decode b_M_interestOf 30 = .ok (.getfield 35, 3) := by decide +kernel
theorem d_M_interestOf_33 : decode b_M_interestOf 33 = .ok (.aload_n 0, 1) := by decide +kernel
theorem d_M_interestOf_34 : decode b_M_interestOf 34 = .ok (.getfield 47, 3) := by decide +kernel
theorem d_M_interestOf_37 : decode b_M_interestOf 37 = .ok (.iload_n 1, 1) := by decide +kernel
theorem d_M_interestOf_38 : decode b_M_interestOf 38 = .ok (.iaload, 1) := by decide +kernel
theorem d_M_interestOf_39 : decode b_M_interestOf 39 = .ok (.iaload, 1) := by decide +kernel
theorem d_M_interestOf_40 : decode b_M_interestOf 40 = .ok (.istore 6, 2) := by decide +kernel
theorem d_M_interestOf_42 : decode b_M_interestOf 42 = .ok (.aload_n 0, 1) := by decide +kernel
theorem d_M_interestOf_43 : decode b_M_interestOf 43 = .ok (.getfield 53, 3) := by decide +kernel
theorem d_M_interestOf_46 : decode b_M_interestOf 46 = .ok (.iload_n 1, 1) := by decide +kernel
theorem d_M_interestOf_47 : decode b_M_interestOf 47 = .ok (.iaload, 1) := by decide +kernel
theorem d_M_interestOf_48 : decode b_M_interestOf 48 = .ok (.i2l, 1) := by decide +kernel
theorem d_M_interestOf_49 : decode b_M_interestOf 49 = .ok (.aload_n 0, 1) := by decide +kernel
theorem d_M_interestOf_50 : decode b_M_interestOf 50 = .ok (.getfield 19, 3) := by decide +kernel
theorem d_M_interestOf_53 : decode b_M_interestOf 53 = .ok (.iload 6, 2) := by decide +kernel
theorem d_M_interestOf_55 : decode b_M_interestOf 55 = .ok (.iaload, 1) := by decide +kernel
theorem d_M_interestOf_56 : decode b_M_interestOf 56 = .ok (.i2l, 1) := by decide +kernel
theorem d_M_interestOf_57 : decode b_M_interestOf 57 = .ok (.lmul, 1) := by decide +kernel
theorem d_M_interestOf_58 : decode b_M_interestOf 58 = .ok (.lload 4, 2) := by decide +kernel
theorem d_M_interestOf_60 : decode b_M_interestOf 60 = .ok (.lmul, 1) := by decide +kernel
theorem d_M_interestOf_61 : decode b_M_interestOf 61 = .ok (.aload_n 0, 1) := by decide +kernel
theorem d_M_interestOf_62 : decode b_M_interestOf 62 = .ok (.getfield 22, 3) := by decide +kernel
theorem d_M_interestOf_65 : decode b_M_interestOf 65 = .ok (.iload 6, 2) := by decide +kernel
theorem d_M_interestOf_67 : decode b_M_interestOf 67 = .ok (.iaload, 1) := by decide +kernel
theorem d_M_interestOf_68 : decode b_M_interestOf 68 = .ok (.i2l, 1) := by decide +kernel
theorem d_M_interestOf_69 : decode b_M_interestOf 69 = .ok (.ldiv, 1) := by decide +kernel
theorem d_M_interestOf_70 : decode b_M_interestOf 70 = .ok (.lreturn, 1) := by decide +kernel
theorem d_M_leftOf_0 : decode b_M_leftOf 0 = .ok (.lconst 0, 1) := by decide +kernel
theorem d_M_leftOf_1 : decode b_M_leftOf 1 = .ok (.lstore_n 2, 1) := by decide +kernel
theorem d_M_leftOf_2 : decode b_M_leftOf 2 = .ok (.iconst 1, 1) := by decide +kernel
theorem d_M_leftOf_3 : decode b_M_leftOf 3 = .ok (.istore 4, 2) := by decide +kernel
theorem d_M_leftOf_5 : decode b_M_leftOf 5 = .ok (.iload 4, 2) := by decide +kernel
theorem d_M_leftOf_7 : decode b_M_leftOf 7 = .ok (.aload_n 0, 1) := by decide +kernel
theorem d_M_leftOf_8 : decode b_M_leftOf 8 = .ok (.getfield 128, 3) := by decide +kernel
theorem d_M_leftOf_11 : decode b_M_leftOf 11 = .ok (.if_icmp .gt 34, 3) := by decide +kernel
theorem d_M_leftOf_14 : decode b_M_leftOf 14 = .ok (.lload_n 2, 1) := by decide +kernel
theorem d_M_leftOf_15 : decode b_M_leftOf 15 = .ok (.aload_n 0, 1) := by decide +kernel
theorem d_M_leftOf_16 : decode b_M_leftOf 16 = .ok (.iload 4, 2) := by decide +kernel
theorem d_M_leftOf_18 : decode b_M_leftOf 18 = .ok (.invokevirtual 135, 3) := by decide +kernel
theorem d_M_leftOf_21 : decode b_M_leftOf 21 = .ok (.iload_n 1, 1) := by decide +kernel
theorem d_M_leftOf_22 : decode b_M_leftOf 22 = .ok (.if_icmp .ne 14, 3) := by decide +kernel
theorem d_M_leftOf_25 : decode b_M_leftOf 25 = .ok (.aload_n 0, 1) := by decide +kernel
theorem d_M_leftOf_26 : decode b_M_leftOf 26 = .ok (.getfield 53, 3) := by decide +kernel
theorem d_M_leftOf_29 : decode b_M_leftOf 29 = .ok (.iload 4, 2) := by decide +kernel
theorem d_M_leftOf_31 : decode b_M_leftOf 31 = .ok (.iaload, 1) := by decide +kernel
theorem d_M_leftOf_32 : decode b_M_leftOf 32 = .ok (.i2l, 1) := by decide +kernel
theorem d_M_leftOf_33 : decode b_M_leftOf 33 = .ok (.goto 4, 3) := by decide +kernel
theorem d_M_leftOf_36 : decode b_M_leftOf 36 = .ok (.lconst 0, 1) := by decide +kernel
theorem d_M_leftOf_37 : decode b_M_leftOf 37 = .ok (.ladd, 1) := by decide +kernel
theorem d_M_leftOf_38 : decode b_M_leftOf 38 = .ok (.lstore_n 2, 1) := by decide +kernel
theorem d_M_leftOf_39 : decode b_M_leftOf 39 = .ok (.iinc 4 1, 3) := by decide +kernel
theorem d_M_leftOf_42 : decode b_M_leftOf 42 = .ok (.goto (-37), 3) := by decide +kernel
theorem d_M_leftOf_45 : decode b_M_leftOf 45 = .ok (.lload_n 2, 1) := by decide +kernel
theorem d_M_leftOf_46 : decode b_M_leftOf 46 = .ok (.lreturn, 1) := by decide +kernel
theorem d_M_owes_0 : decode b_M_owes 0 = .ok (.aload_n 0, 1) := by decide +kernel
theorem d_M_owes_1 : decode b_M_owes 1 = .ok (.iconst 0, 1) := by decide +kernel
theorem d_M_owes_2 : decode b_M_owes 2 = .ok (.putfield 76, 3) := by decide +kernel
theorem d_M_owes_5 : decode b_M_owes 5 = .ok (.iload_n 1, 1) := by decide +kernel
theorem d_M_owes_6 : decode b_M_owes 6 = .ok (.i2l, 1) := by decide +kernel
theorem d_M_owes_7 : decode b_M_owes 7 = .ok (.lconst 0, 1) := by decide +kernel
theorem d_M_owes_8 : decode b_M_owes 8 = .ok (.ldc2_w 112, 3) := by decide +kernel
theorem d_M_owes_11 : decode b_M_owes 11 = .ok (.invokestatic 81, 3) := by decide +kernel
theorem d_M_owes_14 : decode b_M_owes 14 = .ok (.ifCond .ne 7, 3) := by decide +kernel
theorem d_M_owes_17 : decode b_M_owes 17 = .ok (.ldc2_w 146, 3) := by decide +kernel
theorem d_M_owes_20 : decode b_M_owes 20 = .ok (.lreturn, 1) := by decide +kernel
theorem d_M_owes_21 : decode b_M_owes 21 = .ok (.aload_n 0, 1) := by decide +kernel
theorem d_M_owes_22 : decode b_M_owes 22 = .ok (.iload_n 1, 1) := by decide +kernel
theorem d_M_owes_23 : decode b_M_owes 23 = .ok (.invokevirtual 148, 3) := by decide +kernel
theorem d_M_owes_26 : decode b_M_owes 26 = .ok (.aload_n 0, 1) := by decide +kernel
theorem d_M_owes_27 : decode b_M_owes 27 = .ok (.getfield 69, 3) := by decide +kernel
theorem d_M_owes_30 : decode b_M_owes 30 = .ok (.iload_n 1, 1) := by decide +kernel
theorem d_M_owes_31 : decode b_M_owes 31 = .ok (.laload, 1) := by decide +kernel
theorem d_M_owes_32 : decode b_M_owes 32 = .ok (.lsub, 1) := by decide +kernel
theorem d_M_owes_33 : decode b_M_owes 33 = .ok (.lstore 4, 2) := by decide +kernel
theorem d_M_owes_35 : decode b_M_owes 35 = .ok (.iconst 1, 1) := by decide +kernel
theorem d_M_owes_36 : decode b_M_owes 36 = .ok (.istore 6, 2) := by decide +kernel
theorem d_M_owes_38 : decode b_M_owes 38 = .ok (.iload 6, 2) := by decide +kernel
theorem d_M_owes_40 : decode b_M_owes 40 = .ok (.aload_n 0, 1) := by decide +kernel
theorem d_M_owes_41 : decode b_M_owes 41 = .ok (.getfield 128, 3) := by decide +kernel
theorem d_M_owes_44 : decode b_M_owes 44 = .ok (.if_icmp .gt 55, 3) := by decide +kernel
theorem d_M_owes_47 : decode b_M_owes 47 = .ok (.lload_n 2, 1) := by decide +kernel
theorem d_M_owes_48 : decode b_M_owes 48 = .ok (.lconst 0, 1) := by decide +kernel
theorem d_M_owes_49 : decode b_M_owes 49 = .ok (.lcmp, 1) := by decide +kernel
theorem d_M_owes_50 : decode b_M_owes 50 = .ok (.ifCond .lt 49, 3) := by decide +kernel
theorem d_M_owes_53 : decode b_M_owes 53 = .ok (.lload 4, 2) := by decide +kernel
theorem d_M_owes_55 : decode b_M_owes 55 = .ok (.aload_n 0, 1) := by decide +kernel
theorem d_M_owes_56 : decode b_M_owes 56 = .ok (.iload 6, 2) := by decide +kernel
theorem d_M_owes_58 : decode b_M_owes 58 = .ok (.invokevirtual 135, 3) := by decide +kernel
theorem d_M_owes_61 : decode b_M_owes 61 = .ok (.iload_n 1, 1) := by decide +kernel
theorem d_M_owes_62 : decode b_M_owes 62 = .ok (.if_icmp .ne 27, 3) := by decide +kernel
theorem d_M_owes_65 : decode b_M_owes 65 = .ok (.aload_n 0, 1) := by decide +kernel
theorem d_M_owes_66 : decode b_M_owes 66 = .ok (.iload 6, 2) := by decide +kernel
theorem d_M_owes_68 : decode b_M_owes 68 = .ok (.lload_n 2, 1) := by decide +kernel
theorem d_M_owes_69 : decode b_M_owes 69 = .ok (.ldc2_w 79, 3) := by decide +kernel
theorem d_M_owes_72 : decode b_M_owes 72 = .ok (.lcmp, 1) := by decide +kernel
theorem d_M_owes_73 : decode b_M_owes 73 = .ok (.ifCond .le 9, 3) := by decide +kernel
theorem d_M_owes_76 : decode b_M_owes 76 = .ok (.ldc2_w 79, 3) := by decide +kernel
theorem d_M_owes_79 : decode b_M_owes 79 = .ok (.goto 4, 3) := by decide +kernel
theorem d_M_owes_82 : decode b_M_owes 82 = .ok (.lload_n 2, 1) := by decide +kernel
theorem d_M_owes_83 : decode b_M_owes 83 = .ok (.invokevirtual 152, 3) := by decide +kernel
theorem d_M_owes_86 : decode b_M_owes 86 = .ok (.goto 4, 3) := by decide +kernel
theorem d_M_owes_89 : decode b_M_owes 89 = .ok (.lconst 0, 1) := by decide +kernel
theorem d_M_owes_90 : decode b_M_owes 90 = .ok (.ladd, 1) := by decide +kernel
theorem d_M_owes_91 : decode b_M_owes 91 = .ok (.lstore 4, 2) := by decide +kernel
theorem d_M_owes_93 : decode b_M_owes 93 = .ok (.iinc 6 1, 3) := by decide +kernel
theorem d_M_owes_96 : decode b_M_owes 96 = .ok (.goto (-58), 3) := by decide +kernel
theorem d_M_owes_99 : decode b_M_owes 99 = .ok (.lload 4, 2) := by decide +kernel
theorem d_M_owes_101 : decode b_M_owes 101 = .ok (.lreturn, 1) := by decide +kernel
theorem d_M_plan_0 : decode b_M_plan 0 = .ok (.aload_n 0, 1) := by decide +kernel
theorem d_M_plan_1 : decode b_M_plan 1 = .ok (.iconst 0, 1) := by decide +kernel
theorem d_M_plan_2 : decode b_M_plan 2 = .ok (.putfield 76, 3) := by decide +kernel
theorem d_M_plan_5 : decode b_M_plan 5 = .ok (.iload_n 1, 1) := by decide +kernel
theorem d_M_plan_6 : decode b_M_plan 6 = .ok (.i2l, 1) := by decide +kernel
theorem d_M_plan_7 : decode b_M_plan 7 = .ok (.lconst 0, 1) := by decide +kernel
theorem d_M_plan_8 : decode b_M_plan 8 = .ok (.ldc2_w 112, 3) := by decide +kernel
theorem d_M_plan_11 : decode b_M_plan 11 = .ok (.invokestatic 81, 3) := by decide +kernel
theorem d_M_plan_14 : decode b_M_plan 14 = .ok (.ifCond .eq 28, 3) := by decide +kernel
theorem d_M_plan_17 : decode b_M_plan 17 = .ok (.iload_n 2, 1) := by decide +kernel
theorem d_M_plan_18 : decode b_M_plan 18 = .ok (.i2l, 1) := by decide +kernel
theorem d_M_plan_19 : decode b_M_plan 19 = .ok (.lconst 1, 1) := by decide +kernel
theorem d_M_plan_20 : decode b_M_plan 20 = .ok (.ldc2_w 155, 3) := by decide +kernel
theorem d_M_plan_23 : decode b_M_plan 23 = .ok (.invokestatic 81, 3) := by decide +kernel
theorem d_M_plan_26 : decode b_M_plan 26 = .ok (.ifCond .eq 16, 3) := by decide +kernel
theorem d_M_plan_29 : decode b_M_plan 29 = .ok (.iload_n 3, 1) := by decide +kernel
theorem d_M_plan_30 : decode b_M_plan 30 = .ok (.i2l, 1) := by decide +kernel
theorem d_M_plan_31 : decode b_M_plan 31 = .ok (.lconst 0, 1) := by decide +kernel
theorem d_M_plan_32 : decode b_M_plan 32 = .ok (.iload_n 2, 1) := by decide +kernel
theorem d_M_plan_33 : decode b_M_plan 33 = .ok (.iconst 1, 1) := by decide +kernel
theorem d_M_plan_34 : decode b_M_plan 34 = .ok (.isub, 1) := by decide +kernel
theorem d_M_plan_35 : decode b_M_plan 35 = .ok (.i2l, 1) := by decide +kernel
theorem d_M_plan_36 : decode b_M_plan 36 = .ok (.invokestatic 81, 3) := by decide +kernel
theorem d_M_plan_39 : decode b_M_plan 39 = .ok (.ifCond .ne 5, 3) := by decide +kernel
theorem d_M_plan_42 : decode b_M_plan 42 = .ok (.lconst 0, 1) := by decide +kernel
theorem d_M_plan_43 : decode b_M_plan 43 = .ok (.lreturn, 1) := by decide +kernel
theorem d_M_plan_44 : decode b_M_plan 44 = .ok (.aload_n 0, 1) := by decide +kernel
theorem d_M_plan_45 : decode b_M_plan 45 = .ok (.iload_n 1, 1) := by decide +kernel
theorem d_M_plan_46 : decode b_M_plan 46 = .ok (.invokevirtual 148, 3) := by decide +kernel
theorem d_M_plan_49 : decode b_M_plan 49 = .ok (.lstore 4, 2) := by decide +kernel
theorem d_M_plan_51 : decode b_M_plan 51 = .ok (.lload 4, 2) := by decide +kernel
theorem d_M_plan_53 : decode b_M_plan 53 = .ok (.iload_n 2, 1) := by decide +kernel
theorem d_M_plan_54 : decode b_M_plan 54 = .ok (.i2l, 1) := by decide +kernel
theorem d_M_plan_55 : decode b_M_plan 55 = .ok (.ldiv, 1) := by decide +kernel
theorem d_M_plan_56 : decode b_M_plan 56 = .ok (.iload_n 3, 1) := by decide +kernel
theorem d_M_plan_57 : decode b_M_plan 57 = .ok (.i2l, 1) := by decide +kernel
theorem d_M_plan_58 : decode b_M_plan 58 = .ok (.lload 4, 2) := by decide +kernel
theorem d_M_plan_60 : decode b_M_plan 60 = .ok (.iload_n 2, 1) := by decide +kernel
theorem d_M_plan_61 : decode b_M_plan 61 = .ok (.i2l, 1) := by decide +kernel
theorem d_M_plan_62 : decode b_M_plan 62 = .ok (.lrem, 1) := by decide +kernel
theorem d_M_plan_63 : decode b_M_plan 63 = .ok (.lcmp, 1) := by decide +kernel
theorem d_M_plan_64 : decode b_M_plan 64 = .ok (.ifCond .ge 7, 3) := by decide +kernel
theorem d_M_plan_67 : decode b_M_plan 67 = .ok (.lconst 1, 1) := by decide +kernel
theorem d_M_plan_68 : decode b_M_plan 68 = .ok (.goto 4, 3) := by decide +kernel
theorem d_M_plan_71 : decode b_M_plan 71 = .ok (.lconst 0, 1) := by decide +kernel
theorem d_M_plan_72 : decode b_M_plan 72 = .ok (.ladd, 1) := by decide +kernel
theorem d_M_plan_73 : decode b_M_plan 73 = .ok (.lreturn, 1) := by decide +kernel
theorem d_M_threshold_0 : decode b_M_threshold 0 = .ok (.aload_n 0, 1) := by decide +kernel
theorem d_M_threshold_1 : decode b_M_threshold 1 = .ok (.iconst 0, 1) := by decide +kernel
theorem d_M_threshold_2 : decode b_M_threshold 2 = .ok (.putfield 76, 3) := by decide +kernel
theorem d_M_threshold_5 : decode b_M_threshold 5 = .ok (.iload_n 1, 1) := by decide +kernel
theorem d_M_threshold_6 : decode b_M_threshold 6 = .ok (.i2l, 1) := by decide +kernel
theorem d_M_threshold_7 : decode b_M_threshold 7 = .ok (.lconst 1, 1) := by decide +kernel
theorem d_M_threshold_8 : decode b_M_threshold 8 = .ok (.ldc2_w 79, 3) := by decide +kernel
theorem d_M_threshold_11 : decode b_M_threshold 11 = .ok (.invokestatic 81, 3) := by decide +kernel
theorem d_M_threshold_14 : decode b_M_threshold 14 = .ok (.ifCond .ne 5, 3) := by decide +kernel
theorem d_M_threshold_17 : decode b_M_threshold 17 = .ok (.iconst (-1), 1) := by decide +kernel
theorem d_M_threshold_18 : decode b_M_threshold 18 = .ok (.ireturn, 1) := by decide +kernel
theorem d_M_threshold_19 : decode b_M_threshold 19 = .ok (.aload_n 0, 1) := by decide +kernel
theorem d_M_threshold_20 : decode b_M_threshold 20 = .ok (.getfield 72, 3) := by decide +kernel
theorem d_M_threshold_23 : decode b_M_threshold 23 = .ok (.istore_n 2, 1) := by decide +kernel
theorem d_M_threshold_24 : decode b_M_threshold 24 = .ok (.aload_n 0, 1) := by decide +kernel
theorem d_M_threshold_25 : decode b_M_threshold 25 = .ok (.iload_n 1, 1) := by decide +kernel
theorem d_M_threshold_26 : decode b_M_threshold 26 = .ok (.putfield 72, 3) := by decide +kernel
theorem d_M_threshold_29 : decode b_M_threshold 29 = .ok (.iload_n 2, 1) := by decide +kernel
theorem d_M_threshold_30 : decode b_M_threshold 30 = .ok (.ireturn, 1) := by decide +kernel
theorem d_M_blocked_0 : decode b_M_blocked 0 = .ok (.aload_n 0, 1) := by decide +kernel
theorem d_M_blocked_1 : decode b_M_blocked 1 = .ok (.iconst 0, 1) := by decide +kernel
theorem d_M_blocked_2 : decode b_M_blocked 2 = .ok (.putfield 76, 3) := by decide +kernel
theorem d_M_blocked_5 : decode b_M_blocked 5 = .ok (.iload_n 1, 1) := by decide +kernel
theorem d_M_blocked_6 : decode b_M_blocked 6 = .ok (.i2l, 1) := by decide +kernel
theorem d_M_blocked_7 : decode b_M_blocked 7 = .ok (.lconst 0, 1) := by decide +kernel
theorem d_M_blocked_8 : decode b_M_blocked 8 = .ok (.ldc2_w 112, 3) := by decide +kernel
theorem d_M_blocked_11 : decode b_M_blocked 11 = .ok (.invokestatic 81, 3) := by decide +kernel
theorem d_M_blocked_14 : decode b_M_blocked 14 = .ok (.ifCond .eq 28, 3) := by decide +kernel
theorem d_M_blocked_17 : decode b_M_blocked 17 = .ok (.aload_n 0, 1) := by decide +kernel
theorem d_M_blocked_18 : decode b_M_blocked 18 = .ok (.iload_n 1, 1) := by decide +kernel
theorem d_M_blocked_19 : decode b_M_blocked 19 = .ok (.invokevirtual 148, 3) := by decide +kernel
theorem d_M_blocked_22 : decode b_M_blocked 22 = .ok (.aload_n 0, 1) := by decide +kernel
theorem d_M_blocked_23 : decode b_M_blocked 23 = .ok (.getfield 69, 3) := by decide +kernel
theorem d_M_blocked_26 : decode b_M_blocked 26 = .ok (.iload_n 1, 1) := by decide +kernel
theorem d_M_blocked_27 : decode b_M_blocked 27 = .ok (.laload, 1) := by decide +kernel
theorem d_M_blocked_28 : decode b_M_blocked 28 = .ok (.lsub, 1) := by decide +kernel
theorem d_M_blocked_29 : decode b_M_blocked 29 = .ok (.aload_n 0, 1) := by decide +kernel
theorem d_M_blocked_30 : decode b_M_blocked 30 = .ok (.getfield 72, 3) := by decide +kernel
theorem d_M_blocked_33 : decode b_M_blocked 33 = .ok (.i2l, 1) := by decide +kernel
theorem d_M_blocked_34 : decode b_M_blocked 34 = .ok (.lcmp, 1) := by decide +kernel
theorem d_M_blocked_35 : decode b_M_blocked 35 = .ok (.ifCond .lt 7, 3) := by decide +kernel
theorem d_M_blocked_38 : decode b_M_blocked 38 = .ok (.iconst 1, 1) := by decide +kernel
theorem d_M_blocked_39 : decode b_M_blocked 39 = .ok (.goto 4, 3) := by decide +kernel
theorem d_M_blocked_42 : decode b_M_blocked 42 = .ok (.iconst 0, 1) := by decide +kernel
theorem d_M_blocked_43 : decode b_M_blocked 43 = .ok (.ireturn, 1) := by decide +kernel
theorem d_M_debt_0 : decode b_M_debt 0 = .ok (.aload_n 0, 1) := by decide +kernel
theorem d_M_debt_1 : decode b_M_debt 1 = .ok (.iconst 0, 1) := by decide +kernel
theorem d_M_debt_2 : decode b_M_debt 2 = .ok (.putfield 76, 3) := by decide +kernel
theorem d_M_debt_5 : decode b_M_debt 5 = .ok (.aload_n 0, 1) := by decide +kernel
theorem d_M_debt_6 : decode b_M_debt 6 = .ok (.iload_n 1, 1) := by decide +kernel
theorem d_M_debt_7 : decode b_M_debt 7 = .ok (.invokevirtual 141, 3) := by decide +kernel
theorem d_M_debt_10 : decode b_M_debt 10 = .ok (.ifCond .ne 7, 3) := by decide +kernel
theorem d_M_debt_13 : decode b_M_debt 13 = .ok (.ldc2_w 126, 3) := by decide +kernel
theorem d_M_debt_16 : decode b_M_debt 16 = .ok (.lreturn, 1) := by decide +kernel
theorem d_M_debt_17 : decode b_M_debt 17 = .ok (.iload_n 2, 1) := by decide +kernel
theorem d_M_debt_18 : decode b_M_debt 18 = .ok (.tableswitch 92 0 5 #[38, 45, 53, 61, 68, 76], 38) := by decide +kernel
theorem d_M_debt_56 : decode b_M_debt 56 = .ok (.aload_n 0, 1) := by decide +kernel
theorem d_M_debt_57 : decode b_M_debt 57 = .ok (.iload_n 1, 1) := by decide +kernel
theorem d_M_debt_58 : decode b_M_debt 58 = .ok (.invokevirtual 135, 3) := by decide +kernel
theorem d_M_debt_61 : decode b_M_debt 61 = .ok (.i2l, 1) := by decide +kernel
theorem d_M_debt_62 : decode b_M_debt 62 = .ok (.lreturn, 1) := by decide +kernel
theorem d_M_debt_63 : decode b_M_debt 63 = .ok (.aload_n 0, 1) := by decide +kernel
theorem d_M_debt_64 : decode b_M_debt 64 = .ok (.getfield 50, 3) := by decide +kernel
theorem d_M_debt_67 : decode b_M_debt 67 = .ok (.iload_n 1, 1) := by decide +kernel
theorem d_M_debt_68 : decode b_M_debt 68 = .ok (.iaload, 1) := by decide +kernel
theorem d_M_debt_69 : decode b_M_debt 69 = .ok (.i2l, 1) := by decide +kernel
theorem d_M_debt_70 : decode b_M_debt 70 = .ok (.lreturn, 1) := by decide +kernel
theorem d_M_debt_71 : decode b_M_debt 71 = .ok (.aload_n 0, 1) := by decide +kernel
theorem d_M_debt_72 : decode b_M_debt 72 = .ok (.getfield 53, 3) := by decide +kernel
theorem d_M_debt_75 : decode b_M_debt 75 = .ok (.iload_n 1, 1) := by decide +kernel
theorem d_M_debt_76 : decode b_M_debt 76 = .ok (.iaload, 1) := by decide +kernel
theorem d_M_debt_77 : decode b_M_debt 77 = .ok (.i2l, 1) := by decide +kernel
theorem d_M_debt_78 : decode b_M_debt 78 = .ok (.lreturn, 1) := by decide +kernel
theorem d_M_debt_79 : decode b_M_debt 79 = .ok (.aload_n 0, 1) := by decide +kernel
theorem d_M_debt_80 : decode b_M_debt 80 = .ok (.getfield 62, 3) := by decide +kernel
theorem d_M_debt_83 : decode b_M_debt 83 = .ok (.iload_n 1, 1) := by decide +kernel
theorem d_M_debt_84 : decode b_M_debt 84 = .ok (.laload, 1) := by decide +kernel
theorem d_M_debt_85 : decode b_M_debt 85 = .ok (.lreturn, 1) := by decide +kernel
theorem d_M_debt_86 : decode b_M_debt 86 = .ok (.aload_n 0, 1) := by decide +kernel
theorem d_M_debt_87 : decode b_M_debt 87 = .ok (.getfield 59, 3) := by decide +kernel
theorem d_M_debt_90 : decode b_M_debt 90 = .ok (.iload_n 1, 1) := by decide +kernel
theorem d_M_debt_91 : decode b_M_debt 91 = .ok (.iaload, 1) := by decide +kernel
theorem d_M_debt_92 : decode b_M_debt 92 = .ok (.i2l, 1) := by decide +kernel
theorem d_M_debt_93 : decode b_M_debt 93 = .ok (.lreturn, 1) := by decide +kernel
theorem d_M_debt_94 : decode b_M_debt 94 = .ok (.aload_n 0, 1) := by decide +kernel
theorem d_M_debt_95 : decode b_M_debt 95 = .ok (.iload_n 1, 1) := by decide +kernel
theorem d_M_debt_96 : decode b_M_debt 96 = .ok (.aload_n 0, 1) := by decide +kernel
theorem d_M_debt_97 : decode b_M_debt 97 = .ok (.getfield 62, 3) := by decide +kernel
theorem d_M_debt_100 : decode b_M_debt 100 = .ok (.iload_n 1, 1) := by decide +kernel
theorem d_M_debt_101 : decode b_M_debt 101 = .ok (.laload, 1) := by decide +kernel
theorem d_M_debt_102 : decode b_M_debt 102 = .ok (.ldc2_w 144, 3) := by decide +kernel
theorem d_M_debt_105 : decode b_M_debt 105 = .ok (.ladd, 1) := by decide +kernel
theorem d_M_debt_106 : decode b_M_debt 106 = .ok (.invokevirtual 152, 3) := by decide +kernel
theorem d_M_debt_109 : decode b_M_debt 109 = .ok (.lreturn, 1) := by decide +kernel
theorem d_M_debt_110 : decode b_M_debt 110 = .ok (.ldc2_w 126, 3) := by decide +kernel
theorem d_M_debt_113 : decode b_M_debt 113 = .ok (.lreturn, 1) := by decide +kernel
theorem d_M_share_0 : decode b_M_share 0 = .ok (.aload_n 0, 1) := by decide +kernel
theorem d_M_share_1 : decode b_M_share 1 = .ok (.iconst 0, 1) := by decide +kernel
theorem d_M_share_2 : decode b_M_share 2 = .ok (.putfield 76, 3) := by decide +kernel
theorem d_M_share_5 : decode b_M_share 5 = .ok (.aload_n 0, 1) := by decide +kernel
theorem d_M_share_6 : decode b_M_share 6 = .ok (.iload_n 1, 1) := by decide +kernel
theorem d_M_share_7 : decode b_M_share 7 = .ok (.invokevirtual 141, 3) := by decide +kernel
theorem d_M_share_10 : decode b_M_share 10 = .ok (.ifCond .eq 48, 3) := by decide +kernel
theorem d_M_share_13 : decode b_M_share 13 = .ok (.iload_n 2, 1) := by decide +kernel
theorem d_M_share_14 : decode b_M_share 14 = .ok (.i2l, 1) := by decide +kernel
theorem d_M_share_15 : decode b_M_share 15 = .ok (.lconst 1, 1) := by decide +kernel
theorem d_M_share_16 : decode b_M_share 16 = .ok (.ldc2_w 94, 3) := by decide +kernel
theorem d_M_share_19 : decode b_M_share 19 = .ok (.invokestatic 81, 3) := by decide +kernel
theorem d_M_share_22 : decode b_M_share 22 = .ok (.ifCond .eq 36, 3) := by decide +kernel
theorem d_M_share_25 : decode b_M_share 25 = .ok (.iload_n 3, 1) := by decide +kernel
theorem d_M_share_26 : decode b_M_share 26 = .ok (.i2l, 1) := by decide +kernel
theorem d_M_share_27 : decode b_M_share 27 = .ok (.lconst 1, 1) := by decide +kernel
theorem d_M_share_28 : decode b_M_share 28 = .ok (.ldc2_w 94, 3) := by decide +kernel
theorem d_M_share_31 : decode b_M_share 31 = .ok (.invokestatic 81, 3) := by decide +kernel
theorem d_M_share_34 : decode b_M_share 34 = .ok (.ifCond .eq 24, 3) := by decide +kernel
theorem d_M_share_37 : decode b_M_share 37 = .ok (.iload_n 2, 1) := by decide +kernel
theorem d_M_share_38 : decode b_M_share 38 = .ok (.iload_n 3, 1) := by decide +kernel
theorem d_M_share_39 : decode b_M_share 39 = .ok (.if_icmp .gt 19, 3) := by decide +kernel
theorem d_M_share_42 : decode b_M_share 42 = .ok (.aload_n 0, 1) := by decide +kernel
theorem d_M_share_43 : decode b_M_share 43 = .ok (.getfield 50, 3) := by decide +kernel
theorem d_M_share_46 : decode b_M_share 46 = .ok (.iload_n 1, 1) := by decide +kernel
theorem d_M_share_47 : decode b_M_share 47 = .ok (.iaload, 1) := by decide +kernel
theorem d_M_share_48 : decode b_M_share 48 = .ok (.i2l, 1) := by decide +kernel
theorem d_M_share_49 : decode b_M_share 49 = .ok (.iload_n 2, 1) := by decide +kernel
theorem d_M_share_50 : decode b_M_share 50 = .ok (.i2l, 1) := by decide +kernel
theorem d_M_share_51 : decode b_M_share 51 = .ok (.lmul, 1) := by decide +kernel
theorem d_M_share_52 : decode b_M_share 52 = .ok (.iload_n 3, 1) := by decide +kernel
theorem d_M_share_53 : decode b_M_share 53 = .ok (.i2l, 1) := by decide +kernel
theorem d_M_share_54 : decode b_M_share 54 = .ok (.ldiv, 1) := by decide +kernel
theorem d_M_share_55 : decode b_M_share 55 = .ok (.goto 6, 3) := by decide +kernel
theorem d_M_share_58 : decode b_M_share 58 = .ok (.ldc2_w 126, 3) := by decide +kernel
theorem d_M_share_61 : decode b_M_share 61 = .ok (.lreturn, 1) := by decide +kernel
end
section
theorem g_M_7 {p : Program} {l : Launch} {e : Env} {R : Room} {s : State} {m : MethodId} {args : Array Value} {below : List Frame} {meth : Method} {c : Code} {H : Heap} {locs : List Loc} {cells slots : Nat} {Q : State → Prop} {cc : ByteArray} {pc : Nat} {ls : Array Slot} {rest : List Value} {D : va_G} {A : Nat → Prop} {t : Nat → ClassId} {g : hG} {nL : Nat} {ret0 : Option FieldType} {nm : String} {a : Nat} (X : Cx p s m args meth c R_M cc nL ret0 TB D vwCl (tyL t) EX A nm) (hb : c.code = cc) (hP : hw D vwCl A g H) {fs : List Value} (he : g a = some (.inr (6, fs))) {v : Value} (hv : fs[5]? = some v) (hdg : decode cc pc = .ok (.getfield 7, 3)) (kk : W p l e R s m args below meth c H locs cells slots Q (F0 m (pc + 3) ls (v :: rest))) : W p l e R s m args below meth c H locs cells slots Q (F0 m pc ls (.ref a :: rest)) :=
  h_get (C := R_M) (T := F_M) (N := 26) (ref := R_M) (own := R_M) X.1 hb X.2.2.2.2.1 i_M X.2.2.2.2.2.1 X.2.2.2.2.2.2.2.1 hP he rfl 5 (by decide) (X.2.2.2.2.1 _ (tbm 457 (by decide +kernel))) (fun _ h => h) hv hdg kk
theorem p_M_7 {p : Program} {l : Launch} {e : Env} {R : Room} {s : State} {m : MethodId} {args : Array Value} {below : List Frame} {meth : Method} {c : Code} {H : Heap} {locs : List Loc} {cells slots : Nat} {Q : State → Prop} {cc : ByteArray} {pc : Nat} {ls : Array Slot} {rest : List Value} {D : va_G} {A : Nat → Prop} {t : Nat → ClassId} {g : hG} {nL : Nat} {ret0 : Option FieldType} {nm : String} {a : Nat} (X : Cx p s m args meth c R_M cc nL ret0 TB D vwCl (tyL t) EX A nm) (hb : c.code = cc) (hP : hw D vwCl A g H) (hS : va_S A s.heap H locs) {fs : List Value} (he : g a = some (.inr (6, fs))) (hl : 5 < fs.length) {x : Nat} (hin : nm = "<init>") (hdg : decode cc pc = .ok (.putfield 7, 3)) (kk : ∀ (H1 : Heap) (locs1 : List Loc), hw D vwCl A (va_up g a (some (.inr (6, fs.set 5 (.ref x))))) H1 → va_S A s.heap H1 locs1 → W p l e R s m args below meth c H1 locs1 cells slots Q (F0 m (pc + 3) ls rest)) : W p l e R s m args below meth c H locs cells slots Q (F0 m pc ls (.ref x :: .ref a :: rest)) :=
  h_putF (C := R_M) (T := F_M) (N := 26) (ref := R_M) (own := R_M) X.1 hb X.2.2.2.2.1 i_M t_M t_M_ok n_M X.2.2.2.2.2.1 X.2.2.2.2.2.2.2.1 hP hS he rfl 5 (by decide) (X.2.2.2.2.1 _ (tbm 457 (by decide +kernel))) (fun _ h => h) rfl (X.2.2.2.2.2.2.2.2.2.2.trans hin) rfl (t_M_ok 5 (by decide)) rfl rfl hl hdg kk
theorem g_M_13 {p : Program} {l : Launch} {e : Env} {R : Room} {s : State} {m : MethodId} {args : Array Value} {below : List Frame} {meth : Method} {c : Code} {H : Heap} {locs : List Loc} {cells slots : Nat} {Q : State → Prop} {cc : ByteArray} {pc : Nat} {ls : Array Slot} {rest : List Value} {D : va_G} {A : Nat → Prop} {t : Nat → ClassId} {g : hG} {nL : Nat} {ret0 : Option FieldType} {nm : String} {a : Nat} (X : Cx p s m args meth c R_M cc nL ret0 TB D vwCl (tyL t) EX A nm) (hb : c.code = cc) (hP : hw D vwCl A g H) {fs : List Value} (he : g a = some (.inr (6, fs))) {v : Value} (hv : fs[6]? = some v) (hdg : decode cc pc = .ok (.getfield 13, 3)) (kk : W p l e R s m args below meth c H locs cells slots Q (F0 m (pc + 3) ls (v :: rest))) : W p l e R s m args below meth c H locs cells slots Q (F0 m pc ls (.ref a :: rest)) :=
  h_get (C := R_M) (T := F_M) (N := 26) (ref := R_M) (own := R_M) X.1 hb X.2.2.2.2.1 i_M X.2.2.2.2.2.1 X.2.2.2.2.2.2.2.1 hP he rfl 6 (by decide) (X.2.2.2.2.1 _ (tbm 458 (by decide +kernel))) (fun _ h => h) hv hdg kk
theorem p_M_13 {p : Program} {l : Launch} {e : Env} {R : Room} {s : State} {m : MethodId} {args : Array Value} {below : List Frame} {meth : Method} {c : Code} {H : Heap} {locs : List Loc} {cells slots : Nat} {Q : State → Prop} {cc : ByteArray} {pc : Nat} {ls : Array Slot} {rest : List Value} {D : va_G} {A : Nat → Prop} {t : Nat → ClassId} {g : hG} {nL : Nat} {ret0 : Option FieldType} {nm : String} {a : Nat} (X : Cx p s m args meth c R_M cc nL ret0 TB D vwCl (tyL t) EX A nm) (hb : c.code = cc) (hP : hw D vwCl A g H) (hS : va_S A s.heap H locs) {fs : List Value} (he : g a = some (.inr (6, fs))) (hl : 6 < fs.length) {x : Nat} (hin : nm = "<init>") (hdg : decode cc pc = .ok (.putfield 13, 3)) (kk : ∀ (H1 : Heap) (locs1 : List Loc), hw D vwCl A (va_up g a (some (.inr (6, fs.set 6 (.ref x))))) H1 → va_S A s.heap H1 locs1 → W p l e R s m args below meth c H1 locs1 cells slots Q (F0 m (pc + 3) ls rest)) : W p l e R s m args below meth c H locs cells slots Q (F0 m pc ls (.ref x :: .ref a :: rest)) :=
  h_putF (C := R_M) (T := F_M) (N := 26) (ref := R_M) (own := R_M) X.1 hb X.2.2.2.2.1 i_M t_M t_M_ok n_M X.2.2.2.2.2.1 X.2.2.2.2.2.2.2.1 hP hS he rfl 6 (by decide) (X.2.2.2.2.1 _ (tbm 458 (by decide +kernel))) (fun _ h => h) rfl (X.2.2.2.2.2.2.2.2.2.2.trans hin) rfl (t_M_ok 6 (by decide)) rfl rfl hl hdg kk
theorem g_M_16 {p : Program} {l : Launch} {e : Env} {R : Room} {s : State} {m : MethodId} {args : Array Value} {below : List Frame} {meth : Method} {c : Code} {H : Heap} {locs : List Loc} {cells slots : Nat} {Q : State → Prop} {cc : ByteArray} {pc : Nat} {ls : Array Slot} {rest : List Value} {D : va_G} {A : Nat → Prop} {t : Nat → ClassId} {g : hG} {nL : Nat} {ret0 : Option FieldType} {nm : String} {a : Nat} (X : Cx p s m args meth c R_M cc nL ret0 TB D vwCl (tyL t) EX A nm) (hb : c.code = cc) (hP : hw D vwCl A g H) {fs : List Value} (he : g a = some (.inr (6, fs))) {v : Value} (hv : fs[7]? = some v) (hdg : decode cc pc = .ok (.getfield 16, 3)) (kk : W p l e R s m args below meth c H locs cells slots Q (F0 m (pc + 3) ls (v :: rest))) : W p l e R s m args below meth c H locs cells slots Q (F0 m pc ls (.ref a :: rest)) :=
  h_get (C := R_M) (T := F_M) (N := 26) (ref := R_M) (own := R_M) X.1 hb X.2.2.2.2.1 i_M X.2.2.2.2.2.1 X.2.2.2.2.2.2.2.1 hP he rfl 7 (by decide) (X.2.2.2.2.1 _ (tbm 459 (by decide +kernel))) (fun _ h => h) hv hdg kk
theorem p_M_16 {p : Program} {l : Launch} {e : Env} {R : Room} {s : State} {m : MethodId} {args : Array Value} {below : List Frame} {meth : Method} {c : Code} {H : Heap} {locs : List Loc} {cells slots : Nat} {Q : State → Prop} {cc : ByteArray} {pc : Nat} {ls : Array Slot} {rest : List Value} {D : va_G} {A : Nat → Prop} {t : Nat → ClassId} {g : hG} {nL : Nat} {ret0 : Option FieldType} {nm : String} {a : Nat} (X : Cx p s m args meth c R_M cc nL ret0 TB D vwCl (tyL t) EX A nm) (hb : c.code = cc) (hP : hw D vwCl A g H) (hS : va_S A s.heap H locs) {fs : List Value} (he : g a = some (.inr (6, fs))) (hl : 7 < fs.length) {x : Nat} (hin : nm = "<init>") (hdg : decode cc pc = .ok (.putfield 16, 3)) (kk : ∀ (H1 : Heap) (locs1 : List Loc), hw D vwCl A (va_up g a (some (.inr (6, fs.set 7 (.ref x))))) H1 → va_S A s.heap H1 locs1 → W p l e R s m args below meth c H1 locs1 cells slots Q (F0 m (pc + 3) ls rest)) : W p l e R s m args below meth c H locs cells slots Q (F0 m pc ls (.ref x :: .ref a :: rest)) :=
  h_putF (C := R_M) (T := F_M) (N := 26) (ref := R_M) (own := R_M) X.1 hb X.2.2.2.2.1 i_M t_M t_M_ok n_M X.2.2.2.2.2.1 X.2.2.2.2.2.2.2.1 hP hS he rfl 7 (by decide) (X.2.2.2.2.1 _ (tbm 459 (by decide +kernel))) (fun _ h => h) rfl (X.2.2.2.2.2.2.2.2.2.2.trans hin) rfl (t_M_ok 7 (by decide)) rfl rfl hl hdg kk
theorem g_M_19 {p : Program} {l : Launch} {e : Env} {R : Room} {s : State} {m : MethodId} {args : Array Value} {below : List Frame} {meth : Method} {c : Code} {H : Heap} {locs : List Loc} {cells slots : Nat} {Q : State → Prop} {cc : ByteArray} {pc : Nat} {ls : Array Slot} {rest : List Value} {D : va_G} {A : Nat → Prop} {t : Nat → ClassId} {g : hG} {nL : Nat} {ret0 : Option FieldType} {nm : String} {a : Nat} (X : Cx p s m args meth c R_M cc nL ret0 TB D vwCl (tyL t) EX A nm) (hb : c.code = cc) (hP : hw D vwCl A g H) {fs : List Value} (he : g a = some (.inr (6, fs))) {v : Value} (hv : fs[8]? = some v) (hdg : decode cc pc = .ok (.getfield 19, 3)) (kk : W p l e R s m args below meth c H locs cells slots Q (F0 m (pc + 3) ls (v :: rest))) : W p l e R s m args below meth c H locs cells slots Q (F0 m pc ls (.ref a :: rest)) :=
  h_get (C := R_M) (T := F_M) (N := 26) (ref := R_M) (own := R_M) X.1 hb X.2.2.2.2.1 i_M X.2.2.2.2.2.1 X.2.2.2.2.2.2.2.1 hP he rfl 8 (by decide) (X.2.2.2.2.1 _ (tbm 460 (by decide +kernel))) (fun _ h => h) hv hdg kk
theorem p_M_19 {p : Program} {l : Launch} {e : Env} {R : Room} {s : State} {m : MethodId} {args : Array Value} {below : List Frame} {meth : Method} {c : Code} {H : Heap} {locs : List Loc} {cells slots : Nat} {Q : State → Prop} {cc : ByteArray} {pc : Nat} {ls : Array Slot} {rest : List Value} {D : va_G} {A : Nat → Prop} {t : Nat → ClassId} {g : hG} {nL : Nat} {ret0 : Option FieldType} {nm : String} {a : Nat} (X : Cx p s m args meth c R_M cc nL ret0 TB D vwCl (tyL t) EX A nm) (hb : c.code = cc) (hP : hw D vwCl A g H) (hS : va_S A s.heap H locs) {fs : List Value} (he : g a = some (.inr (6, fs))) (hl : 8 < fs.length) {x : Nat} (hin : nm = "<init>") (hdg : decode cc pc = .ok (.putfield 19, 3)) (kk : ∀ (H1 : Heap) (locs1 : List Loc), hw D vwCl A (va_up g a (some (.inr (6, fs.set 8 (.ref x))))) H1 → va_S A s.heap H1 locs1 → W p l e R s m args below meth c H1 locs1 cells slots Q (F0 m (pc + 3) ls rest)) : W p l e R s m args below meth c H locs cells slots Q (F0 m pc ls (.ref x :: .ref a :: rest)) :=
  h_putF (C := R_M) (T := F_M) (N := 26) (ref := R_M) (own := R_M) X.1 hb X.2.2.2.2.1 i_M t_M t_M_ok n_M X.2.2.2.2.2.1 X.2.2.2.2.2.2.2.1 hP hS he rfl 8 (by decide) (X.2.2.2.2.1 _ (tbm 460 (by decide +kernel))) (fun _ h => h) rfl (X.2.2.2.2.2.2.2.2.2.2.trans hin) rfl (t_M_ok 8 (by decide)) rfl rfl hl hdg kk
theorem g_M_22 {p : Program} {l : Launch} {e : Env} {R : Room} {s : State} {m : MethodId} {args : Array Value} {below : List Frame} {meth : Method} {c : Code} {H : Heap} {locs : List Loc} {cells slots : Nat} {Q : State → Prop} {cc : ByteArray} {pc : Nat} {ls : Array Slot} {rest : List Value} {D : va_G} {A : Nat → Prop} {t : Nat → ClassId} {g : hG} {nL : Nat} {ret0 : Option FieldType} {nm : String} {a : Nat} (X : Cx p s m args meth c R_M cc nL ret0 TB D vwCl (tyL t) EX A nm) (hb : c.code = cc) (hP : hw D vwCl A g H) {fs : List Value} (he : g a = some (.inr (6, fs))) {v : Value} (hv : fs[9]? = some v) (hdg : decode cc pc = .ok (.getfield 22, 3)) (kk : W p l e R s m args below meth c H locs cells slots Q (F0 m (pc + 3) ls (v :: rest))) : W p l e R s m args below meth c H locs cells slots Q (F0 m pc ls (.ref a :: rest)) :=
  h_get (C := R_M) (T := F_M) (N := 26) (ref := R_M) (own := R_M) X.1 hb X.2.2.2.2.1 i_M X.2.2.2.2.2.1 X.2.2.2.2.2.2.2.1 hP he rfl 9 (by decide) (X.2.2.2.2.1 _ (tbm 461 (by decide +kernel))) (fun _ h => h) hv hdg kk
theorem p_M_22 {p : Program} {l : Launch} {e : Env} {R : Room} {s : State} {m : MethodId} {args : Array Value} {below : List Frame} {meth : Method} {c : Code} {H : Heap} {locs : List Loc} {cells slots : Nat} {Q : State → Prop} {cc : ByteArray} {pc : Nat} {ls : Array Slot} {rest : List Value} {D : va_G} {A : Nat → Prop} {t : Nat → ClassId} {g : hG} {nL : Nat} {ret0 : Option FieldType} {nm : String} {a : Nat} (X : Cx p s m args meth c R_M cc nL ret0 TB D vwCl (tyL t) EX A nm) (hb : c.code = cc) (hP : hw D vwCl A g H) (hS : va_S A s.heap H locs) {fs : List Value} (he : g a = some (.inr (6, fs))) (hl : 9 < fs.length) {x : Nat} (hin : nm = "<init>") (hdg : decode cc pc = .ok (.putfield 22, 3)) (kk : ∀ (H1 : Heap) (locs1 : List Loc), hw D vwCl A (va_up g a (some (.inr (6, fs.set 9 (.ref x))))) H1 → va_S A s.heap H1 locs1 → W p l e R s m args below meth c H1 locs1 cells slots Q (F0 m (pc + 3) ls rest)) : W p l e R s m args below meth c H locs cells slots Q (F0 m pc ls (.ref x :: .ref a :: rest)) :=
  h_putF (C := R_M) (T := F_M) (N := 26) (ref := R_M) (own := R_M) X.1 hb X.2.2.2.2.1 i_M t_M t_M_ok n_M X.2.2.2.2.2.1 X.2.2.2.2.2.2.2.1 hP hS he rfl 9 (by decide) (X.2.2.2.2.1 _ (tbm 461 (by decide +kernel))) (fun _ h => h) rfl (X.2.2.2.2.2.2.2.2.2.2.trans hin) rfl (t_M_ok 9 (by decide)) rfl rfl hl hdg kk
theorem g_M_25 {p : Program} {l : Launch} {e : Env} {R : Room} {s : State} {m : MethodId} {args : Array Value} {below : List Frame} {meth : Method} {c : Code} {H : Heap} {locs : List Loc} {cells slots : Nat} {Q : State → Prop} {cc : ByteArray} {pc : Nat} {ls : Array Slot} {rest : List Value} {D : va_G} {A : Nat → Prop} {t : Nat → ClassId} {g : hG} {nL : Nat} {ret0 : Option FieldType} {nm : String} {a : Nat} (X : Cx p s m args meth c R_M cc nL ret0 TB D vwCl (tyL t) EX A nm) (hb : c.code = cc) (hP : hw D vwCl A g H) {fs : List Value} (he : g a = some (.inr (6, fs))) {v : Value} (hv : fs[10]? = some v) (hdg : decode cc pc = .ok (.getfield 25, 3)) (kk : W p l e R s m args below meth c H locs cells slots Q (F0 m (pc + 3) ls (v :: rest))) : W p l e R s m args below meth c H locs cells slots Q (F0 m pc ls (.ref a :: rest)) :=
  h_get (C := R_M) (T := F_M) (N := 26) (ref := R_M) (own := R_M) X.1 hb X.2.2.2.2.1 i_M X.2.2.2.2.2.1 X.2.2.2.2.2.2.2.1 hP he rfl 10 (by decide) (X.2.2.2.2.1 _ (tbm 462 (by decide +kernel))) (fun _ h => h) hv hdg kk
theorem p_M_25 {p : Program} {l : Launch} {e : Env} {R : Room} {s : State} {m : MethodId} {args : Array Value} {below : List Frame} {meth : Method} {c : Code} {H : Heap} {locs : List Loc} {cells slots : Nat} {Q : State → Prop} {cc : ByteArray} {pc : Nat} {ls : Array Slot} {rest : List Value} {D : va_G} {A : Nat → Prop} {t : Nat → ClassId} {g : hG} {nL : Nat} {ret0 : Option FieldType} {nm : String} {a : Nat} (X : Cx p s m args meth c R_M cc nL ret0 TB D vwCl (tyL t) EX A nm) (hb : c.code = cc) (hP : hw D vwCl A g H) (hS : va_S A s.heap H locs) {fs : List Value} (he : g a = some (.inr (6, fs))) (hl : 10 < fs.length) {x : Nat} (hin : nm = "<init>") (hdg : decode cc pc = .ok (.putfield 25, 3)) (kk : ∀ (H1 : Heap) (locs1 : List Loc), hw D vwCl A (va_up g a (some (.inr (6, fs.set 10 (.ref x))))) H1 → va_S A s.heap H1 locs1 → W p l e R s m args below meth c H1 locs1 cells slots Q (F0 m (pc + 3) ls rest)) : W p l e R s m args below meth c H locs cells slots Q (F0 m pc ls (.ref x :: .ref a :: rest)) :=
  h_putF (C := R_M) (T := F_M) (N := 26) (ref := R_M) (own := R_M) X.1 hb X.2.2.2.2.1 i_M t_M t_M_ok n_M X.2.2.2.2.2.1 X.2.2.2.2.2.2.2.1 hP hS he rfl 10 (by decide) (X.2.2.2.2.1 _ (tbm 462 (by decide +kernel))) (fun _ h => h) rfl (X.2.2.2.2.2.2.2.2.2.2.trans hin) rfl (t_M_ok 10 (by decide)) rfl rfl hl hdg kk
theorem g_M_29 {p : Program} {l : Launch} {e : Env} {R : Room} {s : State} {m : MethodId} {args : Array Value} {below : List Frame} {meth : Method} {c : Code} {H : Heap} {locs : List Loc} {cells slots : Nat} {Q : State → Prop} {cc : ByteArray} {pc : Nat} {ls : Array Slot} {rest : List Value} {D : va_G} {A : Nat → Prop} {t : Nat → ClassId} {g : hG} {nL : Nat} {ret0 : Option FieldType} {nm : String} {a : Nat} (X : Cx p s m args meth c R_M cc nL ret0 TB D vwCl (tyL t) EX A nm) (hb : c.code = cc) (hP : hw D vwCl A g H) {fs : List Value} (he : g a = some (.inr (6, fs))) {v : Value} (hv : fs[11]? = some v) (hdg : decode cc pc = .ok (.getfield 29, 3)) (kk : W p l e R s m args below meth c H locs cells slots Q (F0 m (pc + 3) ls (v :: rest))) : W p l e R s m args below meth c H locs cells slots Q (F0 m pc ls (.ref a :: rest)) :=
  h_get (C := R_M) (T := F_M) (N := 26) (ref := R_M) (own := R_M) X.1 hb X.2.2.2.2.1 i_M X.2.2.2.2.2.1 X.2.2.2.2.2.2.2.1 hP he rfl 11 (by decide) (X.2.2.2.2.1 _ (tbm 463 (by decide +kernel))) (fun _ h => h) hv hdg kk
theorem p_M_29 {p : Program} {l : Launch} {e : Env} {R : Room} {s : State} {m : MethodId} {args : Array Value} {below : List Frame} {meth : Method} {c : Code} {H : Heap} {locs : List Loc} {cells slots : Nat} {Q : State → Prop} {cc : ByteArray} {pc : Nat} {ls : Array Slot} {rest : List Value} {D : va_G} {A : Nat → Prop} {t : Nat → ClassId} {g : hG} {nL : Nat} {ret0 : Option FieldType} {nm : String} {a : Nat} (X : Cx p s m args meth c R_M cc nL ret0 TB D vwCl (tyL t) EX A nm) (hb : c.code = cc) (hP : hw D vwCl A g H) (hS : va_S A s.heap H locs) {fs : List Value} (he : g a = some (.inr (6, fs))) (hl : 11 < fs.length) {x : Nat} (hin : nm = "<init>") (hdg : decode cc pc = .ok (.putfield 29, 3)) (kk : ∀ (H1 : Heap) (locs1 : List Loc), hw D vwCl A (va_up g a (some (.inr (6, fs.set 11 (.ref x))))) H1 → va_S A s.heap H1 locs1 → W p l e R s m args below meth c H1 locs1 cells slots Q (F0 m (pc + 3) ls rest)) : W p l e R s m args below meth c H locs cells slots Q (F0 m pc ls (.ref x :: .ref a :: rest)) :=
  h_putF (C := R_M) (T := F_M) (N := 26) (ref := R_M) (own := R_M) X.1 hb X.2.2.2.2.1 i_M t_M t_M_ok n_M X.2.2.2.2.2.1 X.2.2.2.2.2.2.2.1 hP hS he rfl 11 (by decide) (X.2.2.2.2.1 _ (tbm 463 (by decide +kernel))) (fun _ h => h) rfl (X.2.2.2.2.2.2.2.2.2.2.trans hin) rfl (t_M_ok 11 (by decide)) rfl rfl hl hdg kk
theorem g_M_32 {p : Program} {l : Launch} {e : Env} {R : Room} {s : State} {m : MethodId} {args : Array Value} {below : List Frame} {meth : Method} {c : Code} {H : Heap} {locs : List Loc} {cells slots : Nat} {Q : State → Prop} {cc : ByteArray} {pc : Nat} {ls : Array Slot} {rest : List Value} {D : va_G} {A : Nat → Prop} {t : Nat → ClassId} {g : hG} {nL : Nat} {ret0 : Option FieldType} {nm : String} {a : Nat} (X : Cx p s m args meth c R_M cc nL ret0 TB D vwCl (tyL t) EX A nm) (hb : c.code = cc) (hP : hw D vwCl A g H) {fs : List Value} (he : g a = some (.inr (6, fs))) {v : Value} (hv : fs[12]? = some v) (hdg : decode cc pc = .ok (.getfield 32, 3)) (kk : W p l e R s m args below meth c H locs cells slots Q (F0 m (pc + 3) ls (v :: rest))) : W p l e R s m args below meth c H locs cells slots Q (F0 m pc ls (.ref a :: rest)) :=
  h_get (C := R_M) (T := F_M) (N := 26) (ref := R_M) (own := R_M) X.1 hb X.2.2.2.2.1 i_M X.2.2.2.2.2.1 X.2.2.2.2.2.2.2.1 hP he rfl 12 (by decide) (X.2.2.2.2.1 _ (tbm 464 (by decide +kernel))) (fun _ h => h) hv hdg kk
theorem p_M_32 {p : Program} {l : Launch} {e : Env} {R : Room} {s : State} {m : MethodId} {args : Array Value} {below : List Frame} {meth : Method} {c : Code} {H : Heap} {locs : List Loc} {cells slots : Nat} {Q : State → Prop} {cc : ByteArray} {pc : Nat} {ls : Array Slot} {rest : List Value} {D : va_G} {A : Nat → Prop} {t : Nat → ClassId} {g : hG} {nL : Nat} {ret0 : Option FieldType} {nm : String} {a : Nat} (X : Cx p s m args meth c R_M cc nL ret0 TB D vwCl (tyL t) EX A nm) (hb : c.code = cc) (hP : hw D vwCl A g H) (hS : va_S A s.heap H locs) {fs : List Value} (he : g a = some (.inr (6, fs))) (hl : 12 < fs.length) {x : Nat} (hin : nm = "<init>") (hdg : decode cc pc = .ok (.putfield 32, 3)) (kk : ∀ (H1 : Heap) (locs1 : List Loc), hw D vwCl A (va_up g a (some (.inr (6, fs.set 12 (.ref x))))) H1 → va_S A s.heap H1 locs1 → W p l e R s m args below meth c H1 locs1 cells slots Q (F0 m (pc + 3) ls rest)) : W p l e R s m args below meth c H locs cells slots Q (F0 m pc ls (.ref x :: .ref a :: rest)) :=
  h_putF (C := R_M) (T := F_M) (N := 26) (ref := R_M) (own := R_M) X.1 hb X.2.2.2.2.1 i_M t_M t_M_ok n_M X.2.2.2.2.2.1 X.2.2.2.2.2.2.2.1 hP hS he rfl 12 (by decide) (X.2.2.2.2.1 _ (tbm 464 (by decide +kernel))) (fun _ h => h) rfl (X.2.2.2.2.2.2.2.2.2.2.trans hin) rfl (t_M_ok 12 (by decide)) rfl rfl hl hdg kk
theorem g_M_35 {p : Program} {l : Launch} {e : Env} {R : Room} {s : State} {m : MethodId} {args : Array Value} {below : List Frame} {meth : Method} {c : Code} {H : Heap} {locs : List Loc} {cells slots : Nat} {Q : State → Prop} {cc : ByteArray} {pc : Nat} {ls : Array Slot} {rest : List Value} {D : va_G} {A : Nat → Prop} {t : Nat → ClassId} {g : hG} {nL : Nat} {ret0 : Option FieldType} {nm : String} {a : Nat} (X : Cx p s m args meth c R_M cc nL ret0 TB D vwCl (tyL t) EX A nm) (hb : c.code = cc) (hP : hw D vwCl A g H) {fs : List Value} (he : g a = some (.inr (6, fs))) {v : Value} (hv : fs[13]? = some v) (hdg : decode cc pc = .ok (.getfield 35, 3)) (kk : W p l e R s m args below meth c H locs cells slots Q (F0 m (pc + 3) ls (v :: rest))) : W p l e R s m args below meth c H locs cells slots Q (F0 m pc ls (.ref a :: rest)) :=
  h_get (C := R_M) (T := F_M) (N := 26) (ref := R_M) (own := R_M) X.1 hb X.2.2.2.2.1 i_M X.2.2.2.2.2.1 X.2.2.2.2.2.2.2.1 hP he rfl 13 (by decide) (X.2.2.2.2.1 _ (tbm 465 (by decide +kernel))) (fun _ h => h) hv hdg kk
theorem p_M_35 {p : Program} {l : Launch} {e : Env} {R : Room} {s : State} {m : MethodId} {args : Array Value} {below : List Frame} {meth : Method} {c : Code} {H : Heap} {locs : List Loc} {cells slots : Nat} {Q : State → Prop} {cc : ByteArray} {pc : Nat} {ls : Array Slot} {rest : List Value} {D : va_G} {A : Nat → Prop} {t : Nat → ClassId} {g : hG} {nL : Nat} {ret0 : Option FieldType} {nm : String} {a : Nat} (X : Cx p s m args meth c R_M cc nL ret0 TB D vwCl (tyL t) EX A nm) (hb : c.code = cc) (hP : hw D vwCl A g H) (hS : va_S A s.heap H locs) {fs : List Value} (he : g a = some (.inr (6, fs))) (hl : 13 < fs.length) {x : Nat} (hin : nm = "<init>") (hdg : decode cc pc = .ok (.putfield 35, 3)) (kk : ∀ (H1 : Heap) (locs1 : List Loc), hw D vwCl A (va_up g a (some (.inr (6, fs.set 13 (.ref x))))) H1 → va_S A s.heap H1 locs1 → W p l e R s m args below meth c H1 locs1 cells slots Q (F0 m (pc + 3) ls rest)) : W p l e R s m args below meth c H locs cells slots Q (F0 m pc ls (.ref x :: .ref a :: rest)) :=
  h_putF (C := R_M) (T := F_M) (N := 26) (ref := R_M) (own := R_M) X.1 hb X.2.2.2.2.1 i_M t_M t_M_ok n_M X.2.2.2.2.2.1 X.2.2.2.2.2.2.2.1 hP hS he rfl 13 (by decide) (X.2.2.2.2.1 _ (tbm 465 (by decide +kernel))) (fun _ h => h) rfl (X.2.2.2.2.2.2.2.2.2.2.trans hin) rfl (t_M_ok 13 (by decide)) rfl rfl hl hdg kk
theorem g_M_38 {p : Program} {l : Launch} {e : Env} {R : Room} {s : State} {m : MethodId} {args : Array Value} {below : List Frame} {meth : Method} {c : Code} {H : Heap} {locs : List Loc} {cells slots : Nat} {Q : State → Prop} {cc : ByteArray} {pc : Nat} {ls : Array Slot} {rest : List Value} {D : va_G} {A : Nat → Prop} {t : Nat → ClassId} {g : hG} {nL : Nat} {ret0 : Option FieldType} {nm : String} {a : Nat} (X : Cx p s m args meth c R_M cc nL ret0 TB D vwCl (tyL t) EX A nm) (hb : c.code = cc) (hP : hw D vwCl A g H) {fs : List Value} (he : g a = some (.inr (6, fs))) {v : Value} (hv : fs[14]? = some v) (hdg : decode cc pc = .ok (.getfield 38, 3)) (kk : W p l e R s m args below meth c H locs cells slots Q (F0 m (pc + 3) ls (v :: rest))) : W p l e R s m args below meth c H locs cells slots Q (F0 m pc ls (.ref a :: rest)) :=
  h_get (C := R_M) (T := F_M) (N := 26) (ref := R_M) (own := R_M) X.1 hb X.2.2.2.2.1 i_M X.2.2.2.2.2.1 X.2.2.2.2.2.2.2.1 hP he rfl 14 (by decide) (X.2.2.2.2.1 _ (tbm 466 (by decide +kernel))) (fun _ h => h) hv hdg kk
theorem p_M_38 {p : Program} {l : Launch} {e : Env} {R : Room} {s : State} {m : MethodId} {args : Array Value} {below : List Frame} {meth : Method} {c : Code} {H : Heap} {locs : List Loc} {cells slots : Nat} {Q : State → Prop} {cc : ByteArray} {pc : Nat} {ls : Array Slot} {rest : List Value} {D : va_G} {A : Nat → Prop} {t : Nat → ClassId} {g : hG} {nL : Nat} {ret0 : Option FieldType} {nm : String} {a : Nat} (X : Cx p s m args meth c R_M cc nL ret0 TB D vwCl (tyL t) EX A nm) (hb : c.code = cc) (hP : hw D vwCl A g H) (hS : va_S A s.heap H locs) {fs : List Value} (he : g a = some (.inr (6, fs))) (hl : 14 < fs.length) {x : Nat} (hin : nm = "<init>") (hdg : decode cc pc = .ok (.putfield 38, 3)) (kk : ∀ (H1 : Heap) (locs1 : List Loc), hw D vwCl A (va_up g a (some (.inr (6, fs.set 14 (.ref x))))) H1 → va_S A s.heap H1 locs1 → W p l e R s m args below meth c H1 locs1 cells slots Q (F0 m (pc + 3) ls rest)) : W p l e R s m args below meth c H locs cells slots Q (F0 m pc ls (.ref x :: .ref a :: rest)) :=
  h_putF (C := R_M) (T := F_M) (N := 26) (ref := R_M) (own := R_M) X.1 hb X.2.2.2.2.1 i_M t_M t_M_ok n_M X.2.2.2.2.2.1 X.2.2.2.2.2.2.2.1 hP hS he rfl 14 (by decide) (X.2.2.2.2.1 _ (tbm 466 (by decide +kernel))) (fun _ h => h) rfl (X.2.2.2.2.2.2.2.2.2.2.trans hin) rfl (t_M_ok 14 (by decide)) rfl rfl hl hdg kk
theorem g_M_41 {p : Program} {l : Launch} {e : Env} {R : Room} {s : State} {m : MethodId} {args : Array Value} {below : List Frame} {meth : Method} {c : Code} {H : Heap} {locs : List Loc} {cells slots : Nat} {Q : State → Prop} {cc : ByteArray} {pc : Nat} {ls : Array Slot} {rest : List Value} {D : va_G} {A : Nat → Prop} {t : Nat → ClassId} {g : hG} {nL : Nat} {ret0 : Option FieldType} {nm : String} {a : Nat} (X : Cx p s m args meth c R_M cc nL ret0 TB D vwCl (tyL t) EX A nm) (hb : c.code = cc) (hP : hw D vwCl A g H) {fs : List Value} (he : g a = some (.inr (6, fs))) {v : Value} (hv : fs[15]? = some v) (hdg : decode cc pc = .ok (.getfield 41, 3)) (kk : W p l e R s m args below meth c H locs cells slots Q (F0 m (pc + 3) ls (v :: rest))) : W p l e R s m args below meth c H locs cells slots Q (F0 m pc ls (.ref a :: rest)) :=
  h_get (C := R_M) (T := F_M) (N := 26) (ref := R_M) (own := R_M) X.1 hb X.2.2.2.2.1 i_M X.2.2.2.2.2.1 X.2.2.2.2.2.2.2.1 hP he rfl 15 (by decide) (X.2.2.2.2.1 _ (tbm 467 (by decide +kernel))) (fun _ h => h) hv hdg kk
theorem p_M_41 {p : Program} {l : Launch} {e : Env} {R : Room} {s : State} {m : MethodId} {args : Array Value} {below : List Frame} {meth : Method} {c : Code} {H : Heap} {locs : List Loc} {cells slots : Nat} {Q : State → Prop} {cc : ByteArray} {pc : Nat} {ls : Array Slot} {rest : List Value} {D : va_G} {A : Nat → Prop} {t : Nat → ClassId} {g : hG} {nL : Nat} {ret0 : Option FieldType} {nm : String} {a : Nat} (X : Cx p s m args meth c R_M cc nL ret0 TB D vwCl (tyL t) EX A nm) (hb : c.code = cc) (hP : hw D vwCl A g H) (hS : va_S A s.heap H locs) {fs : List Value} (he : g a = some (.inr (6, fs))) (hl : 15 < fs.length) {x : Nat} (hin : nm = "<init>") (hdg : decode cc pc = .ok (.putfield 41, 3)) (kk : ∀ (H1 : Heap) (locs1 : List Loc), hw D vwCl A (va_up g a (some (.inr (6, fs.set 15 (.ref x))))) H1 → va_S A s.heap H1 locs1 → W p l e R s m args below meth c H1 locs1 cells slots Q (F0 m (pc + 3) ls rest)) : W p l e R s m args below meth c H locs cells slots Q (F0 m pc ls (.ref x :: .ref a :: rest)) :=
  h_putF (C := R_M) (T := F_M) (N := 26) (ref := R_M) (own := R_M) X.1 hb X.2.2.2.2.1 i_M t_M t_M_ok n_M X.2.2.2.2.2.1 X.2.2.2.2.2.2.2.1 hP hS he rfl 15 (by decide) (X.2.2.2.2.1 _ (tbm 467 (by decide +kernel))) (fun _ h => h) rfl (X.2.2.2.2.2.2.2.2.2.2.trans hin) rfl (t_M_ok 15 (by decide)) rfl rfl hl hdg kk
theorem g_M_44 {p : Program} {l : Launch} {e : Env} {R : Room} {s : State} {m : MethodId} {args : Array Value} {below : List Frame} {meth : Method} {c : Code} {H : Heap} {locs : List Loc} {cells slots : Nat} {Q : State → Prop} {cc : ByteArray} {pc : Nat} {ls : Array Slot} {rest : List Value} {D : va_G} {A : Nat → Prop} {t : Nat → ClassId} {g : hG} {nL : Nat} {ret0 : Option FieldType} {nm : String} {a : Nat} (X : Cx p s m args meth c R_M cc nL ret0 TB D vwCl (tyL t) EX A nm) (hb : c.code = cc) (hP : hw D vwCl A g H) {fs : List Value} (he : g a = some (.inr (6, fs))) {v : Value} (hv : fs[16]? = some v) (hdg : decode cc pc = .ok (.getfield 44, 3)) (kk : W p l e R s m args below meth c H locs cells slots Q (F0 m (pc + 3) ls (v :: rest))) : W p l e R s m args below meth c H locs cells slots Q (F0 m pc ls (.ref a :: rest)) :=
  h_get (C := R_M) (T := F_M) (N := 26) (ref := R_M) (own := R_M) X.1 hb X.2.2.2.2.1 i_M X.2.2.2.2.2.1 X.2.2.2.2.2.2.2.1 hP he rfl 16 (by decide) (X.2.2.2.2.1 _ (tbm 468 (by decide +kernel))) (fun _ h => h) hv hdg kk
theorem p_M_44 {p : Program} {l : Launch} {e : Env} {R : Room} {s : State} {m : MethodId} {args : Array Value} {below : List Frame} {meth : Method} {c : Code} {H : Heap} {locs : List Loc} {cells slots : Nat} {Q : State → Prop} {cc : ByteArray} {pc : Nat} {ls : Array Slot} {rest : List Value} {D : va_G} {A : Nat → Prop} {t : Nat → ClassId} {g : hG} {nL : Nat} {ret0 : Option FieldType} {nm : String} {a : Nat} (X : Cx p s m args meth c R_M cc nL ret0 TB D vwCl (tyL t) EX A nm) (hb : c.code = cc) (hP : hw D vwCl A g H) (hS : va_S A s.heap H locs) {fs : List Value} (he : g a = some (.inr (6, fs))) (hl : 16 < fs.length) {x : Nat} (hin : nm = "<init>") (hdg : decode cc pc = .ok (.putfield 44, 3)) (kk : ∀ (H1 : Heap) (locs1 : List Loc), hw D vwCl A (va_up g a (some (.inr (6, fs.set 16 (.ref x))))) H1 → va_S A s.heap H1 locs1 → W p l e R s m args below meth c H1 locs1 cells slots Q (F0 m (pc + 3) ls rest)) : W p l e R s m args below meth c H locs cells slots Q (F0 m pc ls (.ref x :: .ref a :: rest)) :=
  h_putF (C := R_M) (T := F_M) (N := 26) (ref := R_M) (own := R_M) X.1 hb X.2.2.2.2.1 i_M t_M t_M_ok n_M X.2.2.2.2.2.1 X.2.2.2.2.2.2.2.1 hP hS he rfl 16 (by decide) (X.2.2.2.2.1 _ (tbm 468 (by decide +kernel))) (fun _ h => h) rfl (X.2.2.2.2.2.2.2.2.2.2.trans hin) rfl (t_M_ok 16 (by decide)) rfl rfl hl hdg kk
theorem g_M_47 {p : Program} {l : Launch} {e : Env} {R : Room} {s : State} {m : MethodId} {args : Array Value} {below : List Frame} {meth : Method} {c : Code} {H : Heap} {locs : List Loc} {cells slots : Nat} {Q : State → Prop} {cc : ByteArray} {pc : Nat} {ls : Array Slot} {rest : List Value} {D : va_G} {A : Nat → Prop} {t : Nat → ClassId} {g : hG} {nL : Nat} {ret0 : Option FieldType} {nm : String} {a : Nat} (X : Cx p s m args meth c R_M cc nL ret0 TB D vwCl (tyL t) EX A nm) (hb : c.code = cc) (hP : hw D vwCl A g H) {fs : List Value} (he : g a = some (.inr (6, fs))) {v : Value} (hv : fs[17]? = some v) (hdg : decode cc pc = .ok (.getfield 47, 3)) (kk : W p l e R s m args below meth c H locs cells slots Q (F0 m (pc + 3) ls (v :: rest))) : W p l e R s m args below meth c H locs cells slots Q (F0 m pc ls (.ref a :: rest)) :=
  h_get (C := R_M) (T := F_M) (N := 26) (ref := R_M) (own := R_M) X.1 hb X.2.2.2.2.1 i_M X.2.2.2.2.2.1 X.2.2.2.2.2.2.2.1 hP he rfl 17 (by decide) (X.2.2.2.2.1 _ (tbm 469 (by decide +kernel))) (fun _ h => h) hv hdg kk
theorem p_M_47 {p : Program} {l : Launch} {e : Env} {R : Room} {s : State} {m : MethodId} {args : Array Value} {below : List Frame} {meth : Method} {c : Code} {H : Heap} {locs : List Loc} {cells slots : Nat} {Q : State → Prop} {cc : ByteArray} {pc : Nat} {ls : Array Slot} {rest : List Value} {D : va_G} {A : Nat → Prop} {t : Nat → ClassId} {g : hG} {nL : Nat} {ret0 : Option FieldType} {nm : String} {a : Nat} (X : Cx p s m args meth c R_M cc nL ret0 TB D vwCl (tyL t) EX A nm) (hb : c.code = cc) (hP : hw D vwCl A g H) (hS : va_S A s.heap H locs) {fs : List Value} (he : g a = some (.inr (6, fs))) (hl : 17 < fs.length) {x : Nat} (hin : nm = "<init>") (hdg : decode cc pc = .ok (.putfield 47, 3)) (kk : ∀ (H1 : Heap) (locs1 : List Loc), hw D vwCl A (va_up g a (some (.inr (6, fs.set 17 (.ref x))))) H1 → va_S A s.heap H1 locs1 → W p l e R s m args below meth c H1 locs1 cells slots Q (F0 m (pc + 3) ls rest)) : W p l e R s m args below meth c H locs cells slots Q (F0 m pc ls (.ref x :: .ref a :: rest)) :=
  h_putF (C := R_M) (T := F_M) (N := 26) (ref := R_M) (own := R_M) X.1 hb X.2.2.2.2.1 i_M t_M t_M_ok n_M X.2.2.2.2.2.1 X.2.2.2.2.2.2.2.1 hP hS he rfl 17 (by decide) (X.2.2.2.2.1 _ (tbm 469 (by decide +kernel))) (fun _ h => h) rfl (X.2.2.2.2.2.2.2.2.2.2.trans hin) rfl (t_M_ok 17 (by decide)) rfl rfl hl hdg kk
theorem g_M_50 {p : Program} {l : Launch} {e : Env} {R : Room} {s : State} {m : MethodId} {args : Array Value} {below : List Frame} {meth : Method} {c : Code} {H : Heap} {locs : List Loc} {cells slots : Nat} {Q : State → Prop} {cc : ByteArray} {pc : Nat} {ls : Array Slot} {rest : List Value} {D : va_G} {A : Nat → Prop} {t : Nat → ClassId} {g : hG} {nL : Nat} {ret0 : Option FieldType} {nm : String} {a : Nat} (X : Cx p s m args meth c R_M cc nL ret0 TB D vwCl (tyL t) EX A nm) (hb : c.code = cc) (hP : hw D vwCl A g H) {fs : List Value} (he : g a = some (.inr (6, fs))) {v : Value} (hv : fs[18]? = some v) (hdg : decode cc pc = .ok (.getfield 50, 3)) (kk : W p l e R s m args below meth c H locs cells slots Q (F0 m (pc + 3) ls (v :: rest))) : W p l e R s m args below meth c H locs cells slots Q (F0 m pc ls (.ref a :: rest)) :=
  h_get (C := R_M) (T := F_M) (N := 26) (ref := R_M) (own := R_M) X.1 hb X.2.2.2.2.1 i_M X.2.2.2.2.2.1 X.2.2.2.2.2.2.2.1 hP he rfl 18 (by decide) (X.2.2.2.2.1 _ (tbm 470 (by decide +kernel))) (fun _ h => h) hv hdg kk
theorem p_M_50 {p : Program} {l : Launch} {e : Env} {R : Room} {s : State} {m : MethodId} {args : Array Value} {below : List Frame} {meth : Method} {c : Code} {H : Heap} {locs : List Loc} {cells slots : Nat} {Q : State → Prop} {cc : ByteArray} {pc : Nat} {ls : Array Slot} {rest : List Value} {D : va_G} {A : Nat → Prop} {t : Nat → ClassId} {g : hG} {nL : Nat} {ret0 : Option FieldType} {nm : String} {a : Nat} (X : Cx p s m args meth c R_M cc nL ret0 TB D vwCl (tyL t) EX A nm) (hb : c.code = cc) (hP : hw D vwCl A g H) (hS : va_S A s.heap H locs) {fs : List Value} (he : g a = some (.inr (6, fs))) (hl : 18 < fs.length) {x : Nat} (hin : nm = "<init>") (hdg : decode cc pc = .ok (.putfield 50, 3)) (kk : ∀ (H1 : Heap) (locs1 : List Loc), hw D vwCl A (va_up g a (some (.inr (6, fs.set 18 (.ref x))))) H1 → va_S A s.heap H1 locs1 → W p l e R s m args below meth c H1 locs1 cells slots Q (F0 m (pc + 3) ls rest)) : W p l e R s m args below meth c H locs cells slots Q (F0 m pc ls (.ref x :: .ref a :: rest)) :=
  h_putF (C := R_M) (T := F_M) (N := 26) (ref := R_M) (own := R_M) X.1 hb X.2.2.2.2.1 i_M t_M t_M_ok n_M X.2.2.2.2.2.1 X.2.2.2.2.2.2.2.1 hP hS he rfl 18 (by decide) (X.2.2.2.2.1 _ (tbm 470 (by decide +kernel))) (fun _ h => h) rfl (X.2.2.2.2.2.2.2.2.2.2.trans hin) rfl (t_M_ok 18 (by decide)) rfl rfl hl hdg kk
theorem g_M_53 {p : Program} {l : Launch} {e : Env} {R : Room} {s : State} {m : MethodId} {args : Array Value} {below : List Frame} {meth : Method} {c : Code} {H : Heap} {locs : List Loc} {cells slots : Nat} {Q : State → Prop} {cc : ByteArray} {pc : Nat} {ls : Array Slot} {rest : List Value} {D : va_G} {A : Nat → Prop} {t : Nat → ClassId} {g : hG} {nL : Nat} {ret0 : Option FieldType} {nm : String} {a : Nat} (X : Cx p s m args meth c R_M cc nL ret0 TB D vwCl (tyL t) EX A nm) (hb : c.code = cc) (hP : hw D vwCl A g H) {fs : List Value} (he : g a = some (.inr (6, fs))) {v : Value} (hv : fs[19]? = some v) (hdg : decode cc pc = .ok (.getfield 53, 3)) (kk : W p l e R s m args below meth c H locs cells slots Q (F0 m (pc + 3) ls (v :: rest))) : W p l e R s m args below meth c H locs cells slots Q (F0 m pc ls (.ref a :: rest)) :=
  h_get (C := R_M) (T := F_M) (N := 26) (ref := R_M) (own := R_M) X.1 hb X.2.2.2.2.1 i_M X.2.2.2.2.2.1 X.2.2.2.2.2.2.2.1 hP he rfl 19 (by decide) (X.2.2.2.2.1 _ (tbm 471 (by decide +kernel))) (fun _ h => h) hv hdg kk
theorem p_M_53 {p : Program} {l : Launch} {e : Env} {R : Room} {s : State} {m : MethodId} {args : Array Value} {below : List Frame} {meth : Method} {c : Code} {H : Heap} {locs : List Loc} {cells slots : Nat} {Q : State → Prop} {cc : ByteArray} {pc : Nat} {ls : Array Slot} {rest : List Value} {D : va_G} {A : Nat → Prop} {t : Nat → ClassId} {g : hG} {nL : Nat} {ret0 : Option FieldType} {nm : String} {a : Nat} (X : Cx p s m args meth c R_M cc nL ret0 TB D vwCl (tyL t) EX A nm) (hb : c.code = cc) (hP : hw D vwCl A g H) (hS : va_S A s.heap H locs) {fs : List Value} (he : g a = some (.inr (6, fs))) (hl : 19 < fs.length) {x : Nat} (hin : nm = "<init>") (hdg : decode cc pc = .ok (.putfield 53, 3)) (kk : ∀ (H1 : Heap) (locs1 : List Loc), hw D vwCl A (va_up g a (some (.inr (6, fs.set 19 (.ref x))))) H1 → va_S A s.heap H1 locs1 → W p l e R s m args below meth c H1 locs1 cells slots Q (F0 m (pc + 3) ls rest)) : W p l e R s m args below meth c H locs cells slots Q (F0 m pc ls (.ref x :: .ref a :: rest)) :=
  h_putF (C := R_M) (T := F_M) (N := 26) (ref := R_M) (own := R_M) X.1 hb X.2.2.2.2.1 i_M t_M t_M_ok n_M X.2.2.2.2.2.1 X.2.2.2.2.2.2.2.1 hP hS he rfl 19 (by decide) (X.2.2.2.2.1 _ (tbm 471 (by decide +kernel))) (fun _ h => h) rfl (X.2.2.2.2.2.2.2.2.2.2.trans hin) rfl (t_M_ok 19 (by decide)) rfl rfl hl hdg kk
theorem g_M_56 {p : Program} {l : Launch} {e : Env} {R : Room} {s : State} {m : MethodId} {args : Array Value} {below : List Frame} {meth : Method} {c : Code} {H : Heap} {locs : List Loc} {cells slots : Nat} {Q : State → Prop} {cc : ByteArray} {pc : Nat} {ls : Array Slot} {rest : List Value} {D : va_G} {A : Nat → Prop} {t : Nat → ClassId} {g : hG} {nL : Nat} {ret0 : Option FieldType} {nm : String} {a : Nat} (X : Cx p s m args meth c R_M cc nL ret0 TB D vwCl (tyL t) EX A nm) (hb : c.code = cc) (hP : hw D vwCl A g H) {fs : List Value} (he : g a = some (.inr (6, fs))) {v : Value} (hv : fs[20]? = some v) (hdg : decode cc pc = .ok (.getfield 56, 3)) (kk : W p l e R s m args below meth c H locs cells slots Q (F0 m (pc + 3) ls (v :: rest))) : W p l e R s m args below meth c H locs cells slots Q (F0 m pc ls (.ref a :: rest)) :=
  h_get (C := R_M) (T := F_M) (N := 26) (ref := R_M) (own := R_M) X.1 hb X.2.2.2.2.1 i_M X.2.2.2.2.2.1 X.2.2.2.2.2.2.2.1 hP he rfl 20 (by decide) (X.2.2.2.2.1 _ (tbm 472 (by decide +kernel))) (fun _ h => h) hv hdg kk
theorem p_M_56 {p : Program} {l : Launch} {e : Env} {R : Room} {s : State} {m : MethodId} {args : Array Value} {below : List Frame} {meth : Method} {c : Code} {H : Heap} {locs : List Loc} {cells slots : Nat} {Q : State → Prop} {cc : ByteArray} {pc : Nat} {ls : Array Slot} {rest : List Value} {D : va_G} {A : Nat → Prop} {t : Nat → ClassId} {g : hG} {nL : Nat} {ret0 : Option FieldType} {nm : String} {a : Nat} (X : Cx p s m args meth c R_M cc nL ret0 TB D vwCl (tyL t) EX A nm) (hb : c.code = cc) (hP : hw D vwCl A g H) (hS : va_S A s.heap H locs) {fs : List Value} (he : g a = some (.inr (6, fs))) (hl : 20 < fs.length) {x : Nat} (hin : nm = "<init>") (hdg : decode cc pc = .ok (.putfield 56, 3)) (kk : ∀ (H1 : Heap) (locs1 : List Loc), hw D vwCl A (va_up g a (some (.inr (6, fs.set 20 (.ref x))))) H1 → va_S A s.heap H1 locs1 → W p l e R s m args below meth c H1 locs1 cells slots Q (F0 m (pc + 3) ls rest)) : W p l e R s m args below meth c H locs cells slots Q (F0 m pc ls (.ref x :: .ref a :: rest)) :=
  h_putF (C := R_M) (T := F_M) (N := 26) (ref := R_M) (own := R_M) X.1 hb X.2.2.2.2.1 i_M t_M t_M_ok n_M X.2.2.2.2.2.1 X.2.2.2.2.2.2.2.1 hP hS he rfl 20 (by decide) (X.2.2.2.2.1 _ (tbm 472 (by decide +kernel))) (fun _ h => h) rfl (X.2.2.2.2.2.2.2.2.2.2.trans hin) rfl (t_M_ok 20 (by decide)) rfl rfl hl hdg kk
theorem g_M_59 {p : Program} {l : Launch} {e : Env} {R : Room} {s : State} {m : MethodId} {args : Array Value} {below : List Frame} {meth : Method} {c : Code} {H : Heap} {locs : List Loc} {cells slots : Nat} {Q : State → Prop} {cc : ByteArray} {pc : Nat} {ls : Array Slot} {rest : List Value} {D : va_G} {A : Nat → Prop} {t : Nat → ClassId} {g : hG} {nL : Nat} {ret0 : Option FieldType} {nm : String} {a : Nat} (X : Cx p s m args meth c R_M cc nL ret0 TB D vwCl (tyL t) EX A nm) (hb : c.code = cc) (hP : hw D vwCl A g H) {fs : List Value} (he : g a = some (.inr (6, fs))) {v : Value} (hv : fs[21]? = some v) (hdg : decode cc pc = .ok (.getfield 59, 3)) (kk : W p l e R s m args below meth c H locs cells slots Q (F0 m (pc + 3) ls (v :: rest))) : W p l e R s m args below meth c H locs cells slots Q (F0 m pc ls (.ref a :: rest)) :=
  h_get (C := R_M) (T := F_M) (N := 26) (ref := R_M) (own := R_M) X.1 hb X.2.2.2.2.1 i_M X.2.2.2.2.2.1 X.2.2.2.2.2.2.2.1 hP he rfl 21 (by decide) (X.2.2.2.2.1 _ (tbm 473 (by decide +kernel))) (fun _ h => h) hv hdg kk
theorem p_M_59 {p : Program} {l : Launch} {e : Env} {R : Room} {s : State} {m : MethodId} {args : Array Value} {below : List Frame} {meth : Method} {c : Code} {H : Heap} {locs : List Loc} {cells slots : Nat} {Q : State → Prop} {cc : ByteArray} {pc : Nat} {ls : Array Slot} {rest : List Value} {D : va_G} {A : Nat → Prop} {t : Nat → ClassId} {g : hG} {nL : Nat} {ret0 : Option FieldType} {nm : String} {a : Nat} (X : Cx p s m args meth c R_M cc nL ret0 TB D vwCl (tyL t) EX A nm) (hb : c.code = cc) (hP : hw D vwCl A g H) (hS : va_S A s.heap H locs) {fs : List Value} (he : g a = some (.inr (6, fs))) (hl : 21 < fs.length) {x : Nat} (hin : nm = "<init>") (hdg : decode cc pc = .ok (.putfield 59, 3)) (kk : ∀ (H1 : Heap) (locs1 : List Loc), hw D vwCl A (va_up g a (some (.inr (6, fs.set 21 (.ref x))))) H1 → va_S A s.heap H1 locs1 → W p l e R s m args below meth c H1 locs1 cells slots Q (F0 m (pc + 3) ls rest)) : W p l e R s m args below meth c H locs cells slots Q (F0 m pc ls (.ref x :: .ref a :: rest)) :=
  h_putF (C := R_M) (T := F_M) (N := 26) (ref := R_M) (own := R_M) X.1 hb X.2.2.2.2.1 i_M t_M t_M_ok n_M X.2.2.2.2.2.1 X.2.2.2.2.2.2.2.1 hP hS he rfl 21 (by decide) (X.2.2.2.2.1 _ (tbm 473 (by decide +kernel))) (fun _ h => h) rfl (X.2.2.2.2.2.2.2.2.2.2.trans hin) rfl (t_M_ok 21 (by decide)) rfl rfl hl hdg kk
theorem g_M_62 {p : Program} {l : Launch} {e : Env} {R : Room} {s : State} {m : MethodId} {args : Array Value} {below : List Frame} {meth : Method} {c : Code} {H : Heap} {locs : List Loc} {cells slots : Nat} {Q : State → Prop} {cc : ByteArray} {pc : Nat} {ls : Array Slot} {rest : List Value} {D : va_G} {A : Nat → Prop} {t : Nat → ClassId} {g : hG} {nL : Nat} {ret0 : Option FieldType} {nm : String} {a : Nat} (X : Cx p s m args meth c R_M cc nL ret0 TB D vwCl (tyL t) EX A nm) (hb : c.code = cc) (hP : hw D vwCl A g H) {fs : List Value} (he : g a = some (.inr (6, fs))) {v : Value} (hv : fs[22]? = some v) (hdg : decode cc pc = .ok (.getfield 62, 3)) (kk : W p l e R s m args below meth c H locs cells slots Q (F0 m (pc + 3) ls (v :: rest))) : W p l e R s m args below meth c H locs cells slots Q (F0 m pc ls (.ref a :: rest)) :=
  h_get (C := R_M) (T := F_M) (N := 26) (ref := R_M) (own := R_M) X.1 hb X.2.2.2.2.1 i_M X.2.2.2.2.2.1 X.2.2.2.2.2.2.2.1 hP he rfl 22 (by decide) (X.2.2.2.2.1 _ (tbm 474 (by decide +kernel))) (fun _ h => h) hv hdg kk
theorem p_M_62 {p : Program} {l : Launch} {e : Env} {R : Room} {s : State} {m : MethodId} {args : Array Value} {below : List Frame} {meth : Method} {c : Code} {H : Heap} {locs : List Loc} {cells slots : Nat} {Q : State → Prop} {cc : ByteArray} {pc : Nat} {ls : Array Slot} {rest : List Value} {D : va_G} {A : Nat → Prop} {t : Nat → ClassId} {g : hG} {nL : Nat} {ret0 : Option FieldType} {nm : String} {a : Nat} (X : Cx p s m args meth c R_M cc nL ret0 TB D vwCl (tyL t) EX A nm) (hb : c.code = cc) (hP : hw D vwCl A g H) (hS : va_S A s.heap H locs) {fs : List Value} (he : g a = some (.inr (6, fs))) (hl : 22 < fs.length) {x : Nat} (hin : nm = "<init>") (hdg : decode cc pc = .ok (.putfield 62, 3)) (kk : ∀ (H1 : Heap) (locs1 : List Loc), hw D vwCl A (va_up g a (some (.inr (6, fs.set 22 (.ref x))))) H1 → va_S A s.heap H1 locs1 → W p l e R s m args below meth c H1 locs1 cells slots Q (F0 m (pc + 3) ls rest)) : W p l e R s m args below meth c H locs cells slots Q (F0 m pc ls (.ref x :: .ref a :: rest)) :=
  h_putF (C := R_M) (T := F_M) (N := 26) (ref := R_M) (own := R_M) X.1 hb X.2.2.2.2.1 i_M t_M t_M_ok n_M X.2.2.2.2.2.1 X.2.2.2.2.2.2.2.1 hP hS he rfl 22 (by decide) (X.2.2.2.2.1 _ (tbm 474 (by decide +kernel))) (fun _ h => h) rfl (X.2.2.2.2.2.2.2.2.2.2.trans hin) rfl (t_M_ok 22 (by decide)) rfl rfl hl hdg kk
theorem g_M_65 {p : Program} {l : Launch} {e : Env} {R : Room} {s : State} {m : MethodId} {args : Array Value} {below : List Frame} {meth : Method} {c : Code} {H : Heap} {locs : List Loc} {cells slots : Nat} {Q : State → Prop} {cc : ByteArray} {pc : Nat} {ls : Array Slot} {rest : List Value} {D : va_G} {A : Nat → Prop} {t : Nat → ClassId} {g : hG} {nL : Nat} {ret0 : Option FieldType} {nm : String} {a : Nat} (X : Cx p s m args meth c R_M cc nL ret0 TB D vwCl (tyL t) EX A nm) (hb : c.code = cc) (hP : hw D vwCl A g H) {fs : List Value} (he : g a = some (.inr (6, fs))) {v : Value} (hv : fs[23]? = some v) (hdg : decode cc pc = .ok (.getfield 65, 3)) (kk : W p l e R s m args below meth c H locs cells slots Q (F0 m (pc + 3) ls (v :: rest))) : W p l e R s m args below meth c H locs cells slots Q (F0 m pc ls (.ref a :: rest)) :=
  h_get (C := R_M) (T := F_M) (N := 26) (ref := R_M) (own := R_M) X.1 hb X.2.2.2.2.1 i_M X.2.2.2.2.2.1 X.2.2.2.2.2.2.2.1 hP he rfl 23 (by decide) (X.2.2.2.2.1 _ (tbm 475 (by decide +kernel))) (fun _ h => h) hv hdg kk
theorem p_M_65 {p : Program} {l : Launch} {e : Env} {R : Room} {s : State} {m : MethodId} {args : Array Value} {below : List Frame} {meth : Method} {c : Code} {H : Heap} {locs : List Loc} {cells slots : Nat} {Q : State → Prop} {cc : ByteArray} {pc : Nat} {ls : Array Slot} {rest : List Value} {D : va_G} {A : Nat → Prop} {t : Nat → ClassId} {g : hG} {nL : Nat} {ret0 : Option FieldType} {nm : String} {a : Nat} (X : Cx p s m args meth c R_M cc nL ret0 TB D vwCl (tyL t) EX A nm) (hb : c.code = cc) (hP : hw D vwCl A g H) (hS : va_S A s.heap H locs) {fs : List Value} (he : g a = some (.inr (6, fs))) (hl : 23 < fs.length) {x : Nat} (hin : nm = "<init>") (hdg : decode cc pc = .ok (.putfield 65, 3)) (kk : ∀ (H1 : Heap) (locs1 : List Loc), hw D vwCl A (va_up g a (some (.inr (6, fs.set 23 (.ref x))))) H1 → va_S A s.heap H1 locs1 → W p l e R s m args below meth c H1 locs1 cells slots Q (F0 m (pc + 3) ls rest)) : W p l e R s m args below meth c H locs cells slots Q (F0 m pc ls (.ref x :: .ref a :: rest)) :=
  h_putF (C := R_M) (T := F_M) (N := 26) (ref := R_M) (own := R_M) X.1 hb X.2.2.2.2.1 i_M t_M t_M_ok n_M X.2.2.2.2.2.1 X.2.2.2.2.2.2.2.1 hP hS he rfl 23 (by decide) (X.2.2.2.2.1 _ (tbm 475 (by decide +kernel))) (fun _ h => h) rfl (X.2.2.2.2.2.2.2.2.2.2.trans hin) rfl (t_M_ok 23 (by decide)) rfl rfl hl hdg kk
theorem g_M_69 {p : Program} {l : Launch} {e : Env} {R : Room} {s : State} {m : MethodId} {args : Array Value} {below : List Frame} {meth : Method} {c : Code} {H : Heap} {locs : List Loc} {cells slots : Nat} {Q : State → Prop} {cc : ByteArray} {pc : Nat} {ls : Array Slot} {rest : List Value} {D : va_G} {A : Nat → Prop} {t : Nat → ClassId} {g : hG} {nL : Nat} {ret0 : Option FieldType} {nm : String} {a : Nat} (X : Cx p s m args meth c R_M cc nL ret0 TB D vwCl (tyL t) EX A nm) (hb : c.code = cc) (hP : hw D vwCl A g H) {fs : List Value} (he : g a = some (.inr (6, fs))) {v : Value} (hv : fs[24]? = some v) (hdg : decode cc pc = .ok (.getfield 69, 3)) (kk : W p l e R s m args below meth c H locs cells slots Q (F0 m (pc + 3) ls (v :: rest))) : W p l e R s m args below meth c H locs cells slots Q (F0 m pc ls (.ref a :: rest)) :=
  h_get (C := R_M) (T := F_M) (N := 26) (ref := R_M) (own := R_M) X.1 hb X.2.2.2.2.1 i_M X.2.2.2.2.2.1 X.2.2.2.2.2.2.2.1 hP he rfl 24 (by decide) (X.2.2.2.2.1 _ (tbm 476 (by decide +kernel))) (fun _ h => h) hv hdg kk
theorem p_M_69 {p : Program} {l : Launch} {e : Env} {R : Room} {s : State} {m : MethodId} {args : Array Value} {below : List Frame} {meth : Method} {c : Code} {H : Heap} {locs : List Loc} {cells slots : Nat} {Q : State → Prop} {cc : ByteArray} {pc : Nat} {ls : Array Slot} {rest : List Value} {D : va_G} {A : Nat → Prop} {t : Nat → ClassId} {g : hG} {nL : Nat} {ret0 : Option FieldType} {nm : String} {a : Nat} (X : Cx p s m args meth c R_M cc nL ret0 TB D vwCl (tyL t) EX A nm) (hb : c.code = cc) (hP : hw D vwCl A g H) (hS : va_S A s.heap H locs) {fs : List Value} (he : g a = some (.inr (6, fs))) (hl : 24 < fs.length) {x : Nat} (hin : nm = "<init>") (hdg : decode cc pc = .ok (.putfield 69, 3)) (kk : ∀ (H1 : Heap) (locs1 : List Loc), hw D vwCl A (va_up g a (some (.inr (6, fs.set 24 (.ref x))))) H1 → va_S A s.heap H1 locs1 → W p l e R s m args below meth c H1 locs1 cells slots Q (F0 m (pc + 3) ls rest)) : W p l e R s m args below meth c H locs cells slots Q (F0 m pc ls (.ref x :: .ref a :: rest)) :=
  h_putF (C := R_M) (T := F_M) (N := 26) (ref := R_M) (own := R_M) X.1 hb X.2.2.2.2.1 i_M t_M t_M_ok n_M X.2.2.2.2.2.1 X.2.2.2.2.2.2.2.1 hP hS he rfl 24 (by decide) (X.2.2.2.2.1 _ (tbm 476 (by decide +kernel))) (fun _ h => h) rfl (X.2.2.2.2.2.2.2.2.2.2.trans hin) rfl (t_M_ok 24 (by decide)) rfl rfl hl hdg kk
theorem g_M_72 {p : Program} {l : Launch} {e : Env} {R : Room} {s : State} {m : MethodId} {args : Array Value} {below : List Frame} {meth : Method} {c : Code} {H : Heap} {locs : List Loc} {cells slots : Nat} {Q : State → Prop} {cc : ByteArray} {pc : Nat} {ls : Array Slot} {rest : List Value} {D : va_G} {A : Nat → Prop} {t : Nat → ClassId} {g : hG} {nL : Nat} {ret0 : Option FieldType} {nm : String} {a : Nat} (X : Cx p s m args meth c R_M cc nL ret0 TB D vwCl (tyL t) EX A nm) (hb : c.code = cc) (hP : hw D vwCl A g H) {fs : List Value} (he : g a = some (.inr (6, fs))) {v : Value} (hv : fs[25]? = some v) (hdg : decode cc pc = .ok (.getfield 72, 3)) (kk : W p l e R s m args below meth c H locs cells slots Q (F0 m (pc + 3) ls (v :: rest))) : W p l e R s m args below meth c H locs cells slots Q (F0 m pc ls (.ref a :: rest)) :=
  h_get (C := R_M) (T := F_M) (N := 26) (ref := R_M) (own := R_M) X.1 hb X.2.2.2.2.1 i_M X.2.2.2.2.2.1 X.2.2.2.2.2.2.2.1 hP he rfl 25 (by decide) (X.2.2.2.2.1 _ (tbm 477 (by decide +kernel))) (fun _ h => h) hv hdg kk
theorem p_M_72 {p : Program} {l : Launch} {e : Env} {R : Room} {s : State} {m : MethodId} {args : Array Value} {below : List Frame} {meth : Method} {c : Code} {H : Heap} {locs : List Loc} {cells slots : Nat} {Q : State → Prop} {cc : ByteArray} {pc : Nat} {ls : Array Slot} {rest : List Value} {D : va_G} {A : Nat → Prop} {t : Nat → ClassId} {g : hG} {nL : Nat} {ret0 : Option FieldType} {nm : String} {a : Nat} (X : Cx p s m args meth c R_M cc nL ret0 TB D vwCl (tyL t) EX A nm) (hb : c.code = cc) (hP : hw D vwCl A g H) (hS : va_S A s.heap H locs) {fs : List Value} (he : g a = some (.inr (6, fs))) (hl : 25 < fs.length) {x : Int32} (hdg : decode cc pc = .ok (.putfield 72, 3)) (kk : ∀ (H1 : Heap) (locs1 : List Loc), hw D vwCl A (va_up g a (some (.inr (6, fs.set 25 (.int x))))) H1 → va_S A s.heap H1 locs1 → W p l e R s m args below meth c H1 locs1 cells slots Q (F0 m (pc + 3) ls rest)) : W p l e R s m args below meth c H locs cells slots Q (F0 m pc ls (.int x :: .ref a :: rest)) :=
  h_put (C := R_M) (T := F_M) (N := 26) (ref := R_M) (own := R_M) X.1 hb X.2.2.2.2.1 i_M t_M t_M_ok n_M X.2.2.2.2.2.1 X.2.2.2.2.2.2.2.1 hP hS he rfl 25 (by decide) (X.2.2.2.2.1 _ (tbm 477 (by decide +kernel))) (fun _ h => h) rfl (t_M_ok 25 (by decide)) rfl rfl hl hdg kk
theorem g_M_76 {p : Program} {l : Launch} {e : Env} {R : Room} {s : State} {m : MethodId} {args : Array Value} {below : List Frame} {meth : Method} {c : Code} {H : Heap} {locs : List Loc} {cells slots : Nat} {Q : State → Prop} {cc : ByteArray} {pc : Nat} {ls : Array Slot} {rest : List Value} {D : va_G} {A : Nat → Prop} {t : Nat → ClassId} {g : hG} {nL : Nat} {ret0 : Option FieldType} {nm : String} {a : Nat} (X : Cx p s m args meth c R_M cc nL ret0 TB D vwCl (tyL t) EX A nm) (hb : c.code = cc) (hP : hw D vwCl A g H) {fs : List Value} (he : g a = some (.inr (6, fs))) {v : Value} (hv : fs[0]? = some v) (hdg : decode cc pc = .ok (.getfield 76, 3)) (kk : W p l e R s m args below meth c H locs cells slots Q (F0 m (pc + 3) ls (v :: rest))) : W p l e R s m args below meth c H locs cells slots Q (F0 m pc ls (.ref a :: rest)) :=
  h_get (C := R_M) (T := F_M) (N := 26) (ref := R_M) (own := R_M) X.1 hb X.2.2.2.2.1 i_M X.2.2.2.2.2.1 X.2.2.2.2.2.2.2.1 hP he rfl 0 (by decide) (X.2.2.2.2.1 _ (tbm 452 (by decide +kernel))) (fun _ h => h) hv hdg kk
theorem p_M_76 {p : Program} {l : Launch} {e : Env} {R : Room} {s : State} {m : MethodId} {args : Array Value} {below : List Frame} {meth : Method} {c : Code} {H : Heap} {locs : List Loc} {cells slots : Nat} {Q : State → Prop} {cc : ByteArray} {pc : Nat} {ls : Array Slot} {rest : List Value} {D : va_G} {A : Nat → Prop} {t : Nat → ClassId} {g : hG} {nL : Nat} {ret0 : Option FieldType} {nm : String} {a : Nat} (X : Cx p s m args meth c R_M cc nL ret0 TB D vwCl (tyL t) EX A nm) (hb : c.code = cc) (hP : hw D vwCl A g H) (hS : va_S A s.heap H locs) {fs : List Value} (he : g a = some (.inr (6, fs))) (hl : 0 < fs.length) {x : Int32} (hdg : decode cc pc = .ok (.putfield 76, 3)) (kk : ∀ (H1 : Heap) (locs1 : List Loc), hw D vwCl A (va_up g a (some (.inr (6, fs.set 0 (.int x))))) H1 → va_S A s.heap H1 locs1 → W p l e R s m args below meth c H1 locs1 cells slots Q (F0 m (pc + 3) ls rest)) : W p l e R s m args below meth c H locs cells slots Q (F0 m pc ls (.int x :: .ref a :: rest)) :=
  h_put (C := R_M) (T := F_M) (N := 26) (ref := R_M) (own := R_M) X.1 hb X.2.2.2.2.1 i_M t_M t_M_ok n_M X.2.2.2.2.2.1 X.2.2.2.2.2.2.2.1 hP hS he rfl 0 (by decide) (X.2.2.2.2.1 _ (tbm 452 (by decide +kernel))) (fun _ h => h) rfl (t_M_ok 0 (by decide)) rfl rfl hl hdg kk
theorem g_M_91 {p : Program} {l : Launch} {e : Env} {R : Room} {s : State} {m : MethodId} {args : Array Value} {below : List Frame} {meth : Method} {c : Code} {H : Heap} {locs : List Loc} {cells slots : Nat} {Q : State → Prop} {cc : ByteArray} {pc : Nat} {ls : Array Slot} {rest : List Value} {D : va_G} {A : Nat → Prop} {t : Nat → ClassId} {g : hG} {nL : Nat} {ret0 : Option FieldType} {nm : String} {a : Nat} (X : Cx p s m args meth c R_M cc nL ret0 TB D vwCl (tyL t) EX A nm) (hb : c.code = cc) (hP : hw D vwCl A g H) {fs : List Value} (he : g a = some (.inr (6, fs))) {v : Value} (hv : fs[1]? = some v) (hdg : decode cc pc = .ok (.getfield 91, 3)) (kk : W p l e R s m args below meth c H locs cells slots Q (F0 m (pc + 3) ls (v :: rest))) : W p l e R s m args below meth c H locs cells slots Q (F0 m pc ls (.ref a :: rest)) :=
  h_get (C := R_M) (T := F_M) (N := 26) (ref := R_M) (own := R_M) X.1 hb X.2.2.2.2.1 i_M X.2.2.2.2.2.1 X.2.2.2.2.2.2.2.1 hP he rfl 1 (by decide) (X.2.2.2.2.1 _ (tbm 453 (by decide +kernel))) (fun _ h => h) hv hdg kk
theorem p_M_91 {p : Program} {l : Launch} {e : Env} {R : Room} {s : State} {m : MethodId} {args : Array Value} {below : List Frame} {meth : Method} {c : Code} {H : Heap} {locs : List Loc} {cells slots : Nat} {Q : State → Prop} {cc : ByteArray} {pc : Nat} {ls : Array Slot} {rest : List Value} {D : va_G} {A : Nat → Prop} {t : Nat → ClassId} {g : hG} {nL : Nat} {ret0 : Option FieldType} {nm : String} {a : Nat} (X : Cx p s m args meth c R_M cc nL ret0 TB D vwCl (tyL t) EX A nm) (hb : c.code = cc) (hP : hw D vwCl A g H) (hS : va_S A s.heap H locs) {fs : List Value} (he : g a = some (.inr (6, fs))) (hl : 1 < fs.length) {x : Int32} (hdg : decode cc pc = .ok (.putfield 91, 3)) (kk : ∀ (H1 : Heap) (locs1 : List Loc), hw D vwCl A (va_up g a (some (.inr (6, fs.set 1 (.int x))))) H1 → va_S A s.heap H1 locs1 → W p l e R s m args below meth c H1 locs1 cells slots Q (F0 m (pc + 3) ls rest)) : W p l e R s m args below meth c H locs cells slots Q (F0 m pc ls (.int x :: .ref a :: rest)) :=
  h_put (C := R_M) (T := F_M) (N := 26) (ref := R_M) (own := R_M) X.1 hb X.2.2.2.2.1 i_M t_M t_M_ok n_M X.2.2.2.2.2.1 X.2.2.2.2.2.2.2.1 hP hS he rfl 1 (by decide) (X.2.2.2.2.1 _ (tbm 453 (by decide +kernel))) (fun _ h => h) rfl (t_M_ok 1 (by decide)) rfl rfl hl hdg kk
theorem g_M_97 {p : Program} {l : Launch} {e : Env} {R : Room} {s : State} {m : MethodId} {args : Array Value} {below : List Frame} {meth : Method} {c : Code} {H : Heap} {locs : List Loc} {cells slots : Nat} {Q : State → Prop} {cc : ByteArray} {pc : Nat} {ls : Array Slot} {rest : List Value} {D : va_G} {A : Nat → Prop} {t : Nat → ClassId} {g : hG} {nL : Nat} {ret0 : Option FieldType} {nm : String} {a : Nat} (X : Cx p s m args meth c R_M cc nL ret0 TB D vwCl (tyL t) EX A nm) (hb : c.code = cc) (hP : hw D vwCl A g H) {fs : List Value} (he : g a = some (.inr (6, fs))) {v : Value} (hv : fs[4]? = some v) (hdg : decode cc pc = .ok (.getfield 97, 3)) (kk : W p l e R s m args below meth c H locs cells slots Q (F0 m (pc + 3) ls (v :: rest))) : W p l e R s m args below meth c H locs cells slots Q (F0 m pc ls (.ref a :: rest)) :=
  h_get (C := R_M) (T := F_M) (N := 26) (ref := R_M) (own := R_M) X.1 hb X.2.2.2.2.1 i_M X.2.2.2.2.2.1 X.2.2.2.2.2.2.2.1 hP he rfl 4 (by decide) (X.2.2.2.2.1 _ (tbm 456 (by decide +kernel))) (fun _ h => h) hv hdg kk
theorem p_M_97 {p : Program} {l : Launch} {e : Env} {R : Room} {s : State} {m : MethodId} {args : Array Value} {below : List Frame} {meth : Method} {c : Code} {H : Heap} {locs : List Loc} {cells slots : Nat} {Q : State → Prop} {cc : ByteArray} {pc : Nat} {ls : Array Slot} {rest : List Value} {D : va_G} {A : Nat → Prop} {t : Nat → ClassId} {g : hG} {nL : Nat} {ret0 : Option FieldType} {nm : String} {a : Nat} (X : Cx p s m args meth c R_M cc nL ret0 TB D vwCl (tyL t) EX A nm) (hb : c.code = cc) (hP : hw D vwCl A g H) (hS : va_S A s.heap H locs) {fs : List Value} (he : g a = some (.inr (6, fs))) (hl : 4 < fs.length) {x : Int32} (hdg : decode cc pc = .ok (.putfield 97, 3)) (kk : ∀ (H1 : Heap) (locs1 : List Loc), hw D vwCl A (va_up g a (some (.inr (6, fs.set 4 (.int x))))) H1 → va_S A s.heap H1 locs1 → W p l e R s m args below meth c H1 locs1 cells slots Q (F0 m (pc + 3) ls rest)) : W p l e R s m args below meth c H locs cells slots Q (F0 m pc ls (.int x :: .ref a :: rest)) :=
  h_put (C := R_M) (T := F_M) (N := 26) (ref := R_M) (own := R_M) X.1 hb X.2.2.2.2.1 i_M t_M t_M_ok n_M X.2.2.2.2.2.1 X.2.2.2.2.2.2.2.1 hP hS he rfl 4 (by decide) (X.2.2.2.2.1 _ (tbm 456 (by decide +kernel))) (fun _ h => h) rfl (t_M_ok 4 (by decide)) rfl rfl hl hdg kk
theorem g_M_107 {p : Program} {l : Launch} {e : Env} {R : Room} {s : State} {m : MethodId} {args : Array Value} {below : List Frame} {meth : Method} {c : Code} {H : Heap} {locs : List Loc} {cells slots : Nat} {Q : State → Prop} {cc : ByteArray} {pc : Nat} {ls : Array Slot} {rest : List Value} {D : va_G} {A : Nat → Prop} {t : Nat → ClassId} {g : hG} {nL : Nat} {ret0 : Option FieldType} {nm : String} {a : Nat} (X : Cx p s m args meth c R_M cc nL ret0 TB D vwCl (tyL t) EX A nm) (hb : c.code = cc) (hP : hw D vwCl A g H) {fs : List Value} (he : g a = some (.inr (6, fs))) {v : Value} (hv : fs[2]? = some v) (hdg : decode cc pc = .ok (.getfield 107, 3)) (kk : W p l e R s m args below meth c H locs cells slots Q (F0 m (pc + 3) ls (v :: rest))) : W p l e R s m args below meth c H locs cells slots Q (F0 m pc ls (.ref a :: rest)) :=
  h_get (C := R_M) (T := F_M) (N := 26) (ref := R_M) (own := R_M) X.1 hb X.2.2.2.2.1 i_M X.2.2.2.2.2.1 X.2.2.2.2.2.2.2.1 hP he rfl 2 (by decide) (X.2.2.2.2.1 _ (tbm 454 (by decide +kernel))) (fun _ h => h) hv hdg kk
theorem p_M_107 {p : Program} {l : Launch} {e : Env} {R : Room} {s : State} {m : MethodId} {args : Array Value} {below : List Frame} {meth : Method} {c : Code} {H : Heap} {locs : List Loc} {cells slots : Nat} {Q : State → Prop} {cc : ByteArray} {pc : Nat} {ls : Array Slot} {rest : List Value} {D : va_G} {A : Nat → Prop} {t : Nat → ClassId} {g : hG} {nL : Nat} {ret0 : Option FieldType} {nm : String} {a : Nat} (X : Cx p s m args meth c R_M cc nL ret0 TB D vwCl (tyL t) EX A nm) (hb : c.code = cc) (hP : hw D vwCl A g H) (hS : va_S A s.heap H locs) {fs : List Value} (he : g a = some (.inr (6, fs))) (hl : 2 < fs.length) {x : Int32} (hdg : decode cc pc = .ok (.putfield 107, 3)) (kk : ∀ (H1 : Heap) (locs1 : List Loc), hw D vwCl A (va_up g a (some (.inr (6, fs.set 2 (.int x))))) H1 → va_S A s.heap H1 locs1 → W p l e R s m args below meth c H1 locs1 cells slots Q (F0 m (pc + 3) ls rest)) : W p l e R s m args below meth c H locs cells slots Q (F0 m pc ls (.int x :: .ref a :: rest)) :=
  h_put (C := R_M) (T := F_M) (N := 26) (ref := R_M) (own := R_M) X.1 hb X.2.2.2.2.1 i_M t_M t_M_ok n_M X.2.2.2.2.2.1 X.2.2.2.2.2.2.2.1 hP hS he rfl 2 (by decide) (X.2.2.2.2.1 _ (tbm 454 (by decide +kernel))) (fun _ h => h) rfl (t_M_ok 2 (by decide)) rfl rfl hl hdg kk
theorem g_M_128 {p : Program} {l : Launch} {e : Env} {R : Room} {s : State} {m : MethodId} {args : Array Value} {below : List Frame} {meth : Method} {c : Code} {H : Heap} {locs : List Loc} {cells slots : Nat} {Q : State → Prop} {cc : ByteArray} {pc : Nat} {ls : Array Slot} {rest : List Value} {D : va_G} {A : Nat → Prop} {t : Nat → ClassId} {g : hG} {nL : Nat} {ret0 : Option FieldType} {nm : String} {a : Nat} (X : Cx p s m args meth c R_M cc nL ret0 TB D vwCl (tyL t) EX A nm) (hb : c.code = cc) (hP : hw D vwCl A g H) {fs : List Value} (he : g a = some (.inr (6, fs))) {v : Value} (hv : fs[3]? = some v) (hdg : decode cc pc = .ok (.getfield 128, 3)) (kk : W p l e R s m args below meth c H locs cells slots Q (F0 m (pc + 3) ls (v :: rest))) : W p l e R s m args below meth c H locs cells slots Q (F0 m pc ls (.ref a :: rest)) :=
  h_get (C := R_M) (T := F_M) (N := 26) (ref := R_M) (own := R_M) X.1 hb X.2.2.2.2.1 i_M X.2.2.2.2.2.1 X.2.2.2.2.2.2.2.1 hP he rfl 3 (by decide) (X.2.2.2.2.1 _ (tbm 455 (by decide +kernel))) (fun _ h => h) hv hdg kk
theorem p_M_128 {p : Program} {l : Launch} {e : Env} {R : Room} {s : State} {m : MethodId} {args : Array Value} {below : List Frame} {meth : Method} {c : Code} {H : Heap} {locs : List Loc} {cells slots : Nat} {Q : State → Prop} {cc : ByteArray} {pc : Nat} {ls : Array Slot} {rest : List Value} {D : va_G} {A : Nat → Prop} {t : Nat → ClassId} {g : hG} {nL : Nat} {ret0 : Option FieldType} {nm : String} {a : Nat} (X : Cx p s m args meth c R_M cc nL ret0 TB D vwCl (tyL t) EX A nm) (hb : c.code = cc) (hP : hw D vwCl A g H) (hS : va_S A s.heap H locs) {fs : List Value} (he : g a = some (.inr (6, fs))) (hl : 3 < fs.length) {x : Int32} (hdg : decode cc pc = .ok (.putfield 128, 3)) (kk : ∀ (H1 : Heap) (locs1 : List Loc), hw D vwCl A (va_up g a (some (.inr (6, fs.set 3 (.int x))))) H1 → va_S A s.heap H1 locs1 → W p l e R s m args below meth c H1 locs1 cells slots Q (F0 m (pc + 3) ls rest)) : W p l e R s m args below meth c H locs cells slots Q (F0 m pc ls (.int x :: .ref a :: rest)) :=
  h_put (C := R_M) (T := F_M) (N := 26) (ref := R_M) (own := R_M) X.1 hb X.2.2.2.2.1 i_M t_M t_M_ok n_M X.2.2.2.2.2.1 X.2.2.2.2.2.2.2.1 hP hS he rfl 3 (by decide) (X.2.2.2.2.1 _ (tbm 455 (by decide +kernel))) (fun _ h => h) rfl (t_M_ok 3 (by decide)) rfl rfl hl hdg kk
end
section
/-! The reference holds the state: one object, 20 arrays. -/
abbrev mOb (ma : Nat → Nat) (tv a b c d th : Int32) : va_E := .inr (6, [.int tv, .int a, .int b, .int c, .int d, .ref (ma 1), .ref (ma 2), .ref (ma 3), .ref (ma 4), .ref (ma 5), .ref (ma 6), .ref (ma 7), .ref (ma 8), .ref (ma 9), .ref (ma 10), .ref (ma 11), .ref (ma 12), .ref (ma 13), .ref (ma 14), .ref (ma 15), .ref (ma 16), .ref (ma 17), .ref (ma 18), .ref (ma 19), .ref (ma 20), .int th])
def mcell (t : Nat → ClassId) (fm : Nat → Nat → Int32) (fj : Nat → Nat → Int64) (i : Nat) : va_E :=
  if i = 6 then arJ t 100 (fj 6) else if i = 12 then arJ t 121 (fj 12) else if i = 18 then arJ t 201 (fj 18) else if i = 20 then arJ t 30 (fj 20) else if i = 19 then arZ t 201 (fm 19) else if i ≤ 5 then arI t 10 (fm i) else if i ≤ 12 then arI t 121 (fm i) else arI t 201 (fm i)
theorem mcell_eq {t : Nat → ClassId} {fm fm' : Nat → Nat → Int32} {fj fj' : Nat → Nat → Int64} {i : Nat} (h1 : fm' i = fm i) (h2 : fj' i = fj i) : mcell t fm' fj' i = mcell t fm fj i := by
  unfold mcell
  by_cases e6 : i = 6
  · subst e6; simp [h2]
  by_cases e12 : i = 12
  · subst e12; simp [h2]
  by_cases e18 : i = 18
  · subst e18; simp [h2]
  by_cases e20 : i = 20
  · subst e20; simp [h2]
  by_cases e19 : i = 19
  · subst e19; simp [h1]
  simp [e6, e12, e18, e20, e19, h1]
def MC (t : Nat → ClassId) (g : hG) (ma : Nat → Nat) (tv a b c d th : Int32) (fm : Nat → Nat → Int32) (fj : Nat → Nat → Int64) : Prop :=
  g (ma 0) = some (mOb ma tv a b c d th) ∧ (∀ i, 1 ≤ i → i ≤ 20 → g (ma i) = some (mcell t fm fj i)) ∧ inj ma 21
theorem mne {ma : Nat → Nat} (h : inj ma 21) (i j : Nat) (hi : i < 21) (hj : j < 21) (hn : i ≠ j) : ma i ≠ ma j := fun e => hn (h i j hi hj e)
theorem MC.put {t : Nat → ClassId} {g : hG} {ma : Nat → Nat} {tv a b c d th : Int32} {fm : Nat → Nat → Int32} {fj : Nat → Nat → Int64} (h : MC t g ma tv a b c d th fm fj) (tv' a' b' c' d' th' : Int32) : MC t (va_up g (ma 0) (some (mOb ma tv' a' b' c' d' th'))) ma tv' a' b' c' d' th' fm fj :=
  ⟨va_up_self _ _ _, fun i h1 h2 => up_at (h.2.1 i h1 h2) (mne h.2.2 i 0 (by omega) (by decide) (by omega)), h.2.2⟩
theorem MC.st {t : Nat → ClassId} {g : hG} {ma : Nat → Nat} {tv a b c d th : Int32} {fm fm' : Nat → Nat → Int32} {fj fj' : Nat → Nat → Int64} (h : MC t g ma tv a b c d th fm fj) (i : Nat) (hi : 1 ≤ i ∧ i ≤ 20) (h1 : ∀ j, j ≠ i → fm' j = fm j) (h2 : ∀ j, j ≠ i → fj' j = fj j) : MC t (va_up g (ma i) (some (mcell t fm' fj' i))) ma tv a b c d th fm' fj' := by
  refine ⟨up_at h.1 (mne h.2.2 0 i (by decide) (by omega) (by omega)), fun j q1 q2 => ?_, h.2.2⟩
  by_cases e : j = i
  · subst e; exact va_up_self _ _ _
  · rw [mcell_eq (h1 j e) (h2 j e)]
    exact up_at (h.2.1 j q1 q2) (mne h.2.2 j i (by omega) (by omega) e)
theorem MC.ai {t : Nat → ClassId} {g : hG} {ma : Nat → Nat} {tv a b c d th : Int32} {fm : Nat → Nat → Int32} {fj : Nat → Nat → Int64} (h : MC t g ma tv a b c d th fm fj) (i : Nat) (hi : 1 ≤ i ∧ i ≤ 20) (k : Nat) (v : Int32) : MC t (va_up g (ma i) (some (mcell t (va_up fm i (va_up (fm i) k v)) fj i))) ma tv a b c d th (va_up fm i (va_up (fm i) k v)) fj :=
  MC.st h i hi (fun j e => va_up_ne fm _ e) (fun j e => rfl)
theorem MC.aj {t : Nat → ClassId} {g : hG} {ma : Nat → Nat} {tv a b c d th : Int32} {fm : Nat → Nat → Int32} {fj : Nat → Nat → Int64} (h : MC t g ma tv a b c d th fm fj) (i : Nat) (hi : 1 ≤ i ∧ i ≤ 20) (k : Nat) (v : Int64) : MC t (va_up g (ma i) (some (mcell t fm (va_up fj i (va_up (fj i) k v)) i))) ma tv a b c d th fm (va_up fj i (va_up (fj i) k v)) :=
  MC.st h i hi (fun j e => rfl) (fun j e => va_up_ne fj _ e)
def dn1 (x : Int32) : Int32 := if x = 0 then 1 else x
def MRel (fm : Nat → Nat → Int32) (fj : Nat → Nat → Int64) (σ : SS) : Prop :=
  (∀ k, k < sNR σ → fm 1 k = (sRV σ k).1 ∧ fm 2 k = (sRV σ k).2.1 ∧ fm 3 k = (sRV σ k).2.2.1 ∧ fm 4 k = (sRV σ k).2.2.2.1 ∧ fm 5 k = dn1 (sRV σ k).2.2.2.2) ∧
  (∀ k, k < sNL σ → fm 7 (k + 1) = nI (sLV σ k).1 ∧ fm 8 (k + 1) = nI (sLV σ k).2.1 ∧ fm 9 (k + 1) = nI (sLV σ k).2.2.1 ∧ fm 10 (k + 1) = nI (sLV σ k).2.2.2.2.1 ∧ fm 11 (k + 1) = nI (sLV σ k).2.2.2.2.2 ∧ fj 12 (k + 1) = (sLV σ k).2.2.2.1) ∧
  (∀ k, k < sND σ → fm 13 (k + 1) = nI ((sDV σ k).1 + 1) ∧ fm 14 (k + 1) = nI (sDV σ k).2.1 ∧ fm 15 (k + 1) = nI (sDV σ k).2.2.1 ∧ fm 16 (k + 1) = nI (sDV σ k).2.2.2.1 ∧ fm 17 (k + 1) = (sDV σ k).2.2.2.2.1 ∧ fj 18 (k + 1) = (sDV σ k).2.2.2.2.2) ∧
  fj 6 = sCD σ ∧ fj 20 = (fun i => lN (sKR σ i)) ∧ ∀ k, sNL σ ≤ k → fm 11 (k + 1) = 0
def RMx (t : Nat → ClassId) (ma : Nat → Nat) (tv : Int32) (σ : SS) (g : hG) : Prop := ∃ fm fj, MC t g ma tv (nI (sNR σ)) (nI (sNL σ)) (nI (sND σ)) (nI (sNC σ)) (sTH σ) fm fj ∧ MRel fm fj σ
/-- the reference's cells -/
def mF (ma : Nat → Nat) : Nat → Prop := fun a => ∃ i, i < 21 ∧ a = ma i
theorem mF_i (ma : Nat → Nat) (i : Nat) (h : i < 21) : mF ma (ma i) := ⟨i, h, rfl⟩
theorem MC.keep {G : Nat → Prop} {t : Nat → ClassId} {g u : hG} {ma : Nat → Nat} {tv a b c d th : Int32} {fm : Nat → Nat → Int32} {fj : Nat → Nat → Int64} (h : MC t g ma tv a b c d th fm fj) (hk : Keep G g u) (hG : ∀ i, i < 21 → ¬ G (ma i)) : MC t u ma tv a b c d th fm fj := by
  have K : ∀ {i : Nat} {x : va_E}, i < 21 → g (ma i) = some x → u (ma i) = some x := fun {i x} hi hg => by
    rw [hk _ (hG i hi) (by rw [hg]; exact fun q => by cases q)]; exact hg
  exact ⟨K (by decide) h.1, fun i h1 h2 => K (by omega) (h.2.1 i h1 h2), h.2.2⟩
theorem wl_i {x y z : Int32} : wl x.toInt64 y.toInt64 z.toInt64 = wi x y z := by
  simp [wl, wi, Int64.le_iff_toInt_le, Int32.le_iff_toInt_le, Int32.toInt_toInt64]
end
section
def clB (f : Nat → Int64) (x : Int64) : Nat → Bool
  | 0 => false
  | n + 1 => clB f x n || decide (f n = x)
/-- the number of the last loan of an item that has not come back -/
def lof (L : Nat → LV) (x : Int32) : Nat → Nat
  | 0 => 0
  | n + 1 => if nI (L n).1 = x ∧ (L n).2.2.2.2.1 ≠ 2 then n + 1 else lof L x n
theorem lof_le (L : Nat → LV) (x : Int32) : ∀ n, lof L x n ≤ n
  | 0 => Nat.le_refl 0
  | n + 1 => by
    rw [lof]; split
    · exact Nat.le_refl _
    · exact Nat.le_succ_of_le (lof_le L x n)
theorem lof_y {L : Nat → LV} {x : Int32} {n : Nat} (h1 : nI (L n).1 = x) (h2 : (L n).2.2.2.2.1 ≠ 2) : lof L x (n + 1) = n + 1 := by rw [lof, if_pos ⟨h1, h2⟩]
theorem lof_n1 {L : Nat → LV} {x : Int32} {n : Nat} (h1 : ¬ nI (L n).1 = x) : lof L x (n + 1) = lof L x n := by rw [lof, if_neg (fun q => h1 q.1)]
theorem lof_n2 {L : Nat → LV} {x : Int32} {n : Nat} (h2 : (L n).2.2.2.2.1 = 2) : lof L x (n + 1) = lof L x n := by rw [lof, if_neg (fun q => q.2 h2)]
theorem nI_small {a b : Nat} (ha : a < 1000) (hb : b < 1000) : nI a = nI b ↔ a = b := nI_eq (by omega) (by omega)
theorem lentN_y {σ : SS} (hV : Inv σ) {k : Nat} (hk : k < sNL σ) (h : (sLV σ k).2.2.2.2.1 = 1) : lentN σ (nI (k + 1)) = some k := by
  have hn := hV.1.2.1
  rw [lentN, nI_k1 (by omega), if_pos (by rw [wi_num_of (by omega) hk]; simp [h])]
theorem lentN_n {σ : SS} (hV : Inv σ) {k : Nat} (hk : k < sNL σ) (h : ¬ (sLV σ k).2.2.2.2.1 = 1) : lentN σ (nI (k + 1)) = none := by
  have hn := hV.1.2.1
  rw [lentN, nI_k1 (by omega), if_neg (by simp [h])]
theorem lentN_w {σ : SS} {x : Int32} (h : wi x 1 (nI (sNL σ)) = false) : lentN σ x = none := by simp [lentN, h]
theorem i64s0 (x : Int64) : x - 0 = x := by simp
theorem late_end {C : Nat → Int64} {nc : Nat} {v : RV} {du x b : Int64} (hb : b = x - du - (cB C du x nc).toInt64) : (if x ≤ du ∨ b ≤ v.2.2.1.toInt64 then 0 else if v.2.1.toInt64 < b * v.1.toInt64 then v.2.1.toInt64 else b * v.1.toInt64) = rvCents v (opD C nc du x) ∨ ¬ 0 ≤ v.2.2.1 := by
  by_cases hg : 0 ≤ v.2.2.1
  · left
    by_cases h : x ≤ du
    · rw [if_pos (Or.inl h), opD, if_pos h, rvCents, if_pos]
      rw [Int64.le_iff_toInt_le, Int32.toInt_toInt64]
      rw [Int32.le_iff_toInt_le] at hg
      exact hg
    · rw [opD, if_neg h, ← hb, rvCents, mnJ]
      by_cases h2 : b ≤ v.2.2.1.toInt64
      · rw [if_pos (Or.inr h2), if_pos h2]
      · rw [if_neg (fun q => q.elim h h2), if_neg h2]
  · right; exact hg
theorem late_m {σ : SS} (hV : Inv σ) {j : Nat} (hj : j < sNL σ) {b d : Int64} (hb : b = d - (sLV σ j).2.2.2.1 - (cB (sCD σ) (sLV σ j).2.2.2.1 d (sNC σ)).toInt64) : lateJ σ j d = (if d ≤ (sLV σ j).2.2.2.1 ∨ b ≤ (sRV σ (sLV σ j).2.2.1).2.2.1.toInt64 then 0 else if (sRV σ (sLV σ j).2.2.1).2.1.toInt64 < b * (sRV σ (sLV σ j).2.2.1).1.toInt64 then (sRV σ (sLV σ j).2.2.1).2.1.toInt64 else b * (sRV σ (sLV σ j).2.2.1).1.toInt64) := by
  rcases late_end (v := sRV σ (sLV σ j).2.2.1) hb with h | h
  · exact h.symm
  · exact absurd (hV.2.1 _ (hV.2.2.1 j hj).2.2.1).2.2.1 h
theorem dn1_ne0 (x : Int32) : ¬ (dn1 x).toInt64 = 0 := by
  unfold dn1
  split
  · decide
  · rename_i h
    intro e
    refine h ?_
    have h1 : x.toInt64.toInt = x.toInt := Int32.toInt_toInt64 x
    rw [e] at h1
    have h2 : (0 : Int64).toInt = 0 := by decide
    have h3 : (0 : Int32).toInt = 0 := by decide
    rw [← Int32.toInt_inj]
    omega
theorem i64_zdiv (x : Int64) : 0 / x = 0 := by simp
theorem int_m {v : RV} {le dy y n : Int64} (h0 : 0 ≤ v.2.2.2.2) (hu : v.2.2.2.2 = 0 → v.2.2.2.1 = 0) (hn : n = if y < dy then 0 else (y - dy) / 30) : le * v.2.2.2.1.toInt64 * n / (dn1 v.2.2.2.2).toInt64 = dInt v le dy y := by
  unfold dInt
  by_cases h1 : y ≤ dy
  · rw [if_pos h1]
    have hn0 : n = 0 := by
      rw [hn]
      by_cases h2 : y < dy
      · rw [if_pos h2]
      · have e : y = dy := by
          rw [← Int64.toInt_inj]
          rw [Int64.le_iff_toInt_le] at h1
          rw [Int64.lt_iff_toInt_lt] at h2
          omega
        rw [if_neg h2, e]
        simp
    rw [hn0]; simp
  · rw [if_neg h1]
    have h2 : ¬ y < dy := fun q => h1 (Int64.le_of_lt q)
    rw [if_neg h2] at hn
    unfold rvInt dn1
    by_cases h3 : v.2.2.2.2 = 0
    · rw [if_pos h3, hu h3, h3]; simp
    · have h4 : ¬ v.2.2.2.2 ≤ 0 := fun q => h3 (Int32.le_antisymm q h0)
      rw [if_neg h3, if_neg h4, hn]
end
section
set_option maxRecDepth 100000 in
theorem c_M_in (l : Launch) (D : va_G) (t : Nat → ClassId) (A : Nat → Prop) (g : hG) (x y z : Int64) : Met l y_M_in (Cond.code y_M_in b_M_in 6 (some .boolean) :: TB) ({ frames := 0, cells := 0, slots := 0, locals := 0 } : Room) (va_Pc [.long x, .long y, .long z] (hI D vwCl (tyL t) EX A g)) (va_Qi (fun r u => r = bi (wl x y z) ∧ u = g) (fun u v => hw D vwCl A u v.heap) A) 0 0 A := by
  refine Met.ofH (cc := b_M_in) (maxL := 6) (ret := (some .boolean)) (lv := [(0, .long x), (2, .long y), (4, .long z)]) (by decide) (Nat.le_of_ble_eq_true rfl) rfl ?_
  intro p e s m below meth c ls X hP hS hl
  obtain ⟨hx, hb, hml, hr, hts, hown, hlocks, hK, hEs, hA, hnm⟩ := id X
  refine lv_lload_n hx hb d_M_in_0 rfl (lv_at hl 0 rfl) ?_
  refine lv_lload_n hx hb d_M_in_1 rfl (lv_at hl 1 rfl) ?_
  refine W.lcmp hx hb d_M_in_2 ?_
  refine lv_if_lt (tgt := 17) hx hb d_M_in_3 (by decide) (fun c_1 => ?_) (fun c_1 => ?_)
  · rw [lg_cmp_lt] at c_1
    refine lv_iconst (v := 0) hx hb d_M_in_17 (by decide) ?_
    exact h_zret hx hb hr hlocks (rfl) (Nat.le_of_ble_eq_true rfl) (Nat.le_of_ble_eq_true rfl) hP hS (⟨by rw [wl_f1 c_1]; rfl, rfl⟩) d_M_in_18
  · rw [lg_cmp_lt] at c_1
    refine lv_lload_n hx hb d_M_in_6 rfl (lv_at hl 0 rfl) ?_
    refine lv_lload hx hb d_M_in_7 (lv_at hl 2 rfl) ?_
    refine W.lcmp hx hb d_M_in_9 ?_
    refine lv_if_gt (tgt := 17) hx hb d_M_in_10 (by decide) (fun c_2 => ?_) (fun c_2 => ?_)
    · rw [lg_cmp_gt] at c_2
      refine lv_iconst (v := 0) hx hb d_M_in_17 (by decide) ?_
      exact h_zret hx hb hr hlocks (rfl) (Nat.le_of_ble_eq_true rfl) (Nat.le_of_ble_eq_true rfl) hP hS (⟨by rw [wl_f2 c_2]; rfl, rfl⟩) d_M_in_18
    · rw [lg_cmp_gt] at c_2
      refine lv_iconst (v := 1) hx hb d_M_in_13 (by decide) ?_
      refine lv_goto (tgt := 18) hx hb d_M_in_14 (by decide) ?_
      exact h_zret hx hb hr hlocks (rfl) (Nat.le_of_ble_eq_true rfl) (Nat.le_of_ble_eq_true rfl) hP hS (⟨by rw [wl_t (Int64.not_lt.mp c_1) (Int64.not_lt.mp c_2)]; rfl, rfl⟩) d_M_in_18
theorem k_M_81 {p : Program} {l : Launch} {e : Env} {R : Room} {s : State} {m : MethodId} {args : Array Value} {below : List Frame} {meth : Method} {c : Code} {H : Heap} {locs : List Loc} {cells slots : Nat} {Q : State → Prop} {cc : ByteArray} {pc : Nat} {ls : Array Slot} {rest : List Value} {D : va_G} {A : Nat → Prop} {t : Nat → ClassId} {g : hG} {nL : Nat} {ret0 : Option FieldType} {nm : String} (X : Cx p s m args meth c R_M cc nL ret0 TB D vwCl (tyL t) EX A nm) (hR : 0 + 1 ≤ R.frames ∧ 8 + (6 + 11) + 0 ≤ R.locals) (hf : cells + 0 ≤ R.cells ∧ slots + 0 ≤ R.slots) (hls : ls.size = nL) (hP : hw D vwCl A g H) (hS : va_S A s.heap H locs) {x y z : Int64}  (hW : (rest.map fun v => v.category).sum ≤ 8) (hdg : decode cc pc = .ok (.invokestatic 81, 3)) (kk : ∀ (r : Int32) (H1 : Heap) (locs1 : List Loc), r = bi (wl x y z) → hw D vwCl A (g) H1 → va_S A s.heap H1 locs1 → W p l e R s m args below meth c H1 locs1 (cells + 0) (slots + 0) Q (F0 m (pc + 3) ls (.int r :: rest))) : W p l e R s m args below meth c H locs cells slots Q (F0 m pc ls (.long z :: .long y :: .long x :: rest)) :=
  h_ci (runS X (c_M_in l D t A g x y z ) (tbm 542 (by decide +kernel)) (tbm 543 (by decide +kernel)) (tbm 23 (by decide +kernel)) (tbm 544 (by decide +kernel)) (n := 3) (by decide +kernel) hR hf hP hS hls rfl rfl hW hdg) hS (fun r u H1 locs1 hp hP1 hS1 => kk r H1 locs1 hp.1 (hp.2 ▸ hP1) hS1)

set_option maxRecDepth 100000 in
theorem c_M_isDay (l : Launch) (D : va_G) (t : Nat → ClassId) (A : Nat → Prop) (g : hG) (d : Int64) : Met l y_M_isDay (Cond.code y_M_isDay b_M_isDay 2 (some .boolean) :: TB) ({ frames := 1, cells := 0, slots := 0, locals := 25 } : Room) (va_Pc [.long d] (hI D vwCl (tyL t) EX A g)) (va_Qi (fun r u => r = bi (wd d) ∧ u = g) (fun u v => hw D vwCl A u v.heap) A) 0 0 A := by
  refine Met.ofH (cc := b_M_isDay) (maxL := 2) (ret := (some .boolean)) (lv := [(0, .long d)]) (by decide) (Nat.le_of_ble_eq_true rfl) rfl ?_
  intro p e s m below meth c ls X hP hS hl
  obtain ⟨hx, hb, hml, hr, hts, hown, hlocks, hK, hEs, hA, hnm⟩ := id X
  refine lv_lload_n hx hb d_M_isDay_0 rfl (lv_at hl 0 rfl) ?_
  refine lv_lconst (v := 0) hx hb d_M_isDay_1 (by decide) ?_
  refine lv_ldc2 (v := 1000000) hx hb hown (hts _ (tbm 552 (by decide +kernel))) d_M_isDay_2 ?_
  refine k_M_81 X ⟨Nat.le_of_ble_eq_true rfl, Nat.le_of_ble_eq_true rfl⟩ ⟨Nat.le_of_ble_eq_true rfl, Nat.le_of_ble_eq_true rfl⟩ hl.1 hP hS (by exact Nat.le_of_ble_eq_true rfl) d_M_isDay_5 (fun r_1 H locs er_1 hP hS => ?_)
  exact h_zret hx hb hr hlocks (by rw [er_1]; exact bi_nar _) (Nat.le_of_ble_eq_true rfl) (Nat.le_of_ble_eq_true rfl) hP hS (⟨er_1, rfl⟩) d_M_isDay_8
theorem k_M_100 {p : Program} {l : Launch} {e : Env} {R : Room} {s : State} {m : MethodId} {args : Array Value} {below : List Frame} {meth : Method} {c : Code} {H : Heap} {locs : List Loc} {cells slots : Nat} {Q : State → Prop} {cc : ByteArray} {pc : Nat} {ls : Array Slot} {rest : List Value} {D : va_G} {A : Nat → Prop} {t : Nat → ClassId} {g : hG} {nL : Nat} {ret0 : Option FieldType} {nm : String} (X : Cx p s m args meth c R_M cc nL ret0 TB D vwCl (tyL t) EX A nm) (hR : 1 + 1 ≤ R.frames ∧ 8 + (2 + 11) + 25 ≤ R.locals) (hf : cells + 0 ≤ R.cells ∧ slots + 0 ≤ R.slots) (hls : ls.size = nL) (hP : hw D vwCl A g H) (hS : va_S A s.heap H locs) {d : Int64}  (hW : (rest.map fun v => v.category).sum ≤ 8) (hdg : decode cc pc = .ok (.invokestatic 100, 3)) (kk : ∀ (r : Int32) (H1 : Heap) (locs1 : List Loc), r = bi (wd d) → hw D vwCl A (g) H1 → va_S A s.heap H1 locs1 → W p l e R s m args below meth c H1 locs1 (cells + 0) (slots + 0) Q (F0 m (pc + 3) ls (.int r :: rest))) : W p l e R s m args below meth c H locs cells slots Q (F0 m pc ls (.long d :: rest)) :=
  h_ci (runS X (c_M_isDay l D t A g d ) (tbm 558 (by decide +kernel)) (tbm 559 (by decide +kernel)) (tbm 23 (by decide +kernel)) (tbm 560 (by decide +kernel)) (n := 1) (by decide +kernel) hR hf hP hS hls rfl rfl hW hdg) hS (fun r u H1 locs1 hp hP1 hS1 => kk r H1 locs1 hp.1 (hp.2 ▸ hP1) hS1)

set_option maxHeartbeats 4000000 in
set_option maxRecDepth 100000 in
theorem c_M_thrown (l : Launch) (D : va_G) (t : Nat → ClassId) (A : Nat → Prop) (g : hG) (ma : Nat → Nat) (tv : Int32) (σ : SS) (hMx : RMx t ma tv σ g) (hV : Inv σ) : Met l y_M_thrown (Cond.code y_M_thrown b_M_thrown 1 (some .int) :: TB) ({ frames := 0, cells := 0, slots := 0, locals := 0 } : Room) (va_Pc [.ref (ma 0)] (hI D vwCl (tyL t) EX A g)) (va_Qi (fun r u => r = tv ∧ u = g) (fun u v => hw D vwCl A u v.heap) A) 0 0 A := by
  refine Met.ofH (cc := b_M_thrown) (maxL := 1) (ret := (some .int)) (lv := [(0, .ref (ma 0))]) (by decide) (Nat.le_of_ble_eq_true rfl) rfl ?_
  intro p e s m below meth c ls X hP hS hl
  obtain ⟨hx, hb, hml, hr, hts, hown, hlocks, hK, hEs, hA, hnm⟩ := id X
  obtain ⟨fm, fj, hM, hR1, hR2, hR3, hR6, hR20, hR11⟩ := id hMx
  have m0 := hM.1
  have hinj := hM.2.2
  have hn1 := hV.1.1
  have hn2 := hV.1.2.1
  have hn3 := hV.1.2.2.1
  have hn4 := hV.1.2.2.2
  refine lv_aload_n hx hb d_M_thrown_0 rfl (lv_at hl 0 rfl) ?_
  refine g_M_76 X hb hP m0 rfl d_M_thrown_1 ?_
  exact h_iret hx hb hr hlocks (Nat.le_of_ble_eq_true rfl) (Nat.le_of_ble_eq_true rfl) hP hS (⟨rfl, rfl⟩) d_M_thrown_4
theorem k_W_29 {p : Program} {l : Launch} {e : Env} {R : Room} {s : State} {m : MethodId} {args : Array Value} {below : List Frame} {meth : Method} {c : Code} {H : Heap} {locs : List Loc} {cells slots : Nat} {Q : State → Prop} {cc : ByteArray} {pc : Nat} {ls : Array Slot} {rest : List Value} {D : va_G} {A : Nat → Prop} {t : Nat → ClassId} {g : hG} {nL : Nat} {ret0 : Option FieldType} {nm : String} (X : Cx p s m args meth c R_W cc nL ret0 TB D vwCl (tyL t) EX A nm) (hR : 0 + 1 ≤ R.frames ∧ 8 + (1 + 11) + 0 ≤ R.locals) (hf : cells + 0 ≤ R.cells ∧ slots + 0 ≤ R.slots) (hls : ls.size = nL) (hP : hw D vwCl A g H) (hS : va_S A s.heap H locs) {ma : Nat → Nat} {tv : Int32} {σ : SS}  {fs9 : List Value} (he9 : g (ma 0) = some (.inr (6, fs9))) (hMx : RMx t ma tv σ g) (hV : Inv σ)  (hW : (rest.map fun v => v.category).sum ≤ 8) (hdg : decode cc pc = .ok (.invokevirtual 29, 3)) (kk : ∀ (r : Int32) (H1 : Heap) (locs1 : List Loc), r = tv → hw D vwCl A (g) H1 → va_S A s.heap H1 locs1 → W p l e R s m args below meth c H1 locs1 (cells + 0) (slots + 0) Q (F0 m (pc + 3) ls (.int r :: rest))) : W p l e R s m args below meth c H locs cells slots Q (F0 m pc ls (.ref (ma 0) :: rest)) :=
  h_ci (runV (C := R_M) (T := F_M) (N := 26) X (c_M_thrown l D t A g ma tv σ hMx hV) (tbm 533 (by decide +kernel)) (tbm 534 (by decide +kernel)) (tbm 535 (by decide +kernel)) (tbm 23 (by decide +kernel)) (tbm 536 (by decide +kernel)) rfl (n := 0) (by decide +kernel) hR hf hP he9 hS hls rfl rfl hW hdg) hS (fun r u H1 locs1 hp hP1 hS1 => kk r H1 locs1 hp.1 (hp.2 ▸ hP1) hS1)

set_option maxHeartbeats 4000000 in
set_option maxRecDepth 100000 in
theorem lp_M_isClosed {p : Program} {l : Launch} {e : Env} {s : State} {m : MethodId} {below : List Frame} {meth : Method} {c : Code} {D : va_G} {t : Nat → ClassId} {A : Nat → Prop} (g : hG) (ma : Nat → Nat) (tv : Int32) (σ : SS) (fm : Nat → Nat → Int32) (fj : Nat → Nat → Int64) (x : Int64) (hM : MC t g ma tv (nI (sNR σ)) (nI (sNL σ)) (nI (sND σ)) (nI (sNC σ)) (sTH σ) fm fj) (hR : MRel fm fj σ) (hV : Inv σ)  (X : Cx p s m ([.ref (ma 0), .long x] : List Value).toArray meth c R_M b_M_isClosed 5 (some .boolean) TB D vwCl (tyL t) EX A "isClosed") : ∀ (k : Nat) (i : Nat) (b : Int32) (H : Heap) (locs : List Loc) (ls : Array Slot) (_ : i ≤ sNC σ) (_ : sNC σ + 1 ≤ i + k) (_ : b = bi (clB (sCD σ) x i)) (_ : hw D vwCl A g H) (_ : va_S A s.heap H locs) (_ : lv_has ls 5 [(4, .int (nI i)), (3, .int b), (0, .ref (ma 0)), (1, .long x)]), W p l e ({ frames := 0, cells := 0, slots := 0, locals := 0 } : Room) s m ([.ref (ma 0), .long x] : List Value).toArray below meth c H locs 0 0 (MQ below (va_Qi (fun r u => r = bi (clB (sCD σ) x (sNC σ)) ∧ u = g) (fun u v => hw D vwCl A u v.heap) A) ([.ref (ma 0), .long x] : List Value).toArray s 0 0 A) (F0 m 5 ls []) := by
  obtain ⟨hx, hb, hml, hr, hts, hown, hlocks, hK, hEs, hA, hnm⟩ := id X
  intro k
  induction k with
  | zero => exact fun i b H locs ls h1 h2 => absurd h2 (by omega)
  | succ k ih =>
    intro i b H locs ls hi hk hbt hP hS hl
    obtain ⟨hR1, hR2, hR3, hR6, hR20, hR11⟩ := id hR
    have m0 := hM.1
    have hinj := hM.2.2
    have m6 : g (ma 6) = some (arJ t 100 (fj 6)) := hM.2.1 6 (by decide) (by decide)
    have hn1 := hV.1.1
    have hn2 := hV.1.2.1
    have hn3 := hV.1.2.2.1
    have hn4 := hV.1.2.2.2
    refine lv_iload hx hb d_M_isClosed_5 (lv_at hl 0 rfl) ?_
    refine lv_aload_n hx hb d_M_isClosed_7 rfl (lv_at hl 2 rfl) ?_
    refine g_M_97 X hb hP m0 rfl d_M_isClosed_8 ?_
    refine lv_icmp_ge (tgt := 42) hx hb d_M_isClosed_11 (by decide) (fun c_1 => ?_) (fun c_1 => ?_)
    · refine lv_iload_n hx hb d_M_isClosed_42 rfl (lv_at hl 1 rfl) ?_
      exact h_zret hx hb hr hlocks (by rw [hbt]; exact bi_nar _) (Nat.le_of_ble_eq_true rfl) (Nat.le_of_ble_eq_true rfl) hP hS (⟨by rw [hbt, show i = sNC σ from Nat.le_antisymm hi ((nI_leI (by omega) (by omega)).mp c_1)], rfl⟩) d_M_isClosed_43
    · have hlt : i < sNC σ := Nat.lt_of_not_le (fun z => c_1 (nI_le z (by omega)))
      refine lv_iload_n hx hb d_M_isClosed_14 rfl (lv_at hl 1 rfl) ?_
      refine lv_if_ne (tgt := 30) hx hb d_M_isClosed_15 (by decide) (fun c_2 => ?_) (fun c_2 => ?_)
      · refine lv_iconst (v := 1) hx hb d_M_isClosed_30 (by decide) ?_
        refine lv_goto (tgt := 35) hx hb d_M_isClosed_31 (by decide) ?_
        refine lv_istore_n (lv' := [(3, .int 1), (4, .int (nI i)), (0, .ref (ma 0)), (1, .long x)]) hx hb d_M_isClosed_35 rfl hl (by decide) rfl (fun ls hl => ?_)
        obtain ⟨x_3, ex_3⟩ : ∃ z : Int32, z = (nI i) + 1 := ⟨_, rfl⟩
        refine lv_iinc (v := x_3) (lv' := [(4, .int x_3), (3, .int 1), (0, .ref (ma 0)), (1, .long x)]) hx hb d_M_isClosed_36 hl (k := 1) rfl (by rw [ex_3]; rfl) (by decide) rfl (fun ls hl => ?_)
        refine lv_goto (tgt := 5) hx hb d_M_isClosed_39 (by decide) ?_
        obtain rfl : x_3 = nI (i + 1) := by rw [ex_3]; exact nI_1 i
        exact ih (i + 1) 1 H locs ls (by omega) (by omega) (by rw [clB, show clB (sCD σ) x i = true from bi_n0.mp (hbt ▸ c_2)]; rfl) hP hS (lv_sub hl [0, 1, 2, 3] rfl)
      · refine lv_aload_n hx hb d_M_isClosed_18 rfl (lv_at hl 2 rfl) ?_
        refine g_M_25 X hb hP m0 rfl d_M_isClosed_19 ?_
        refine lv_iload hx hb d_M_isClosed_22 (lv_at hl 0 rfl) ?_
        refine n_lald X hb hP m6 ⟨by omega, by decide⟩ d_M_isClosed_24 ?_
        refine lv_lload_n hx hb d_M_isClosed_25 rfl (lv_at hl 3 rfl) ?_
        refine W.lcmp hx hb d_M_isClosed_26 ?_
        refine lv_if_ne (tgt := 34) hx hb d_M_isClosed_27 (by decide) (fun c_4 => ?_) (fun c_4 => ?_)
        · rw [lg_cmp_eq] at c_4
          refine lv_iconst (v := 0) hx hb d_M_isClosed_34 (by decide) ?_
          refine lv_istore_n (lv' := [(3, .int 0), (4, .int (nI i)), (0, .ref (ma 0)), (1, .long x)]) hx hb d_M_isClosed_35 rfl hl (by decide) rfl (fun ls hl => ?_)
          obtain ⟨x_5, ex_5⟩ : ∃ z : Int32, z = (nI i) + 1 := ⟨_, rfl⟩
          refine lv_iinc (v := x_5) (lv' := [(4, .int x_5), (3, .int 0), (0, .ref (ma 0)), (1, .long x)]) hx hb d_M_isClosed_36 hl (k := 1) rfl (by rw [ex_5]; rfl) (by decide) rfl (fun ls hl => ?_)
          refine lv_goto (tgt := 5) hx hb d_M_isClosed_39 (by decide) ?_
          obtain rfl : x_5 = nI (i + 1) := by rw [ex_5]; exact nI_1 i
          exact ih (i + 1) 0 H locs ls (by omega) (by omega) (by rw [clB, show clB (sCD σ) x i = false from bi_0.mp (hbt ▸ c_2), show decide (sCD σ i = x) = false from decide_eq_false (hR6 ▸ c_4)]; rfl) hP hS (lv_sub hl [0, 1, 2, 3] rfl)
        · rw [lg_cmp_eq] at c_4
          refine lv_iconst (v := 1) hx hb d_M_isClosed_30 (by decide) ?_
          refine lv_goto (tgt := 35) hx hb d_M_isClosed_31 (by decide) ?_
          refine lv_istore_n (lv' := [(3, .int 1), (4, .int (nI i)), (0, .ref (ma 0)), (1, .long x)]) hx hb d_M_isClosed_35 rfl hl (by decide) rfl (fun ls hl => ?_)
          obtain ⟨x_6, ex_6⟩ : ∃ z : Int32, z = (nI i) + 1 := ⟨_, rfl⟩
          refine lv_iinc (v := x_6) (lv' := [(4, .int x_6), (3, .int 1), (0, .ref (ma 0)), (1, .long x)]) hx hb d_M_isClosed_36 hl (k := 1) rfl (by rw [ex_6]; rfl) (by decide) rfl (fun ls hl => ?_)
          refine lv_goto (tgt := 5) hx hb d_M_isClosed_39 (by decide) ?_
          obtain rfl : x_6 = nI (i + 1) := by rw [ex_6]; exact nI_1 i
          exact ih (i + 1) 1 H locs ls (by omega) (by omega) (by rw [clB, show decide (sCD σ i = x) = true from decide_eq_true (hR6 ▸ c_4), Bool.or_true]; rfl) hP hS (lv_sub hl [0, 1, 2, 3] rfl)

set_option maxHeartbeats 4000000 in
set_option maxRecDepth 100000 in
theorem c_M_isClosed (l : Launch) (D : va_G) (t : Nat → ClassId) (A : Nat → Prop) (g : hG) (ma : Nat → Nat) (tv : Int32) (σ : SS) (x : Int64) (hMx : RMx t ma tv σ g) (hV : Inv σ) : Met l y_M_isClosed (Cond.code y_M_isClosed b_M_isClosed 5 (some .boolean) :: TB) ({ frames := 0, cells := 0, slots := 0, locals := 0 } : Room) (va_Pc [.ref (ma 0), .long x] (hI D vwCl (tyL t) EX A g)) (va_Qi (fun r u => r = bi (clB (sCD σ) x (sNC σ)) ∧ u = g) (fun u v => hw D vwCl A u v.heap) A) 0 0 A := by
  refine Met.ofH (cc := b_M_isClosed) (maxL := 5) (ret := (some .boolean)) (lv := [(0, .ref (ma 0)), (1, .long x)]) (by decide) (Nat.le_of_ble_eq_true rfl) rfl ?_
  intro p e s m below meth c ls X hP hS hl
  obtain ⟨hx, hb, hml, hr, hts, hown, hlocks, hK, hEs, hA, hnm⟩ := id X
  obtain ⟨fm, fj, hM, hR1, hR2, hR3, hR6, hR20, hR11⟩ := id hMx
  have m0 := hM.1
  have hinj := hM.2.2
  have m6 : g (ma 6) = some (arJ t 100 (fj 6)) := hM.2.1 6 (by decide) (by decide)
  have hn1 := hV.1.1
  have hn2 := hV.1.2.1
  have hn3 := hV.1.2.2.1
  have hn4 := hV.1.2.2.2
  refine lv_iconst (v := 0) hx hb d_M_isClosed_0 (by decide) ?_
  refine lv_istore_n (lv' := [(3, .int 0), (0, .ref (ma 0)), (1, .long x)]) hx hb d_M_isClosed_1 rfl hl (by decide) rfl (fun ls hl => ?_)
  refine lv_iconst (v := 0) hx hb d_M_isClosed_2 (by decide) ?_
  refine lv_istore (lv' := [(4, .int 0), (3, .int 0), (0, .ref (ma 0)), (1, .long x)]) hx hb d_M_isClosed_3 hl (by decide) rfl (fun ls hl => ?_)
  exact lp_M_isClosed g ma tv σ fm fj x hM ⟨hR1, hR2, hR3, hR6, hR20, hR11⟩ hV X (sNC σ + 1) 0 0 _ _ ls (Nat.zero_le _) (by omega) rfl hP hS (lv_sub hl [0, 1, 2, 3] rfl)
theorem k_M_104 {p : Program} {l : Launch} {e : Env} {R : Room} {s : State} {m : MethodId} {args : Array Value} {below : List Frame} {meth : Method} {c : Code} {H : Heap} {locs : List Loc} {cells slots : Nat} {Q : State → Prop} {cc : ByteArray} {pc : Nat} {ls : Array Slot} {rest : List Value} {D : va_G} {A : Nat → Prop} {t : Nat → ClassId} {g : hG} {nL : Nat} {ret0 : Option FieldType} {nm : String} (X : Cx p s m args meth c R_M cc nL ret0 TB D vwCl (tyL t) EX A nm) (hR : 0 + 1 ≤ R.frames ∧ 8 + (5 + 11) + 0 ≤ R.locals) (hf : cells + 0 ≤ R.cells ∧ slots + 0 ≤ R.slots) (hls : ls.size = nL) (hP : hw D vwCl A g H) (hS : va_S A s.heap H locs) {ma : Nat → Nat} {tv : Int32} {σ : SS} {x : Int64} {fs9 : List Value} (he9 : g (ma 0) = some (.inr (6, fs9))) (hMx : RMx t ma tv σ g) (hV : Inv σ)  (hW : (rest.map fun v => v.category).sum ≤ 8) (hdg : decode cc pc = .ok (.invokevirtual 104, 3)) (kk : ∀ (r : Int32) (H1 : Heap) (locs1 : List Loc), r = bi (clB (sCD σ) x (sNC σ)) → hw D vwCl A (g) H1 → va_S A s.heap H1 locs1 → W p l e R s m args below meth c H1 locs1 (cells + 0) (slots + 0) Q (F0 m (pc + 3) ls (.int r :: rest))) : W p l e R s m args below meth c H locs cells slots Q (F0 m pc ls (.long x :: .ref (ma 0) :: rest)) :=
  h_ci (runV (C := R_M) (T := F_M) (N := 26) X (c_M_isClosed l D t A g ma tv σ x hMx hV) (tbm 561 (by decide +kernel)) (tbm 563 (by decide +kernel)) (tbm 9 (by decide +kernel)) (tbm 23 (by decide +kernel)) (tbm 564 (by decide +kernel)) rfl (n := 1) (by decide +kernel) hR hf hP he9 hS hls rfl rfl hW hdg) hS (fun r u H1 locs1 hp hP1 hS1 => kk r H1 locs1 hp.1 (hp.2 ▸ hP1) hS1)

set_option maxHeartbeats 4000000 in
set_option maxRecDepth 100000 in
theorem lp_M_loanOfItem {p : Program} {l : Launch} {e : Env} {s : State} {m : MethodId} {below : List Frame} {meth : Method} {c : Code} {D : va_G} {t : Nat → ClassId} {A : Nat → Prop} (g : hG) (ma : Nat → Nat) (tv : Int32) (σ : SS) (fm : Nat → Nat → Int32) (fj : Nat → Nat → Int64) (x : Int32) (hM : MC t g ma tv (nI (sNR σ)) (nI (sNL σ)) (nI (sND σ)) (nI (sNC σ)) (sTH σ) fm fj) (hR : MRel fm fj σ) (hV : Inv σ)  (X : Cx p s m ([.ref (ma 0), .int x] : List Value).toArray meth c R_M b_M_loanOfItem 4 (some .int) TB D vwCl (tyL t) EX A "loanOfItem") : ∀ (k : Nat) (i b : Nat) (H : Heap) (locs : List Loc) (ls : Array Slot) (_ : i ≤ sNL σ) (_ : sNL σ + 1 ≤ i + k) (_ : b = lof (sLV σ) x i) (_ : hw D vwCl A g H) (_ : va_S A s.heap H locs) (_ : lv_has ls 4 [(3, .int (nI (i + 1))), (2, .int (nI b)), (0, .ref (ma 0)), (1, .int x)]), W p l e ({ frames := 0, cells := 0, slots := 0, locals := 0 } : Room) s m ([.ref (ma 0), .int x] : List Value).toArray below meth c H locs 0 0 (MQ below (va_Qi (fun r u => r = nI (lof (sLV σ) x (sNL σ)) ∧ u = g) (fun u v => hw D vwCl A u v.heap) A) ([.ref (ma 0), .int x] : List Value).toArray s 0 0 A) (F0 m 4 ls []) := by
  obtain ⟨hx, hb, hml, hr, hts, hown, hlocks, hK, hEs, hA, hnm⟩ := id X
  intro k
  induction k with
  | zero => exact fun i b H locs ls h1 h2 => absurd h2 (by omega)
  | succ k ih =>
    intro i b H locs ls hi hk hbt hP hS hl
    obtain ⟨hR1, hR2, hR3, hR6, hR20, hR11⟩ := id hR
    have m0 := hM.1
    have hinj := hM.2.2
    have m7 : g (ma 7) = some (arI t 121 (fm 7)) := hM.2.1 7 (by decide) (by decide)
    have m10 : g (ma 10) = some (arI t 121 (fm 10)) := hM.2.1 10 (by decide) (by decide)
    have hn1 := hV.1.1
    have hn2 := hV.1.2.1
    have hn3 := hV.1.2.2.1
    have hn4 := hV.1.2.2.2
    refine lv_iload_n hx hb d_M_loanOfItem_4 rfl (lv_at hl 0 rfl) ?_
    refine lv_aload_n hx hb d_M_loanOfItem_5 rfl (lv_at hl 2 rfl) ?_
    refine g_M_107 X hb hP m0 rfl d_M_loanOfItem_6 ?_
    refine lv_icmp_gt (tgt := 44) hx hb d_M_loanOfItem_9 (by decide) (fun c_1 => ?_) (fun c_1 => ?_)
    · refine lv_iload_n hx hb d_M_loanOfItem_44 rfl (lv_at hl 1 rfl) ?_
      exact h_iret hx hb hr hlocks (Nat.le_of_ble_eq_true rfl) (Nat.le_of_ble_eq_true rfl) hP hS (⟨by rw [hbt, show i = sNL σ from Nat.le_antisymm hi (Nat.le_of_lt_succ ((nI_ltI (by omega) (by omega)).mp c_1))], rfl⟩) d_M_loanOfItem_45
    · have hlt : i < sNL σ := Nat.lt_of_not_le (fun z => c_1 (nI_lt (by omega) (by omega)))
      refine lv_aload_n hx hb d_M_loanOfItem_12 rfl (lv_at hl 2 rfl) ?_
      refine g_M_29 X hb hP m0 rfl d_M_loanOfItem_13 ?_
      refine lv_iload_n hx hb d_M_loanOfItem_16 rfl (lv_at hl 0 rfl) ?_
      refine n_iald X hb hP m7 ⟨by omega, by decide⟩ d_M_loanOfItem_17 ?_
      refine lv_iload_n hx hb d_M_loanOfItem_18 rfl (lv_at hl 3 rfl) ?_
      refine lv_icmp_ne (tgt := 36) hx hb d_M_loanOfItem_19 (by decide) (fun c_2 => ?_) (fun c_2 => ?_)
      · refine lv_iload_n hx hb d_M_loanOfItem_36 rfl (lv_at hl 1 rfl) ?_
        refine lv_istore_n (lv' := [(2, .int (nI b)), (3, .int (nI (i + 1))), (0, .ref (ma 0)), (1, .int x)]) hx hb d_M_loanOfItem_37 rfl hl (by decide) rfl (fun ls hl => ?_)
        obtain ⟨x_3, ex_3⟩ : ∃ z : Int32, z = (nI (i + 1)) + 1 := ⟨_, rfl⟩
        refine lv_iinc (v := x_3) (lv' := [(3, .int x_3), (2, .int (nI b)), (0, .ref (ma 0)), (1, .int x)]) hx hb d_M_loanOfItem_38 hl (k := 1) rfl (by rw [ex_3]; rfl) (by decide) rfl (fun ls hl => ?_)
        refine lv_goto (tgt := 4) hx hb d_M_loanOfItem_41 (by decide) ?_
        obtain rfl : x_3 = nI (i + 1 + 1) := by rw [ex_3]; exact nI_1 _
        exact ih (i + 1) b H locs ls (by omega) (by omega) (by rw [lof_n1 (fun z => c_2 (by rw [(hR2 i hlt).1]; exact z))]; exact hbt) hP hS (lv_sub hl [0, 1, 2, 3] rfl)
      · refine lv_aload_n hx hb d_M_loanOfItem_22 rfl (lv_at hl 2 rfl) ?_
        refine g_M_38 X hb hP m0 rfl d_M_loanOfItem_23 ?_
        refine lv_iload_n hx hb d_M_loanOfItem_26 rfl (lv_at hl 0 rfl) ?_
        refine n_iald X hb hP m10 ⟨by omega, by decide⟩ d_M_loanOfItem_27 ?_
        refine lv_iconst (v := 2) hx hb d_M_loanOfItem_28 (by decide) ?_
        refine lv_icmp_eq (tgt := 36) hx hb d_M_loanOfItem_29 (by decide) (fun c_4 => ?_) (fun c_4 => ?_)
        · refine lv_iload_n hx hb d_M_loanOfItem_36 rfl (lv_at hl 1 rfl) ?_
          refine lv_istore_n (lv' := [(2, .int (nI b)), (3, .int (nI (i + 1))), (0, .ref (ma 0)), (1, .int x)]) hx hb d_M_loanOfItem_37 rfl hl (by decide) rfl (fun ls hl => ?_)
          obtain ⟨x_5, ex_5⟩ : ∃ z : Int32, z = (nI (i + 1)) + 1 := ⟨_, rfl⟩
          refine lv_iinc (v := x_5) (lv' := [(3, .int x_5), (2, .int (nI b)), (0, .ref (ma 0)), (1, .int x)]) hx hb d_M_loanOfItem_38 hl (k := 1) rfl (by rw [ex_5]; rfl) (by decide) rfl (fun ls hl => ?_)
          refine lv_goto (tgt := 4) hx hb d_M_loanOfItem_41 (by decide) ?_
          obtain rfl : x_5 = nI (i + 1 + 1) := by rw [ex_5]; exact nI_1 _
          exact ih (i + 1) b H locs ls (by omega) (by omega) (by rw [lof_n2 (by have h9 := c_4; rw [(hR2 i hlt).2.2.2.1] at h9; exact (nI_small (by have := (hV.2.2.1 i hlt).2.2.2.1; omega) (b := 2) (by decide)).mp h9)]; exact hbt) hP hS (lv_sub hl [0, 1, 2, 3] rfl)
        · refine lv_iload_n hx hb d_M_loanOfItem_32 rfl (lv_at hl 0 rfl) ?_
          refine lv_goto (tgt := 37) hx hb d_M_loanOfItem_33 (by decide) ?_
          refine lv_istore_n (lv' := [(2, .int (nI (i + 1))), (3, .int (nI (i + 1))), (0, .ref (ma 0)), (1, .int x)]) hx hb d_M_loanOfItem_37 rfl hl (by decide) rfl (fun ls hl => ?_)
          obtain ⟨x_6, ex_6⟩ : ∃ z : Int32, z = (nI (i + 1)) + 1 := ⟨_, rfl⟩
          refine lv_iinc (v := x_6) (lv' := [(3, .int x_6), (2, .int (nI (i + 1))), (0, .ref (ma 0)), (1, .int x)]) hx hb d_M_loanOfItem_38 hl (k := 1) rfl (by rw [ex_6]; rfl) (by decide) rfl (fun ls hl => ?_)
          refine lv_goto (tgt := 4) hx hb d_M_loanOfItem_41 (by decide) ?_
          obtain rfl : x_6 = nI (i + 1 + 1) := by rw [ex_6]; exact nI_1 _
          exact ih (i + 1) (i + 1) H locs ls (by omega) (by omega) ((lof_y (by rw [← (hR2 i hlt).1]; exact c_2) (fun z => c_4 (by rw [(hR2 i hlt).2.2.2.1, z]; rfl))).symm) hP hS (lv_sub hl [0, 1, 2, 3] rfl)

set_option maxHeartbeats 4000000 in
set_option maxRecDepth 100000 in
theorem c_M_loanOfItem (l : Launch) (D : va_G) (t : Nat → ClassId) (A : Nat → Prop) (g : hG) (ma : Nat → Nat) (tv : Int32) (σ : SS) (x : Int32) (hMx : RMx t ma tv σ g) (hV : Inv σ) : Met l y_M_loanOfItem (Cond.code y_M_loanOfItem b_M_loanOfItem 4 (some .int) :: TB) ({ frames := 0, cells := 0, slots := 0, locals := 0 } : Room) (va_Pc [.ref (ma 0), .int x] (hI D vwCl (tyL t) EX A g)) (va_Qi (fun r u => r = nI (lof (sLV σ) x (sNL σ)) ∧ u = g) (fun u v => hw D vwCl A u v.heap) A) 0 0 A := by
  refine Met.ofH (cc := b_M_loanOfItem) (maxL := 4) (ret := (some .int)) (lv := [(0, .ref (ma 0)), (1, .int x)]) (by decide) (Nat.le_of_ble_eq_true rfl) rfl ?_
  intro p e s m below meth c ls X hP hS hl
  obtain ⟨hx, hb, hml, hr, hts, hown, hlocks, hK, hEs, hA, hnm⟩ := id X
  obtain ⟨fm, fj, hM, hR1, hR2, hR3, hR6, hR20, hR11⟩ := id hMx
  have m0 := hM.1
  have hinj := hM.2.2
  have m7 : g (ma 7) = some (arI t 121 (fm 7)) := hM.2.1 7 (by decide) (by decide)
  have m10 : g (ma 10) = some (arI t 121 (fm 10)) := hM.2.1 10 (by decide) (by decide)
  have hn1 := hV.1.1
  have hn2 := hV.1.2.1
  have hn3 := hV.1.2.2.1
  have hn4 := hV.1.2.2.2
  refine lv_iconst (v := 0) hx hb d_M_loanOfItem_0 (by decide) ?_
  refine lv_istore_n (lv' := [(2, .int 0), (0, .ref (ma 0)), (1, .int x)]) hx hb d_M_loanOfItem_1 rfl hl (by decide) rfl (fun ls hl => ?_)
  refine lv_iconst (v := 1) hx hb d_M_loanOfItem_2 (by decide) ?_
  refine lv_istore_n (lv' := [(3, .int 1), (2, .int 0), (0, .ref (ma 0)), (1, .int x)]) hx hb d_M_loanOfItem_3 rfl hl (by decide) rfl (fun ls hl => ?_)
  exact lp_M_loanOfItem g ma tv σ fm fj x hM ⟨hR1, hR2, hR3, hR6, hR20, hR11⟩ hV X (sNL σ + 1) 0 0 _ _ ls (Nat.zero_le _) (by omega) rfl hP hS (lv_sub hl [0, 1, 2, 3] rfl)
theorem k_M_114 {p : Program} {l : Launch} {e : Env} {R : Room} {s : State} {m : MethodId} {args : Array Value} {below : List Frame} {meth : Method} {c : Code} {H : Heap} {locs : List Loc} {cells slots : Nat} {Q : State → Prop} {cc : ByteArray} {pc : Nat} {ls : Array Slot} {rest : List Value} {D : va_G} {A : Nat → Prop} {t : Nat → ClassId} {g : hG} {nL : Nat} {ret0 : Option FieldType} {nm : String} (X : Cx p s m args meth c R_M cc nL ret0 TB D vwCl (tyL t) EX A nm) (hR : 0 + 1 ≤ R.frames ∧ 8 + (4 + 11) + 0 ≤ R.locals) (hf : cells + 0 ≤ R.cells ∧ slots + 0 ≤ R.slots) (hls : ls.size = nL) (hP : hw D vwCl A g H) (hS : va_S A s.heap H locs) {ma : Nat → Nat} {tv : Int32} {σ : SS} {x : Int32} {fs9 : List Value} (he9 : g (ma 0) = some (.inr (6, fs9))) (hMx : RMx t ma tv σ g) (hV : Inv σ)  (hW : (rest.map fun v => v.category).sum ≤ 8) (hdg : decode cc pc = .ok (.invokevirtual 114, 3)) (kk : ∀ (r : Int32) (H1 : Heap) (locs1 : List Loc), r = nI (lof (sLV σ) x (sNL σ)) → hw D vwCl A (g) H1 → va_S A s.heap H1 locs1 → W p l e R s m args below meth c H1 locs1 (cells + 0) (slots + 0) Q (F0 m (pc + 3) ls (.int r :: rest))) : W p l e R s m args below meth c H locs cells slots Q (F0 m pc ls (.int x :: .ref (ma 0) :: rest)) :=
  h_ci (runV (C := R_M) (T := F_M) (N := 26) X (c_M_loanOfItem l D t A g ma tv σ x hMx hV) (tbm 571 (by decide +kernel)) (tbm 573 (by decide +kernel)) (tbm 10 (by decide +kernel)) (tbm 23 (by decide +kernel)) (tbm 574 (by decide +kernel)) rfl (n := 1) (by decide +kernel) hR hf hP he9 hS hls rfl rfl hW hdg) hS (fun r u H1 locs1 hp hP1 hS1 => kk r H1 locs1 hp.1 (hp.2 ▸ hP1) hS1)

set_option maxHeartbeats 4000000 in
set_option maxRecDepth 100000 in
theorem c_M_isLent (l : Launch) (D : va_G) (t : Nat → ClassId) (A : Nat → Prop) (g : hG) (ma : Nat → Nat) (tv : Int32) (σ : SS) (x : Int32) (hMx : RMx t ma tv σ g) (hV : Inv σ) : Met l y_M_isLent (Cond.code y_M_isLent b_M_isLent 2 (some .boolean) :: TB) ({ frames := 1, cells := 0, slots := 0, locals := 25 } : Room) (va_Pc [.ref (ma 0), .int x] (hI D vwCl (tyL t) EX A g)) (va_Qi (fun r u => r = bi (lentN σ x).isSome ∧ u = g) (fun u v => hw D vwCl A u v.heap) A) 0 0 A := by
  refine Met.ofH (cc := b_M_isLent) (maxL := 2) (ret := (some .boolean)) (lv := [(0, .ref (ma 0)), (1, .int x)]) (by decide) (Nat.le_of_ble_eq_true rfl) rfl ?_
  intro p e s m below meth c ls X hP hS hl
  obtain ⟨hx, hb, hml, hr, hts, hown, hlocks, hK, hEs, hA, hnm⟩ := id X
  obtain ⟨fm, fj, hM, hR1, hR2, hR3, hR6, hR20, hR11⟩ := id hMx
  have m0 := hM.1
  have hinj := hM.2.2
  have m10 : g (ma 10) = some (arI t 121 (fm 10)) := hM.2.1 10 (by decide) (by decide)
  have hn1 := hV.1.1
  have hn2 := hV.1.2.1
  have hn3 := hV.1.2.2.1
  have hn4 := hV.1.2.2.2
  refine lv_iload_n hx hb d_M_isLent_0 rfl (lv_at hl 1 rfl) ?_
  refine lv_i2l hx hb d_M_isLent_1 rfl ?_
  refine lv_lconst (v := 1) hx hb d_M_isLent_2 (by decide) ?_
  refine lv_aload_n hx hb d_M_isLent_3 rfl (lv_at hl 0 rfl) ?_
  refine g_M_107 X hb hP m0 rfl d_M_isLent_4 ?_
  refine lv_i2l hx hb d_M_isLent_7 rfl ?_
  refine k_M_81 X ⟨Nat.le_of_ble_eq_true rfl, Nat.le_of_ble_eq_true rfl⟩ ⟨Nat.le_of_ble_eq_true rfl, Nat.le_of_ble_eq_true rfl⟩ hl.1 hP hS (by exact Nat.le_of_ble_eq_true rfl) d_M_isLent_8 (fun r_1 H locs er_1 hP hS => ?_)
  refine lv_if_eq (tgt := 28) hx hb d_M_isLent_11 (by decide) (fun c_2 => ?_) (fun c_2 => ?_)
  · have t_1 := bi_0.mp (er_1 ▸ c_2)
    refine lv_iconst (v := 0) hx hb d_M_isLent_28 (by decide) ?_
    exact h_zret hx hb hr hlocks (rfl) (Nat.le_of_ble_eq_true rfl) (Nat.le_of_ble_eq_true rfl) hP hS (⟨by rw [lentN_w (by rw [← wl_i]; exact t_1)]; rfl, rfl⟩) d_M_isLent_29
  · have t_1 := bi_n0.mp (er_1 ▸ c_2)
    have hw9 : wi x 1 (nI (sNL σ)) = true := by rw [← wl_i]; exact t_1
    obtain ⟨k, hk, rfl⟩ := wi_num (by omega) hw9
    refine lv_aload_n hx hb d_M_isLent_14 rfl (lv_at hl 0 rfl) ?_
    refine g_M_38 X hb hP m0 rfl d_M_isLent_15 ?_
    refine lv_iload_n hx hb d_M_isLent_18 rfl (lv_at hl 1 rfl) ?_
    refine n_iald X hb hP m10 ⟨by omega, by decide⟩ d_M_isLent_19 ?_
    refine lv_iconst (v := 1) hx hb d_M_isLent_20 (by decide) ?_
    refine lv_icmp_ne (tgt := 28) hx hb d_M_isLent_21 (by decide) (fun c_3 => ?_) (fun c_3 => ?_)
    · refine lv_iconst (v := 0) hx hb d_M_isLent_28 (by decide) ?_
      exact h_zret hx hb hr hlocks (rfl) (Nat.le_of_ble_eq_true rfl) (Nat.le_of_ble_eq_true rfl) hP hS (⟨by rw [lentN_n hV hk (fun z => c_3 (by rw [(hR2 k hk).2.2.2.1, z]; rfl))]; rfl, rfl⟩) d_M_isLent_29
    · refine lv_iconst (v := 1) hx hb d_M_isLent_24 (by decide) ?_
      refine lv_goto (tgt := 29) hx hb d_M_isLent_25 (by decide) ?_
      exact h_zret hx hb hr hlocks (rfl) (Nat.le_of_ble_eq_true rfl) (Nat.le_of_ble_eq_true rfl) hP hS (⟨by rw [lentN_y hV hk ((nI_small (by have := (hV.2.2.1 k hk).2.2.2.1; omega) (b := 1) (by decide)).mp (by rw [← (hR2 k hk).2.2.2.1]; exact c_3))]; rfl, rfl⟩) d_M_isLent_29
theorem k_M_118 {p : Program} {l : Launch} {e : Env} {R : Room} {s : State} {m : MethodId} {args : Array Value} {below : List Frame} {meth : Method} {c : Code} {H : Heap} {locs : List Loc} {cells slots : Nat} {Q : State → Prop} {cc : ByteArray} {pc : Nat} {ls : Array Slot} {rest : List Value} {D : va_G} {A : Nat → Prop} {t : Nat → ClassId} {g : hG} {nL : Nat} {ret0 : Option FieldType} {nm : String} (X : Cx p s m args meth c R_M cc nL ret0 TB D vwCl (tyL t) EX A nm) (hR : 1 + 1 ≤ R.frames ∧ 8 + (2 + 11) + 25 ≤ R.locals) (hf : cells + 0 ≤ R.cells ∧ slots + 0 ≤ R.slots) (hls : ls.size = nL) (hP : hw D vwCl A g H) (hS : va_S A s.heap H locs) {ma : Nat → Nat} {tv : Int32} {σ : SS} {x : Int32} {fs9 : List Value} (he9 : g (ma 0) = some (.inr (6, fs9))) (hMx : RMx t ma tv σ g) (hV : Inv σ)  (hW : (rest.map fun v => v.category).sum ≤ 8) (hdg : decode cc pc = .ok (.invokevirtual 118, 3)) (kk : ∀ (r : Int32) (H1 : Heap) (locs1 : List Loc), r = bi (lentN σ x).isSome → hw D vwCl A (g) H1 → va_S A s.heap H1 locs1 → W p l e R s m args below meth c H1 locs1 (cells + 0) (slots + 0) Q (F0 m (pc + 3) ls (.int r :: rest))) : W p l e R s m args below meth c H locs cells slots Q (F0 m pc ls (.int x :: .ref (ma 0) :: rest)) :=
  h_ci (runV (C := R_M) (T := F_M) (N := 26) X (c_M_isLent l D t A g ma tv σ x hMx hV) (tbm 579 (by decide +kernel)) (tbm 581 (by decide +kernel)) (tbm 11 (by decide +kernel)) (tbm 23 (by decide +kernel)) (tbm 582 (by decide +kernel)) rfl (n := 1) (by decide +kernel) hR hf hP he9 hS hls rfl rfl hW hdg) hS (fun r u H1 locs1 hp hP1 hS1 => kk r H1 locs1 hp.1 (hp.2 ▸ hP1) hS1)
end
section
theorem cB_sub (x : Int64) (c : Int32) {n : Nat} (h : n < 1000) : x - (nI n + 1).toInt64 = x - (nI n).toInt64 - 1 := by
  rw [nI_1, nI_l (by omega), nI_l (by omega), ← lN_1]
  rw [Int64.sub_eq_add_neg, Int64.sub_eq_add_neg, Int64.sub_eq_add_neg, Int64.neg_add, Int64.add_assoc, Int64.sub_eq_add_neg]
theorem cB_nat (f : Nat → Int64) (x y : Int64) : ∀ n, ∃ m, m ≤ n ∧ cB f x y n = nI m
  | 0 => ⟨0, Nat.le_refl 0, rfl⟩
  | n + 1 => by
    obtain ⟨m, h1, h2⟩ := cB_nat f x y n
    rw [cB, h2]
    split
    · exact ⟨m + 1, by omega, nI_1 m⟩
    · exact ⟨m, by omega, rfl⟩
set_option maxHeartbeats 4000000 in
set_option maxRecDepth 100000 in
theorem lp_M_late {p : Program} {l : Launch} {e : Env} {s : State} {m : MethodId} {below : List Frame} {meth : Method} {c : Code} {D : va_G} {t : Nat → ClassId} {A : Nat → Prop} (g : hG) (ma : Nat → Nat) (tv : Int32) (σ : SS) (fm : Nat → Nat → Int32) (fj : Nat → Nat → Int64) (j : Nat) (d : Int64) (hM : MC t g ma tv (nI (sNR σ)) (nI (sNL σ)) (nI (sND σ)) (nI (sNC σ)) (sTH σ) fm fj) (hR : MRel fm fj σ) (hV : Inv σ) (hj : j < sNL σ) (X : Cx p s m ([.ref (ma 0), .int (nI (j + 1)), .long d] : List Value).toArray meth c R_M b_M_late 9 (some .long) TB D vwCl (tyL t) EX A "late") : ∀ (k : Nat) (i : Nat) (b : Int64) (H : Heap) (locs : List Loc) (ls : Array Slot) (_ : i ≤ sNC σ) (_ : sNC σ + 1 ≤ i + k) (_ : b = d - (fj 12 (j + 1)) - (cB (fj 6) (fj 12 (j + 1)) d i).toInt64) (_ : hw D vwCl A g H) (_ : va_S A s.heap H locs) (_ : lv_has ls 9 [(6, .int (nI i)), (4, .long b), (0, .ref (ma 0)), (1, .int (nI (j + 1))), (2, .long d)]), W p l e ({ frames := 0, cells := 0, slots := 0, locals := 0 } : Room) s m ([.ref (ma 0), .int (nI (j + 1)), .long d] : List Value).toArray below meth c H locs 0 0 (MQ below (va_Ql (fun r u => r = lateJ σ j d ∧ u = g) (fun u v => hw D vwCl A u v.heap) A) ([.ref (ma 0), .int (nI (j + 1)), .long d] : List Value).toArray s 0 0 A) (F0 m 13 ls []) := by
  obtain ⟨hx, hb, hml, hr, hts, hown, hlocks, hK, hEs, hA, hnm⟩ := id X
  intro k
  induction k with
  | zero => exact fun i b H locs ls h1 h2 => absurd h2 (by omega)
  | succ k ih =>
    intro i b H locs ls hi hk hbt hP hS hl
    obtain ⟨hR1, hR2, hR3, hR6, hR20, hR11⟩ := id hR
    have m0 := hM.1
    have hinj := hM.2.2
    have m12 : g (ma 12) = some (arJ t 121 (fj 12)) := hM.2.1 12 (by decide) (by decide)
    have m6 : g (ma 6) = some (arJ t 100 (fj 6)) := hM.2.1 6 (by decide) (by decide)
    have m9 : g (ma 9) = some (arI t 121 (fm 9)) := hM.2.1 9 (by decide) (by decide)
    have m3 : g (ma 3) = some (arI t 10 (fm 3)) := hM.2.1 3 (by decide) (by decide)
    have m1 : g (ma 1) = some (arI t 10 (fm 1)) := hM.2.1 1 (by decide) (by decide)
    have m2 : g (ma 2) = some (arI t 10 (fm 2)) := hM.2.1 2 (by decide) (by decide)
    have hn1 := hV.1.1
    have hn2 := hV.1.2.1
    have hn3 := hV.1.2.2.1
    have hn4 := hV.1.2.2.2
    refine lv_iload hx hb d_M_late_13 (lv_at hl 0 rfl) ?_
    refine lv_aload_n hx hb d_M_late_15 rfl (lv_at hl 2 rfl) ?_
    refine g_M_97 X hb hP m0 rfl d_M_late_16 ?_
    refine lv_icmp_ge (tgt := 67) hx hb d_M_late_19 (by decide) (fun c_1 => ?_) (fun c_1 => ?_)
    · refine lv_aload_n hx hb d_M_late_67 rfl (lv_at hl 2 rfl) ?_
      refine g_M_35 X hb hP m0 rfl d_M_late_68 ?_
      refine lv_iload_n hx hb d_M_late_71 rfl (lv_at hl 3 rfl) ?_
      refine n_iald X hb hP m9 ⟨by omega, by decide⟩ d_M_late_72 ?_
      rw [(hR2 j hj).2.2.1]
      have hrl := (hV.2.2.1 j hj).2.2.1
      refine lv_istore (lv' := [(6, .int (nI (sLV σ j).2.2.1)), (4, .long b), (0, .ref (ma 0)), (1, .int (nI (j + 1))), (2, .long d)]) hx hb d_M_late_73 hl (by decide) rfl (fun ls hl => ?_)
      refine lv_lload_n hx hb d_M_late_75 rfl (lv_at hl 4 rfl) ?_
      refine lv_aload_n hx hb d_M_late_76 rfl (lv_at hl 2 rfl) ?_
      refine g_M_44 X hb hP m0 rfl d_M_late_77 ?_
      refine lv_iload_n hx hb d_M_late_80 rfl (lv_at hl 3 rfl) ?_
      refine n_lald X hb hP m12 ⟨by omega, by decide⟩ d_M_late_81 ?_
      refine W.lcmp hx hb d_M_late_82 ?_
      refine lv_if_le (tgt := 100) hx hb d_M_late_83 (by decide) (fun c_2 => ?_) (fun c_2 => ?_)
      · rw [lg_cmp_le] at c_2
        refine lv_lconst (v := 0) hx hb d_M_late_100 (by decide) ?_
        have ei : i = sNC σ := Nat.le_antisymm hi ((nI_leI (by omega) (by omega)).mp c_1)
        have hb9 : b = d - (sLV σ j).2.2.2.1 - (cB (sCD σ) (sLV σ j).2.2.2.1 d (sNC σ)).toInt64 := by rw [← hR6, ← (hR2 j hj).2.2.2.2.2, ← ei]; exact hbt
        obtain ⟨g1, g2, g3, -, -⟩ := hR1 _ hrl
        exact h_lret hx hb hr hlocks (Nat.le_of_ble_eq_true rfl) (Nat.le_of_ble_eq_true rfl) hP hS (⟨by rw [late_m hV hj hb9, if_pos (Or.inl (by rw [← (hR2 j hj).2.2.2.2.2]; exact c_2))], rfl⟩) d_M_late_101
      · rw [lg_cmp_le] at c_2
        refine lv_lload hx hb d_M_late_86 (lv_at hl 1 rfl) ?_
        refine lv_aload_n hx hb d_M_late_88 rfl (lv_at hl 2 rfl) ?_
        refine g_M_16 X hb hP m0 rfl d_M_late_89 ?_
        refine lv_iload hx hb d_M_late_92 (lv_at hl 0 rfl) ?_
        refine n_iald X hb hP m3 ⟨by omega, by decide⟩ d_M_late_94 ?_
        refine lv_i2l hx hb d_M_late_95 rfl ?_
        refine W.lcmp hx hb d_M_late_96 ?_
        refine lv_if_gt (tgt := 102) hx hb d_M_late_97 (by decide) (fun c_3 => ?_) (fun c_3 => ?_)
        · rw [lg_cmp_gt] at c_3
          refine lv_lload hx hb d_M_late_102 (lv_at hl 1 rfl) ?_
          refine lv_aload_n hx hb d_M_late_104 rfl (lv_at hl 2 rfl) ?_
          refine g_M_7 X hb hP m0 rfl d_M_late_105 ?_
          refine lv_iload hx hb d_M_late_108 (lv_at hl 0 rfl) ?_
          refine n_iald X hb hP m1 ⟨by omega, by decide⟩ d_M_late_110 ?_
          refine lv_i2l hx hb d_M_late_111 rfl ?_
          refine lv_lmul hx hb d_M_late_112 ?_
          refine lv_topl (fun x_4 ex_4 => ?_)
          refine lv_lstore (lv' := [(7, .long x_4), (6, .int (nI (sLV σ j).2.2.1)), (4, .long b), (0, .ref (ma 0)), (1, .int (nI (j + 1))), (2, .long d)]) hx hb d_M_late_113 hl (by decide) rfl (fun ls hl => ?_)
          refine lv_lload hx hb d_M_late_115 (lv_at hl 0 rfl) ?_
          refine lv_aload_n hx hb d_M_late_117 rfl (lv_at hl 3 rfl) ?_
          refine g_M_13 X hb hP m0 rfl d_M_late_118 ?_
          refine lv_iload hx hb d_M_late_121 (lv_at hl 1 rfl) ?_
          refine n_iald X hb hP m2 ⟨by omega, by decide⟩ d_M_late_123 ?_
          refine lv_i2l hx hb d_M_late_124 rfl ?_
          refine W.lcmp hx hb d_M_late_125 ?_
          refine lv_if_le (tgt := 140) hx hb d_M_late_126 (by decide) (fun c_5 => ?_) (fun c_5 => ?_)
          · rw [lg_cmp_le] at c_5
            refine lv_lload hx hb d_M_late_140 (lv_at hl 0 rfl) ?_
            have ei : i = sNC σ := Nat.le_antisymm hi ((nI_leI (by omega) (by omega)).mp c_1)
            have hb9 : b = d - (sLV σ j).2.2.2.1 - (cB (sCD σ) (sLV σ j).2.2.2.1 d (sNC σ)).toInt64 := by rw [← hR6, ← (hR2 j hj).2.2.2.2.2, ← ei]; exact hbt
            obtain ⟨g1, g2, g3, -, -⟩ := hR1 _ hrl
            exact h_lret hx hb hr hlocks (Nat.le_of_ble_eq_true rfl) (Nat.le_of_ble_eq_true rfl) hP hS (⟨by rw [late_m hV hj hb9, if_neg (fun z => z.elim (by rw [← (hR2 j hj).2.2.2.2.2]; exact c_2) (Int64.not_le.mpr (by rw [← g3]; exact c_3))), if_neg (Int64.not_lt.mpr (by rw [← g2, ← g1, ← ex_4]; exact c_5)), ex_4, g1], rfl⟩) d_M_late_142
          · rw [lg_cmp_le] at c_5
            refine lv_aload_n hx hb d_M_late_129 rfl (lv_at hl 3 rfl) ?_
            refine g_M_13 X hb hP m0 rfl d_M_late_130 ?_
            refine lv_iload hx hb d_M_late_133 (lv_at hl 1 rfl) ?_
            refine n_iald X hb hP m2 ⟨by omega, by decide⟩ d_M_late_135 ?_
            refine lv_i2l hx hb d_M_late_136 rfl ?_
            refine lv_goto (tgt := 142) hx hb d_M_late_137 (by decide) ?_
            have ei : i = sNC σ := Nat.le_antisymm hi ((nI_leI (by omega) (by omega)).mp c_1)
            have hb9 : b = d - (sLV σ j).2.2.2.1 - (cB (sCD σ) (sLV σ j).2.2.2.1 d (sNC σ)).toInt64 := by rw [← hR6, ← (hR2 j hj).2.2.2.2.2, ← ei]; exact hbt
            obtain ⟨g1, g2, g3, -, -⟩ := hR1 _ hrl
            exact h_lret hx hb hr hlocks (Nat.le_of_ble_eq_true rfl) (Nat.le_of_ble_eq_true rfl) hP hS (⟨by rw [late_m hV hj hb9, if_neg (fun z => z.elim (by rw [← (hR2 j hj).2.2.2.2.2]; exact c_2) (Int64.not_le.mpr (by rw [← g3]; exact c_3))), if_pos (by rw [← g2, ← g1, ← ex_4]; exact Int64.not_le.mp c_5), g2], rfl⟩) d_M_late_142
        · rw [lg_cmp_gt] at c_3
          refine lv_lconst (v := 0) hx hb d_M_late_100 (by decide) ?_
          have ei : i = sNC σ := Nat.le_antisymm hi ((nI_leI (by omega) (by omega)).mp c_1)
          have hb9 : b = d - (sLV σ j).2.2.2.1 - (cB (sCD σ) (sLV σ j).2.2.2.1 d (sNC σ)).toInt64 := by rw [← hR6, ← (hR2 j hj).2.2.2.2.2, ← ei]; exact hbt
          obtain ⟨g1, g2, g3, -, -⟩ := hR1 _ hrl
          exact h_lret hx hb hr hlocks (Nat.le_of_ble_eq_true rfl) (Nat.le_of_ble_eq_true rfl) hP hS (⟨by rw [late_m hV hj hb9, if_pos (Or.inr (by rw [← g3]; exact Int64.not_lt.mp c_3))], rfl⟩) d_M_late_101
    · have hlt : i < sNC σ := Nat.lt_of_not_le (fun z => c_1 (nI_le z (by omega)))
      refine lv_lload hx hb d_M_late_22 (lv_at hl 1 rfl) ?_
      refine lv_aload_n hx hb d_M_late_24 rfl (lv_at hl 2 rfl) ?_
      refine g_M_25 X hb hP m0 rfl d_M_late_25 ?_
      refine lv_iload hx hb d_M_late_28 (lv_at hl 0 rfl) ?_
      refine n_lald X hb hP m6 ⟨by omega, by decide⟩ d_M_late_30 ?_
      refine lv_aload_n hx hb d_M_late_31 rfl (lv_at hl 2 rfl) ?_
      refine g_M_44 X hb hP m0 rfl d_M_late_32 ?_
      refine lv_iload_n hx hb d_M_late_35 rfl (lv_at hl 3 rfl) ?_
      refine n_lald X hb hP m12 ⟨by omega, by decide⟩ d_M_late_36 ?_
      refine W.lcmp hx hb d_M_late_37 ?_
      refine lv_if_le (tgt := 57) hx hb d_M_late_38 (by decide) (fun c_6 => ?_) (fun c_6 => ?_)
      · rw [lg_cmp_le] at c_6
        refine lv_lconst (v := 0) hx hb d_M_late_57 (by decide) ?_
        refine lv_lsub hx hb d_M_late_58 ?_
        refine lv_topl (fun x_7 ex_7 => ?_)
        refine lv_lstore (lv' := [(4, .long x_7), (6, .int (nI i)), (0, .ref (ma 0)), (1, .int (nI (j + 1))), (2, .long d)]) hx hb d_M_late_59 hl (by decide) rfl (fun ls hl => ?_)
        obtain ⟨x_8, ex_8⟩ : ∃ z : Int32, z = (nI i) + 1 := ⟨_, rfl⟩
        refine lv_iinc (v := x_8) (lv' := [(6, .int x_8), (4, .long x_7), (0, .ref (ma 0)), (1, .int (nI (j + 1))), (2, .long d)]) hx hb d_M_late_61 hl (k := 1) rfl (by rw [ex_8]; rfl) (by decide) rfl (fun ls hl => ?_)
        refine lv_goto (tgt := 13) hx hb d_M_late_64 (by decide) ?_
        obtain rfl : x_8 = nI (i + 1) := by rw [ex_8]; exact nI_1 i
        exact ih (i + 1) x_7 H locs ls (by omega) (by omega) (by rw [ex_7, cB_no1 c_6, hbt, i64s0]) hP hS (lv_sub hl [0, 1, 2, 3, 4] rfl)
      · rw [lg_cmp_le] at c_6
        refine lv_aload_n hx hb d_M_late_41 rfl (lv_at hl 2 rfl) ?_
        refine g_M_25 X hb hP m0 rfl d_M_late_42 ?_
        refine lv_iload hx hb d_M_late_45 (lv_at hl 0 rfl) ?_
        refine n_lald X hb hP m6 ⟨by omega, by decide⟩ d_M_late_47 ?_
        refine lv_lload_n hx hb d_M_late_48 rfl (lv_at hl 4 rfl) ?_
        refine W.lcmp hx hb d_M_late_49 ?_
        refine lv_if_gt (tgt := 57) hx hb d_M_late_50 (by decide) (fun c_9 => ?_) (fun c_9 => ?_)
        · rw [lg_cmp_gt] at c_9
          refine lv_lconst (v := 0) hx hb d_M_late_57 (by decide) ?_
          refine lv_lsub hx hb d_M_late_58 ?_
          refine lv_topl (fun x_10 ex_10 => ?_)
          refine lv_lstore (lv' := [(4, .long x_10), (6, .int (nI i)), (0, .ref (ma 0)), (1, .int (nI (j + 1))), (2, .long d)]) hx hb d_M_late_59 hl (by decide) rfl (fun ls hl => ?_)
          obtain ⟨x_11, ex_11⟩ : ∃ z : Int32, z = (nI i) + 1 := ⟨_, rfl⟩
          refine lv_iinc (v := x_11) (lv' := [(6, .int x_11), (4, .long x_10), (0, .ref (ma 0)), (1, .int (nI (j + 1))), (2, .long d)]) hx hb d_M_late_61 hl (k := 1) rfl (by rw [ex_11]; rfl) (by decide) rfl (fun ls hl => ?_)
          refine lv_goto (tgt := 13) hx hb d_M_late_64 (by decide) ?_
          obtain rfl : x_11 = nI (i + 1) := by rw [ex_11]; exact nI_1 i
          exact ih (i + 1) x_10 H locs ls (by omega) (by omega) (by rw [ex_10, cB_no2 c_9, hbt, i64s0]) hP hS (lv_sub hl [0, 1, 2, 3, 4] rfl)
        · rw [lg_cmp_gt] at c_9
          refine lv_lconst (v := 1) hx hb d_M_late_53 (by decide) ?_
          refine lv_goto (tgt := 58) hx hb d_M_late_54 (by decide) ?_
          refine lv_lsub hx hb d_M_late_58 ?_
          refine lv_topl (fun x_12 ex_12 => ?_)
          refine lv_lstore (lv' := [(4, .long x_12), (6, .int (nI i)), (0, .ref (ma 0)), (1, .int (nI (j + 1))), (2, .long d)]) hx hb d_M_late_59 hl (by decide) rfl (fun ls hl => ?_)
          obtain ⟨x_13, ex_13⟩ : ∃ z : Int32, z = (nI i) + 1 := ⟨_, rfl⟩
          refine lv_iinc (v := x_13) (lv' := [(6, .int x_13), (4, .long x_12), (0, .ref (ma 0)), (1, .int (nI (j + 1))), (2, .long d)]) hx hb d_M_late_61 hl (k := 1) rfl (by rw [ex_13]; rfl) (by decide) rfl (fun ls hl => ?_)
          refine lv_goto (tgt := 13) hx hb d_M_late_64 (by decide) ?_
          obtain rfl : x_13 = nI (i + 1) := by rw [ex_13]; exact nI_1 i
          exact ih (i + 1) x_12 H locs ls (by omega) (by omega) (by rw [ex_12, cB_yes c_6 c_9, hbt]; obtain ⟨m9, h8, h9⟩ := cB_nat (fj 6) (fj 12 (j + 1)) d i; rw [h9]; exact (cB_sub _ 0 (by omega)).symm) hP hS (lv_sub hl [0, 1, 2, 3, 4] rfl)

set_option maxHeartbeats 4000000 in
set_option maxRecDepth 100000 in
theorem c_M_late (l : Launch) (D : va_G) (t : Nat → ClassId) (A : Nat → Prop) (g : hG) (ma : Nat → Nat) (tv : Int32) (σ : SS) (j : Nat) (d : Int64) (hMx : RMx t ma tv σ g) (hV : Inv σ) (hj : j < sNL σ) : Met l y_M_late (Cond.code y_M_late b_M_late 9 (some .long) :: TB) ({ frames := 0, cells := 0, slots := 0, locals := 0 } : Room) (va_Pc [.ref (ma 0), .int (nI (j + 1)), .long d] (hI D vwCl (tyL t) EX A g)) (va_Ql (fun r u => r = lateJ σ j d ∧ u = g) (fun u v => hw D vwCl A u v.heap) A) 0 0 A := by
  refine Met.ofH (cc := b_M_late) (maxL := 9) (ret := (some .long)) (lv := [(0, .ref (ma 0)), (1, .int (nI (j + 1))), (2, .long d)]) (by decide) (Nat.le_of_ble_eq_true rfl) rfl ?_
  intro p e s m below meth c ls X hP hS hl
  obtain ⟨hx, hb, hml, hr, hts, hown, hlocks, hK, hEs, hA, hnm⟩ := id X
  obtain ⟨fm, fj, hM, hR1, hR2, hR3, hR6, hR20, hR11⟩ := id hMx
  have m0 := hM.1
  have hinj := hM.2.2
  have m12 : g (ma 12) = some (arJ t 121 (fj 12)) := hM.2.1 12 (by decide) (by decide)
  have hn1 := hV.1.1
  have hn2 := hV.1.2.1
  have hn3 := hV.1.2.2.1
  have hn4 := hV.1.2.2.2
  refine lv_lload_n hx hb d_M_late_0 rfl (lv_at hl 2 rfl) ?_
  refine lv_aload_n hx hb d_M_late_1 rfl (lv_at hl 0 rfl) ?_
  refine g_M_44 X hb hP m0 rfl d_M_late_2 ?_
  refine lv_iload_n hx hb d_M_late_5 rfl (lv_at hl 1 rfl) ?_
  refine n_lald X hb hP m12 ⟨by omega, by decide⟩ d_M_late_6 ?_
  refine lv_lsub hx hb d_M_late_7 ?_
  refine lv_topl (fun x_1 ex_1 => ?_)
  refine lv_lstore (lv' := [(4, .long x_1), (0, .ref (ma 0)), (1, .int (nI (j + 1))), (2, .long d)]) hx hb d_M_late_8 hl (by decide) rfl (fun ls hl => ?_)
  refine lv_iconst (v := 0) hx hb d_M_late_10 (by decide) ?_
  refine lv_istore (lv' := [(6, .int 0), (4, .long x_1), (0, .ref (ma 0)), (1, .int (nI (j + 1))), (2, .long d)]) hx hb d_M_late_11 hl (by decide) rfl (fun ls hl => ?_)
  exact lp_M_late g ma tv σ fm fj j d hM ⟨hR1, hR2, hR3, hR6, hR20, hR11⟩ hV hj X (sNC σ + 1) 0 x_1 _ _ ls (Nat.zero_le _) (by omega) (by rw [ex_1, cB_0]; exact (i64s0 _).symm) hP hS (lv_sub hl [0, 1, 2, 3, 4] rfl)
theorem k_M_122 {p : Program} {l : Launch} {e : Env} {R : Room} {s : State} {m : MethodId} {args : Array Value} {below : List Frame} {meth : Method} {c : Code} {H : Heap} {locs : List Loc} {cells slots : Nat} {Q : State → Prop} {cc : ByteArray} {pc : Nat} {ls : Array Slot} {rest : List Value} {D : va_G} {A : Nat → Prop} {t : Nat → ClassId} {g : hG} {nL : Nat} {ret0 : Option FieldType} {nm : String} (X : Cx p s m args meth c R_M cc nL ret0 TB D vwCl (tyL t) EX A nm) (hR : 0 + 1 ≤ R.frames ∧ 8 + (9 + 11) + 0 ≤ R.locals) (hf : cells + 0 ≤ R.cells ∧ slots + 0 ≤ R.slots) (hls : ls.size = nL) (hP : hw D vwCl A g H) (hS : va_S A s.heap H locs) {ma : Nat → Nat} {tv : Int32} {σ : SS} {j : Nat} {d : Int64} {fs9 : List Value} (he9 : g (ma 0) = some (.inr (6, fs9))) (hMx : RMx t ma tv σ g) (hV : Inv σ) (hj : j < sNL σ) (hW : (rest.map fun v => v.category).sum ≤ 8) (hdg : decode cc pc = .ok (.invokevirtual 122, 3)) (kk : ∀ (r : Int64) (H1 : Heap) (locs1 : List Loc), r = lateJ σ j d → hw D vwCl A (g) H1 → va_S A s.heap H1 locs1 → W p l e R s m args below meth c H1 locs1 (cells + 0) (slots + 0) Q (F0 m (pc + 3) ls (.long r :: rest))) : W p l e R s m args below meth c H locs cells slots Q (F0 m pc ls (.long d :: .int (nI (j + 1)) :: .ref (ma 0) :: rest)) :=
  h_cl (runV (C := R_M) (T := F_M) (N := 26) X (c_M_late l D t A g ma tv σ j d hMx hV hj) (tbm 583 (by decide +kernel)) (tbm 585 (by decide +kernel)) (tbm 12 (by decide +kernel)) (tbm 23 (by decide +kernel)) (tbm 586 (by decide +kernel)) rfl (n := 2) (by decide +kernel) hR hf hP he9 hS hls rfl rfl hW hdg) hS (fun r u H1 locs1 hp hP1 hS1 => kk r H1 locs1 hp.1 (hp.2 ▸ hP1) hS1)

set_option maxHeartbeats 4000000 in
set_option maxRecDepth 100000 in
theorem c_M_personOf (l : Launch) (D : va_G) (t : Nat → ClassId) (A : Nat → Prop) (g : hG) (ma : Nat → Nat) (tv : Int32) (σ : SS) (j : Nat) (hMx : RMx t ma tv σ g) (hV : Inv σ) (hj : j < sND σ) : Met l y_M_personOf (Cond.code y_M_personOf b_M_personOf 2 (some .int) :: TB) ({ frames := 0, cells := 0, slots := 0, locals := 0 } : Room) (va_Pc [.ref (ma 0), .int (nI (j + 1))] (hI D vwCl (tyL t) EX A g)) (va_Qi (fun r u => r = nI (sLV σ (sDV σ j).1).2.1 ∧ u = g) (fun u v => hw D vwCl A u v.heap) A) 0 0 A := by
  refine Met.ofH (cc := b_M_personOf) (maxL := 2) (ret := (some .int)) (lv := [(0, .ref (ma 0)), (1, .int (nI (j + 1)))]) (by decide) (Nat.le_of_ble_eq_true rfl) rfl ?_
  intro p e s m below meth c ls X hP hS hl
  obtain ⟨hx, hb, hml, hr, hts, hown, hlocks, hK, hEs, hA, hnm⟩ := id X
  obtain ⟨fm, fj, hM, hR1, hR2, hR3, hR6, hR20, hR11⟩ := id hMx
  have m0 := hM.1
  have hinj := hM.2.2
  have m8 : g (ma 8) = some (arI t 121 (fm 8)) := hM.2.1 8 (by decide) (by decide)
  have m13 : g (ma 13) = some (arI t 201 (fm 13)) := hM.2.1 13 (by decide) (by decide)
  have hn1 := hV.1.1
  have hn2 := hV.1.2.1
  have hn3 := hV.1.2.2.1
  have hn4 := hV.1.2.2.2
  have hl9 := (hV.2.2.2.1 j hj).1
  refine lv_aload_n hx hb d_M_personOf_0 rfl (lv_at hl 0 rfl) ?_
  refine g_M_32 X hb hP m0 rfl d_M_personOf_1 ?_
  refine lv_aload_n hx hb d_M_personOf_4 rfl (lv_at hl 0 rfl) ?_
  refine g_M_47 X hb hP m0 rfl d_M_personOf_5 ?_
  refine lv_iload_n hx hb d_M_personOf_8 rfl (lv_at hl 1 rfl) ?_
  refine n_iald X hb hP m13 ⟨by omega, by decide⟩ d_M_personOf_9 ?_
  rw [(hR3 j hj).1]
  refine n_iald X hb hP m8 ⟨by omega, by decide⟩ d_M_personOf_10 ?_
  exact h_iret hx hb hr hlocks (Nat.le_of_ble_eq_true rfl) (Nat.le_of_ble_eq_true rfl) hP hS (⟨(hR2 _ hl9).2.1, rfl⟩) d_M_personOf_11
theorem k_M_135 {p : Program} {l : Launch} {e : Env} {R : Room} {s : State} {m : MethodId} {args : Array Value} {below : List Frame} {meth : Method} {c : Code} {H : Heap} {locs : List Loc} {cells slots : Nat} {Q : State → Prop} {cc : ByteArray} {pc : Nat} {ls : Array Slot} {rest : List Value} {D : va_G} {A : Nat → Prop} {t : Nat → ClassId} {g : hG} {nL : Nat} {ret0 : Option FieldType} {nm : String} (X : Cx p s m args meth c R_M cc nL ret0 TB D vwCl (tyL t) EX A nm) (hR : 0 + 1 ≤ R.frames ∧ 8 + (2 + 11) + 0 ≤ R.locals) (hf : cells + 0 ≤ R.cells ∧ slots + 0 ≤ R.slots) (hls : ls.size = nL) (hP : hw D vwCl A g H) (hS : va_S A s.heap H locs) {ma : Nat → Nat} {tv : Int32} {σ : SS} {j : Nat} {fs9 : List Value} (he9 : g (ma 0) = some (.inr (6, fs9))) (hMx : RMx t ma tv σ g) (hV : Inv σ) (hj : j < sND σ) (hW : (rest.map fun v => v.category).sum ≤ 8) (hdg : decode cc pc = .ok (.invokevirtual 135, 3)) (kk : ∀ (r : Int32) (H1 : Heap) (locs1 : List Loc), r = nI (sLV σ (sDV σ j).1).2.1 → hw D vwCl A (g) H1 → va_S A s.heap H1 locs1 → W p l e R s m args below meth c H1 locs1 (cells + 0) (slots + 0) Q (F0 m (pc + 3) ls (.int r :: rest))) : W p l e R s m args below meth c H locs cells slots Q (F0 m pc ls (.int (nI (j + 1)) :: .ref (ma 0) :: rest)) :=
  h_ci (runV (C := R_M) (T := F_M) (N := 26) X (c_M_personOf l D t A g ma tv σ j hMx hV hj) (tbm 612 (by decide +kernel)) (tbm 614 (by decide +kernel)) (tbm 15 (by decide +kernel)) (tbm 23 (by decide +kernel)) (tbm 615 (by decide +kernel)) rfl (n := 1) (by decide +kernel) hR hf hP he9 hS hls rfl rfl hW hdg) hS (fun r u H1 locs1 hp hP1 hS1 => kk r H1 locs1 hp.1 (hp.2 ▸ hP1) hS1)

set_option maxHeartbeats 4000000 in
set_option maxRecDepth 100000 in
theorem c_M_isDebt (l : Launch) (D : va_G) (t : Nat → ClassId) (A : Nat → Prop) (g : hG) (ma : Nat → Nat) (tv : Int32) (σ : SS) (x : Int32) (hMx : RMx t ma tv σ g) (hV : Inv σ) : Met l y_M_isDebt (Cond.code y_M_isDebt b_M_isDebt 2 (some .boolean) :: TB) ({ frames := 1, cells := 0, slots := 0, locals := 25 } : Room) (va_Pc [.ref (ma 0), .int x] (hI D vwCl (tyL t) EX A g)) (va_Qi (fun r u => r = bi (wi x 1 (nI (sND σ))) ∧ u = g) (fun u v => hw D vwCl A u v.heap) A) 0 0 A := by
  refine Met.ofH (cc := b_M_isDebt) (maxL := 2) (ret := (some .boolean)) (lv := [(0, .ref (ma 0)), (1, .int x)]) (by decide) (Nat.le_of_ble_eq_true rfl) rfl ?_
  intro p e s m below meth c ls X hP hS hl
  obtain ⟨hx, hb, hml, hr, hts, hown, hlocks, hK, hEs, hA, hnm⟩ := id X
  obtain ⟨fm, fj, hM, hR1, hR2, hR3, hR6, hR20, hR11⟩ := id hMx
  have m0 := hM.1
  have hinj := hM.2.2
  have hn1 := hV.1.1
  have hn2 := hV.1.2.1
  have hn3 := hV.1.2.2.1
  have hn4 := hV.1.2.2.2
  refine lv_iload_n hx hb d_M_isDebt_0 rfl (lv_at hl 1 rfl) ?_
  refine lv_i2l hx hb d_M_isDebt_1 rfl ?_
  refine lv_lconst (v := 1) hx hb d_M_isDebt_2 (by decide) ?_
  refine lv_aload_n hx hb d_M_isDebt_3 rfl (lv_at hl 0 rfl) ?_
  refine g_M_128 X hb hP m0 rfl d_M_isDebt_4 ?_
  refine lv_i2l hx hb d_M_isDebt_7 rfl ?_
  refine k_M_81 X ⟨Nat.le_of_ble_eq_true rfl, Nat.le_of_ble_eq_true rfl⟩ ⟨Nat.le_of_ble_eq_true rfl, Nat.le_of_ble_eq_true rfl⟩ hl.1 hP hS (by exact Nat.le_of_ble_eq_true rfl) d_M_isDebt_8 (fun r_1 H locs er_1 hP hS => ?_)
  exact h_zret hx hb hr hlocks (by rw [er_1]; exact bi_nar _) (Nat.le_of_ble_eq_true rfl) (Nat.le_of_ble_eq_true rfl) hP hS (⟨by rw [er_1, ← wl_i]; rfl, rfl⟩) d_M_isDebt_11
theorem k_M_141 {p : Program} {l : Launch} {e : Env} {R : Room} {s : State} {m : MethodId} {args : Array Value} {below : List Frame} {meth : Method} {c : Code} {H : Heap} {locs : List Loc} {cells slots : Nat} {Q : State → Prop} {cc : ByteArray} {pc : Nat} {ls : Array Slot} {rest : List Value} {D : va_G} {A : Nat → Prop} {t : Nat → ClassId} {g : hG} {nL : Nat} {ret0 : Option FieldType} {nm : String} (X : Cx p s m args meth c R_M cc nL ret0 TB D vwCl (tyL t) EX A nm) (hR : 1 + 1 ≤ R.frames ∧ 8 + (2 + 11) + 25 ≤ R.locals) (hf : cells + 0 ≤ R.cells ∧ slots + 0 ≤ R.slots) (hls : ls.size = nL) (hP : hw D vwCl A g H) (hS : va_S A s.heap H locs) {ma : Nat → Nat} {tv : Int32} {σ : SS} {x : Int32} {fs9 : List Value} (he9 : g (ma 0) = some (.inr (6, fs9))) (hMx : RMx t ma tv σ g) (hV : Inv σ)  (hW : (rest.map fun v => v.category).sum ≤ 8) (hdg : decode cc pc = .ok (.invokevirtual 141, 3)) (kk : ∀ (r : Int32) (H1 : Heap) (locs1 : List Loc), r = bi (wi x 1 (nI (sND σ))) → hw D vwCl A (g) H1 → va_S A s.heap H1 locs1 → W p l e R s m args below meth c H1 locs1 (cells + 0) (slots + 0) Q (F0 m (pc + 3) ls (.int r :: rest))) : W p l e R s m args below meth c H locs cells slots Q (F0 m pc ls (.int x :: .ref (ma 0) :: rest)) :=
  h_ci (runV (C := R_M) (T := F_M) (N := 26) X (c_M_isDebt l D t A g ma tv σ x hMx hV) (tbm 620 (by decide +kernel)) (tbm 622 (by decide +kernel)) (tbm 16 (by decide +kernel)) (tbm 23 (by decide +kernel)) (tbm 623 (by decide +kernel)) rfl (n := 1) (by decide +kernel) hR hf hP he9 hS hls rfl rfl hW hdg) hS (fun r u H1 locs1 hp hP1 hS1 => kk r H1 locs1 hp.1 (hp.2 ▸ hP1) hS1)

set_option maxHeartbeats 4000000 in
set_option maxRecDepth 100000 in
theorem c_M_interestOf (l : Launch) (D : va_G) (t : Nat → ClassId) (A : Nat → Prop) (g : hG) (ma : Nat → Nat) (tv : Int32) (σ : SS) (j : Nat) (y : Int64) (hMx : RMx t ma tv σ g) (hV : Inv σ) (hj : j < sND σ) : Met l y_M_interestOf (Cond.code y_M_interestOf b_M_interestOf 7 (some .long) :: TB) ({ frames := 0, cells := 0, slots := 0, locals := 0 } : Room) (va_Pc [.ref (ma 0), .int (nI (j + 1)), .long y] (hI D vwCl (tyL t) EX A g)) (va_Ql (fun r u => r = intD σ j y ∧ u = g) (fun u v => hw D vwCl A u v.heap) A) 0 0 A := by
  refine Met.ofH (cc := b_M_interestOf) (maxL := 7) (ret := (some .long)) (lv := [(0, .ref (ma 0)), (1, .int (nI (j + 1))), (2, .long y)]) (by decide) (Nat.le_of_ble_eq_true rfl) rfl ?_
  intro p e s m below meth c ls X hP hS hl
  obtain ⟨hx, hb, hml, hr, hts, hown, hlocks, hK, hEs, hA, hnm⟩ := id X
  obtain ⟨fm, fj, hM, hR1, hR2, hR3, hR6, hR20, hR11⟩ := id hMx
  have m0 := hM.1
  have hinj := hM.2.2
  have m18 : g (ma 18) = some (arJ t 201 (fj 18)) := hM.2.1 18 (by decide) (by decide)
  have m9 : g (ma 9) = some (arI t 121 (fm 9)) := hM.2.1 9 (by decide) (by decide)
  have m13 : g (ma 13) = some (arI t 201 (fm 13)) := hM.2.1 13 (by decide) (by decide)
  have m15 : g (ma 15) = some (arI t 201 (fm 15)) := hM.2.1 15 (by decide) (by decide)
  have m4 : g (ma 4) = some (arI t 10 (fm 4)) := hM.2.1 4 (by decide) (by decide)
  have m5 : g (ma 5) = some (arI t 10 (fm 5)) := hM.2.1 5 (by decide) (by decide)
  have hn1 := hV.1.1
  have hn2 := hV.1.2.1
  have hn3 := hV.1.2.2.1
  have hn4 := hV.1.2.2.2
  have hl9 := (hV.2.2.2.1 j hj).1
  have hrl := (hV.2.2.1 _ hl9).2.2.1
  refine lv_lload_n hx hb d_M_interestOf_0 rfl (lv_at hl 2 rfl) ?_
  refine lv_aload_n hx hb d_M_interestOf_1 rfl (lv_at hl 0 rfl) ?_
  refine g_M_62 X hb hP m0 rfl d_M_interestOf_2 ?_
  refine lv_iload_n hx hb d_M_interestOf_5 rfl (lv_at hl 1 rfl) ?_
  refine n_lald X hb hP m18 ⟨by omega, by decide⟩ d_M_interestOf_6 ?_
  refine W.lcmp hx hb d_M_interestOf_7 ?_
  refine lv_if_ge (tgt := 15) hx hb d_M_interestOf_8 (by decide) (fun c_1 => ?_) (fun c_1 => ?_)
  · rw [lg_cmp_ge] at c_1
    refine lv_lload_n hx hb d_M_interestOf_15 rfl (lv_at hl 2 rfl) ?_
    refine lv_aload_n hx hb d_M_interestOf_16 rfl (lv_at hl 0 rfl) ?_
    refine g_M_62 X hb hP m0 rfl d_M_interestOf_17 ?_
    refine lv_iload_n hx hb d_M_interestOf_20 rfl (lv_at hl 1 rfl) ?_
    refine n_lald X hb hP m18 ⟨by omega, by decide⟩ d_M_interestOf_21 ?_
    refine lv_lsub hx hb d_M_interestOf_22 ?_
    refine lv_ldc2 (v := 30) hx hb hown (hts _ (tbm 637 (by decide +kernel))) d_M_interestOf_23 ?_
    refine lv_ldiv hx hb d_M_interestOf_26 (by decide) ?_
    refine lv_topl (fun x_2 ex_2 => ?_)
    refine lv_lstore (lv' := [(4, .long x_2), (0, .ref (ma 0)), (1, .int (nI (j + 1))), (2, .long y)]) hx hb d_M_interestOf_27 hl (by decide) rfl (fun ls hl => ?_)
    refine lv_aload_n hx hb d_M_interestOf_29 rfl (lv_at hl 1 rfl) ?_
    refine g_M_35 X hb hP m0 rfl d_M_interestOf_30 ?_
    refine lv_aload_n hx hb d_M_interestOf_33 rfl (lv_at hl 1 rfl) ?_
    refine g_M_47 X hb hP m0 rfl d_M_interestOf_34 ?_
    refine lv_iload_n hx hb d_M_interestOf_37 rfl (lv_at hl 2 rfl) ?_
    refine n_iald X hb hP m13 ⟨by omega, by decide⟩ d_M_interestOf_38 ?_
    rw [(hR3 j hj).1]
    refine n_iald X hb hP m9 ⟨by omega, by decide⟩ d_M_interestOf_39 ?_
    rw [(hR2 _ hl9).2.2.1]
    refine lv_istore (lv' := [(6, .int (nI (sLV σ (sDV σ j).1).2.2.1)), (4, .long x_2), (0, .ref (ma 0)), (1, .int (nI (j + 1))), (2, .long y)]) hx hb d_M_interestOf_40 hl (by decide) rfl (fun ls hl => ?_)
    refine lv_aload_n hx hb d_M_interestOf_42 rfl (lv_at hl 2 rfl) ?_
    refine g_M_53 X hb hP m0 rfl d_M_interestOf_43 ?_
    refine lv_iload_n hx hb d_M_interestOf_46 rfl (lv_at hl 3 rfl) ?_
    refine n_iald X hb hP m15 ⟨by omega, by decide⟩ d_M_interestOf_47 ?_
    refine lv_i2l hx hb d_M_interestOf_48 rfl ?_
    refine lv_aload_n hx hb d_M_interestOf_49 rfl (lv_at hl 2 rfl) ?_
    refine g_M_19 X hb hP m0 rfl d_M_interestOf_50 ?_
    refine lv_iload hx hb d_M_interestOf_53 (lv_at hl 0 rfl) ?_
    refine n_iald X hb hP m4 ⟨by omega, by decide⟩ d_M_interestOf_55 ?_
    refine lv_i2l hx hb d_M_interestOf_56 rfl ?_
    refine lv_lmul hx hb d_M_interestOf_57 ?_
    refine lv_lload hx hb d_M_interestOf_58 (lv_at hl 1 rfl) ?_
    refine lv_lmul hx hb d_M_interestOf_60 ?_
    refine lv_aload_n hx hb d_M_interestOf_61 rfl (lv_at hl 2 rfl) ?_
    refine g_M_22 X hb hP m0 rfl d_M_interestOf_62 ?_
    refine lv_iload hx hb d_M_interestOf_65 (lv_at hl 0 rfl) ?_
    refine n_iald X hb hP m5 ⟨by omega, by decide⟩ d_M_interestOf_67 ?_
    refine lv_i2l hx hb d_M_interestOf_68 rfl ?_
    refine lv_ldiv hx hb d_M_interestOf_69 (by rw [(hR1 _ hrl).2.2.2.2]; exact dn1_ne0 _) ?_
    obtain ⟨-, -, -, g4, g5⟩ := hR1 _ hrl
    exact h_lret hx hb hr hlocks (Nat.le_of_ble_eq_true rfl) (Nat.le_of_ble_eq_true rfl) hP hS (⟨by rw [(hR3 j hj).2.2.1, g4, g5, nI_l (by have := (hV.2.2.2.1 j hj).2; omega)]; exact int_m (hV.2.1 _ hrl).2.2.2.2.1 (hV.2.1 _ hrl).2.2.2.2.2 (by rw [if_neg (Int64.not_lt.mpr (by rw [← (hR3 j hj).2.2.2.2.2]; exact c_1)), ex_2, (hR3 j hj).2.2.2.2.2]), rfl⟩) d_M_interestOf_70
  · rw [lg_cmp_ge] at c_1
    refine lv_lconst (v := 0) hx hb d_M_interestOf_11 (by decide) ?_
    refine lv_goto (tgt := 27) hx hb d_M_interestOf_12 (by decide) ?_
    refine lv_lstore (lv' := [(4, .long 0), (0, .ref (ma 0)), (1, .int (nI (j + 1))), (2, .long y)]) hx hb d_M_interestOf_27 hl (by decide) rfl (fun ls hl => ?_)
    refine lv_aload_n hx hb d_M_interestOf_29 rfl (lv_at hl 1 rfl) ?_
    refine g_M_35 X hb hP m0 rfl d_M_interestOf_30 ?_
    refine lv_aload_n hx hb d_M_interestOf_33 rfl (lv_at hl 1 rfl) ?_
    refine g_M_47 X hb hP m0 rfl d_M_interestOf_34 ?_
    refine lv_iload_n hx hb d_M_interestOf_37 rfl (lv_at hl 2 rfl) ?_
    refine n_iald X hb hP m13 ⟨by omega, by decide⟩ d_M_interestOf_38 ?_
    rw [(hR3 j hj).1]
    refine n_iald X hb hP m9 ⟨by omega, by decide⟩ d_M_interestOf_39 ?_
    rw [(hR2 _ hl9).2.2.1]
    refine lv_istore (lv' := [(6, .int (nI (sLV σ (sDV σ j).1).2.2.1)), (4, .long 0), (0, .ref (ma 0)), (1, .int (nI (j + 1))), (2, .long y)]) hx hb d_M_interestOf_40 hl (by decide) rfl (fun ls hl => ?_)
    refine lv_aload_n hx hb d_M_interestOf_42 rfl (lv_at hl 2 rfl) ?_
    refine g_M_53 X hb hP m0 rfl d_M_interestOf_43 ?_
    refine lv_iload_n hx hb d_M_interestOf_46 rfl (lv_at hl 3 rfl) ?_
    refine n_iald X hb hP m15 ⟨by omega, by decide⟩ d_M_interestOf_47 ?_
    refine lv_i2l hx hb d_M_interestOf_48 rfl ?_
    refine lv_aload_n hx hb d_M_interestOf_49 rfl (lv_at hl 2 rfl) ?_
    refine g_M_19 X hb hP m0 rfl d_M_interestOf_50 ?_
    refine lv_iload hx hb d_M_interestOf_53 (lv_at hl 0 rfl) ?_
    refine n_iald X hb hP m4 ⟨by omega, by decide⟩ d_M_interestOf_55 ?_
    refine lv_i2l hx hb d_M_interestOf_56 rfl ?_
    refine lv_lmul hx hb d_M_interestOf_57 ?_
    refine lv_lload hx hb d_M_interestOf_58 (lv_at hl 1 rfl) ?_
    refine lv_lmul hx hb d_M_interestOf_60 ?_
    refine lv_aload_n hx hb d_M_interestOf_61 rfl (lv_at hl 2 rfl) ?_
    refine g_M_22 X hb hP m0 rfl d_M_interestOf_62 ?_
    refine lv_iload hx hb d_M_interestOf_65 (lv_at hl 0 rfl) ?_
    refine n_iald X hb hP m5 ⟨by omega, by decide⟩ d_M_interestOf_67 ?_
    refine lv_i2l hx hb d_M_interestOf_68 rfl ?_
    refine lv_ldiv hx hb d_M_interestOf_69 (by rw [(hR1 _ hrl).2.2.2.2]; exact dn1_ne0 _) ?_
    obtain ⟨-, -, -, g4, g5⟩ := hR1 _ hrl
    exact h_lret hx hb hr hlocks (Nat.le_of_ble_eq_true rfl) (Nat.le_of_ble_eq_true rfl) hP hS (⟨by rw [(hR3 j hj).2.2.1, g4, g5, nI_l (by have := (hV.2.2.2.1 j hj).2; omega)]; exact int_m (hV.2.1 _ hrl).2.2.2.2.1 (hV.2.1 _ hrl).2.2.2.2.2 (by rw [if_pos (by rw [← (hR3 j hj).2.2.2.2.2]; exact Int64.not_le.mp c_1)]), rfl⟩) d_M_interestOf_70
theorem k_M_152 {p : Program} {l : Launch} {e : Env} {R : Room} {s : State} {m : MethodId} {args : Array Value} {below : List Frame} {meth : Method} {c : Code} {H : Heap} {locs : List Loc} {cells slots : Nat} {Q : State → Prop} {cc : ByteArray} {pc : Nat} {ls : Array Slot} {rest : List Value} {D : va_G} {A : Nat → Prop} {t : Nat → ClassId} {g : hG} {nL : Nat} {ret0 : Option FieldType} {nm : String} (X : Cx p s m args meth c R_M cc nL ret0 TB D vwCl (tyL t) EX A nm) (hR : 0 + 1 ≤ R.frames ∧ 8 + (7 + 11) + 0 ≤ R.locals) (hf : cells + 0 ≤ R.cells ∧ slots + 0 ≤ R.slots) (hls : ls.size = nL) (hP : hw D vwCl A g H) (hS : va_S A s.heap H locs) {ma : Nat → Nat} {tv : Int32} {σ : SS} {j : Nat} {y : Int64} {fs9 : List Value} (he9 : g (ma 0) = some (.inr (6, fs9))) (hMx : RMx t ma tv σ g) (hV : Inv σ) (hj : j < sND σ) (hW : (rest.map fun v => v.category).sum ≤ 8) (hdg : decode cc pc = .ok (.invokevirtual 152, 3)) (kk : ∀ (r : Int64) (H1 : Heap) (locs1 : List Loc), r = intD σ j y → hw D vwCl A (g) H1 → va_S A s.heap H1 locs1 → W p l e R s m args below meth c H1 locs1 (cells + 0) (slots + 0) Q (F0 m (pc + 3) ls (.long r :: rest))) : W p l e R s m args below meth c H locs cells slots Q (F0 m pc ls (.long y :: .int (nI (j + 1)) :: .ref (ma 0) :: rest)) :=
  h_cl (runV (C := R_M) (T := F_M) (N := 26) X (c_M_interestOf l D t A g ma tv σ j y hMx hV hj) (tbm 633 (by decide +kernel)) (tbm 635 (by decide +kernel)) (tbm 18 (by decide +kernel)) (tbm 23 (by decide +kernel)) (tbm 636 (by decide +kernel)) rfl (n := 2) (by decide +kernel) hR hf hP he9 hS hls rfl rfl hW hdg) hS (fun r u H1 locs1 hp hP1 hS1 => kk r H1 locs1 hp.1 (hp.2 ▸ hP1) hS1)

set_option maxHeartbeats 4000000 in
set_option maxRecDepth 100000 in
theorem lp_M_leftOf {p : Program} {l : Launch} {e : Env} {s : State} {m : MethodId} {below : List Frame} {meth : Method} {c : Code} {D : va_G} {t : Nat → ClassId} {A : Nat → Prop} (g : hG) (ma : Nat → Nat) (tv : Int32) (σ : SS) (fm : Nat → Nat → Int32) (fj : Nat → Nat → Int64) (x : Int32) (hM : MC t g ma tv (nI (sNR σ)) (nI (sNL σ)) (nI (sND σ)) (nI (sNC σ)) (sTH σ) fm fj) (hR : MRel fm fj σ) (hV : Inv σ)  (X : Cx p s m ([.ref (ma 0), .int x] : List Value).toArray meth c R_M b_M_leftOf 5 (some .long) TB D vwCl (tyL t) EX A "leftOf") : ∀ (k : Nat) (i : Nat) (b : Int64) (H : Heap) (locs : List Loc) (ls : Array Slot) (_ : i ≤ sND σ) (_ : sND σ + 1 ≤ i + k) (_ : b = sumL σ x i) (_ : hw D vwCl A g H) (_ : va_S A s.heap H locs) (_ : lv_has ls 5 [(4, .int (nI (i + 1))), (2, .long b), (0, .ref (ma 0)), (1, .int x)]), W p l e ({ frames := 1, cells := 0, slots := 0, locals := 21 } : Room) s m ([.ref (ma 0), .int x] : List Value).toArray below meth c H locs 0 0 (MQ below (va_Ql (fun r u => r = sumL σ x (sND σ) ∧ u = g) (fun u v => hw D vwCl A u v.heap) A) ([.ref (ma 0), .int x] : List Value).toArray s 0 0 A) (F0 m 5 ls []) := by
  obtain ⟨hx, hb, hml, hr, hts, hown, hlocks, hK, hEs, hA, hnm⟩ := id X
  intro k
  induction k with
  | zero => exact fun i b H locs ls h1 h2 => absurd h2 (by omega)
  | succ k ih =>
    intro i b H locs ls hi hk hbt hP hS hl
    obtain ⟨hR1, hR2, hR3, hR6, hR20, hR11⟩ := id hR
    have m0 := hM.1
    have hinj := hM.2.2
    have m15 : g (ma 15) = some (arI t 201 (fm 15)) := hM.2.1 15 (by decide) (by decide)
    have hn1 := hV.1.1
    have hn2 := hV.1.2.1
    have hn3 := hV.1.2.2.1
    have hn4 := hV.1.2.2.2
    refine lv_iload hx hb d_M_leftOf_5 (lv_at hl 0 rfl) ?_
    refine lv_aload_n hx hb d_M_leftOf_7 rfl (lv_at hl 2 rfl) ?_
    refine g_M_128 X hb hP m0 rfl d_M_leftOf_8 ?_
    refine lv_icmp_gt (tgt := 45) hx hb d_M_leftOf_11 (by decide) (fun c_1 => ?_) (fun c_1 => ?_)
    · refine lv_lload_n hx hb d_M_leftOf_45 rfl (lv_at hl 1 rfl) ?_
      exact h_lret hx hb hr hlocks (Nat.le_of_ble_eq_true rfl) (Nat.le_of_ble_eq_true rfl) hP hS (⟨by rw [hbt, show i = sND σ from Nat.le_antisymm hi (Nat.le_of_lt_succ ((nI_ltI (by omega) (by omega)).mp c_1))], rfl⟩) d_M_leftOf_46
    · have hlt : i < sND σ := Nat.lt_of_not_le (fun z => c_1 (nI_lt (by omega) (by omega)))
      refine lv_lload_n hx hb d_M_leftOf_14 rfl (lv_at hl 1 rfl) ?_
      refine lv_aload_n hx hb d_M_leftOf_15 rfl (lv_at hl 2 rfl) ?_
      refine lv_iload hx hb d_M_leftOf_16 (lv_at hl 0 rfl) ?_
      refine k_M_135 X ⟨Nat.le_of_ble_eq_true rfl, Nat.le_of_ble_eq_true rfl⟩ ⟨Nat.le_of_ble_eq_true rfl, Nat.le_of_ble_eq_true rfl⟩ hl.1 hP hS m0 ⟨fm, fj, hM, hR⟩ hV hlt (by exact Nat.le_of_ble_eq_true rfl) d_M_leftOf_18 (fun r_2 H locs er_2 hP hS => ?_)
      refine lv_iload_n hx hb d_M_leftOf_21 rfl (lv_at hl 3 rfl) ?_
      refine lv_icmp_ne (tgt := 36) hx hb d_M_leftOf_22 (by decide) (fun c_3 => ?_) (fun c_3 => ?_)
      · refine lv_lconst (v := 0) hx hb d_M_leftOf_36 (by decide) ?_
        refine lv_ladd hx hb d_M_leftOf_37 ?_
        refine lv_topl (fun x_4 ex_4 => ?_)
        refine lv_lstore_n (lv' := [(2, .long x_4), (4, .int (nI (i + 1))), (0, .ref (ma 0)), (1, .int x)]) hx hb d_M_leftOf_38 rfl hl (by decide) rfl (fun ls hl => ?_)
        obtain ⟨x_5, ex_5⟩ : ∃ z : Int32, z = (nI (i + 1)) + 1 := ⟨_, rfl⟩
        refine lv_iinc (v := x_5) (lv' := [(4, .int x_5), (2, .long x_4), (0, .ref (ma 0)), (1, .int x)]) hx hb d_M_leftOf_39 hl (k := 1) rfl (by rw [ex_5]; rfl) (by decide) rfl (fun ls hl => ?_)
        refine lv_goto (tgt := 5) hx hb d_M_leftOf_42 (by decide) ?_
        obtain rfl : x_5 = nI (i + 1 + 1) := by rw [ex_5]; exact nI_1 _
        exact ih (i + 1) x_4 H locs ls (by omega) (by omega) (by rw [ex_4, hbt, sumL, if_neg (by rw [← er_2]; exact c_3)]; simp) hP hS (lv_sub hl [0, 1, 2, 3] rfl)
      · refine lv_aload_n hx hb d_M_leftOf_25 rfl (lv_at hl 2 rfl) ?_
        refine g_M_53 X hb hP m0 rfl d_M_leftOf_26 ?_
        refine lv_iload hx hb d_M_leftOf_29 (lv_at hl 0 rfl) ?_
        refine n_iald X hb hP m15 ⟨by omega, by decide⟩ d_M_leftOf_31 ?_
        refine lv_i2l hx hb d_M_leftOf_32 rfl ?_
        refine lv_goto (tgt := 37) hx hb d_M_leftOf_33 (by decide) ?_
        refine lv_ladd hx hb d_M_leftOf_37 ?_
        refine lv_topl (fun x_6 ex_6 => ?_)
        refine lv_lstore_n (lv' := [(2, .long x_6), (4, .int (nI (i + 1))), (0, .ref (ma 0)), (1, .int x)]) hx hb d_M_leftOf_38 rfl hl (by decide) rfl (fun ls hl => ?_)
        obtain ⟨x_7, ex_7⟩ : ∃ z : Int32, z = (nI (i + 1)) + 1 := ⟨_, rfl⟩
        refine lv_iinc (v := x_7) (lv' := [(4, .int x_7), (2, .long x_6), (0, .ref (ma 0)), (1, .int x)]) hx hb d_M_leftOf_39 hl (k := 1) rfl (by rw [ex_7]; rfl) (by decide) rfl (fun ls hl => ?_)
        refine lv_goto (tgt := 5) hx hb d_M_leftOf_42 (by decide) ?_
        obtain rfl : x_7 = nI (i + 1 + 1) := by rw [ex_7]; exact nI_1 _
        exact ih (i + 1) x_6 H locs ls (by omega) (by omega) (by rw [ex_6, hbt, sumL, if_pos (by rw [← er_2]; exact c_3), (hR3 i hlt).2.2.1, nI_l (by have := (hV.2.2.2.1 i hlt).2; omega)]) hP hS (lv_sub hl [0, 1, 2, 3] rfl)

set_option maxHeartbeats 4000000 in
set_option maxRecDepth 100000 in
theorem c_M_leftOf (l : Launch) (D : va_G) (t : Nat → ClassId) (A : Nat → Prop) (g : hG) (ma : Nat → Nat) (tv : Int32) (σ : SS) (x : Int32) (hMx : RMx t ma tv σ g) (hV : Inv σ) : Met l y_M_leftOf (Cond.code y_M_leftOf b_M_leftOf 5 (some .long) :: TB) ({ frames := 1, cells := 0, slots := 0, locals := 21 } : Room) (va_Pc [.ref (ma 0), .int x] (hI D vwCl (tyL t) EX A g)) (va_Ql (fun r u => r = sumL σ x (sND σ) ∧ u = g) (fun u v => hw D vwCl A u v.heap) A) 0 0 A := by
  refine Met.ofH (cc := b_M_leftOf) (maxL := 5) (ret := (some .long)) (lv := [(0, .ref (ma 0)), (1, .int x)]) (by decide) (Nat.le_of_ble_eq_true rfl) rfl ?_
  intro p e s m below meth c ls X hP hS hl
  obtain ⟨hx, hb, hml, hr, hts, hown, hlocks, hK, hEs, hA, hnm⟩ := id X
  obtain ⟨fm, fj, hM, hR1, hR2, hR3, hR6, hR20, hR11⟩ := id hMx
  have m0 := hM.1
  have hinj := hM.2.2
  have m15 : g (ma 15) = some (arI t 201 (fm 15)) := hM.2.1 15 (by decide) (by decide)
  have hn1 := hV.1.1
  have hn2 := hV.1.2.1
  have hn3 := hV.1.2.2.1
  have hn4 := hV.1.2.2.2
  refine lv_lconst (v := 0) hx hb d_M_leftOf_0 (by decide) ?_
  refine lv_lstore_n (lv' := [(2, .long 0), (0, .ref (ma 0)), (1, .int x)]) hx hb d_M_leftOf_1 rfl hl (by decide) rfl (fun ls hl => ?_)
  refine lv_iconst (v := 1) hx hb d_M_leftOf_2 (by decide) ?_
  refine lv_istore (lv' := [(4, .int 1), (2, .long 0), (0, .ref (ma 0)), (1, .int x)]) hx hb d_M_leftOf_3 hl (by decide) rfl (fun ls hl => ?_)
  exact lp_M_leftOf g ma tv σ fm fj x hM ⟨hR1, hR2, hR3, hR6, hR20, hR11⟩ hV X (sND σ + 1) 0 0 _ _ ls (Nat.zero_le _) (by omega) rfl hP hS (lv_sub hl [0, 1, 2, 3] rfl)
theorem k_M_148 {p : Program} {l : Launch} {e : Env} {R : Room} {s : State} {m : MethodId} {args : Array Value} {below : List Frame} {meth : Method} {c : Code} {H : Heap} {locs : List Loc} {cells slots : Nat} {Q : State → Prop} {cc : ByteArray} {pc : Nat} {ls : Array Slot} {rest : List Value} {D : va_G} {A : Nat → Prop} {t : Nat → ClassId} {g : hG} {nL : Nat} {ret0 : Option FieldType} {nm : String} (X : Cx p s m args meth c R_M cc nL ret0 TB D vwCl (tyL t) EX A nm) (hR : 1 + 1 ≤ R.frames ∧ 8 + (5 + 11) + 21 ≤ R.locals) (hf : cells + 0 ≤ R.cells ∧ slots + 0 ≤ R.slots) (hls : ls.size = nL) (hP : hw D vwCl A g H) (hS : va_S A s.heap H locs) {ma : Nat → Nat} {tv : Int32} {σ : SS} {x : Int32} {fs9 : List Value} (he9 : g (ma 0) = some (.inr (6, fs9))) (hMx : RMx t ma tv σ g) (hV : Inv σ)  (hW : (rest.map fun v => v.category).sum ≤ 8) (hdg : decode cc pc = .ok (.invokevirtual 148, 3)) (kk : ∀ (r : Int64) (H1 : Heap) (locs1 : List Loc), r = sumL σ x (sND σ) → hw D vwCl A (g) H1 → va_S A s.heap H1 locs1 → W p l e R s m args below meth c H1 locs1 (cells + 0) (slots + 0) Q (F0 m (pc + 3) ls (.long r :: rest))) : W p l e R s m args below meth c H locs cells slots Q (F0 m pc ls (.int x :: .ref (ma 0) :: rest)) :=
  h_cl (runV (C := R_M) (T := F_M) (N := 26) X (c_M_leftOf l D t A g ma tv σ x hMx hV) (tbm 629 (by decide +kernel)) (tbm 631 (by decide +kernel)) (tbm 17 (by decide +kernel)) (tbm 23 (by decide +kernel)) (tbm 632 (by decide +kernel)) rfl (n := 1) (by decide +kernel) hR hf hP he9 hS hls rfl rfl hW hdg) hS (fun r u H1 locs1 hp hP1 hS1 => kk r H1 locs1 hp.1 (hp.2 ▸ hP1) hS1)
end
