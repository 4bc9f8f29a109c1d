-- ===== PART A: goes FIRST, ahead of the names: the tables' words, and 'selects' of the private methods out of them =====
/-- a private method of a class that the tables say can be made, by its rows of tables_1 -/
def lw_okq (q : MethodName × Nat) : Prop := (q.1.cls ≠ "java/lang/invoke/MethodHandle" ∧ q.1.cls ≠ "java/lang/invoke/VarHandle") ∧ Cond.instantiable q.1.cls q.2 ∈ tables_1 ∧ Cond.privateMethod q.1 ∈ tables_1 ∧ Cond.instanceMethod q.1 ∈ tables_1
theorem lw_p0 : lw_okq (⟨"FineRows$ClosedDays", "countBetween", "(JJ)I"⟩, 2) := ⟨⟨by decide +kernel, by decide +kernel⟩, List.mem_of_getElem? (i := 45) (by decide +kernel), List.mem_of_getElem? (i := 132) (by decide +kernel), List.mem_of_getElem? (i := 133) (by decide +kernel)⟩
theorem lw_p1 : lw_okq (⟨"FineRows", "ruleNumbered", "(I)LFineRows$Rule;"⟩, 9) := ⟨⟨by decide +kernel, by decide +kernel⟩, List.mem_of_getElem? (i := 14) (by decide +kernel), List.mem_of_getElem? (i := 140) (by decide +kernel), List.mem_of_getElem? (i := 141) (by decide +kernel)⟩
theorem lw_p2 : lw_okq (⟨"FineRows", "lentLoanNumbered", "(I)LFineRows$Loan;"⟩, 9) := ⟨⟨by decide +kernel, by decide +kernel⟩, List.mem_of_getElem? (i := 14) (by decide +kernel), List.mem_of_getElem? (i := 186) (by decide +kernel), List.mem_of_getElem? (i := 187) (by decide +kernel)⟩
theorem lw_p3 : lw_okq (⟨"FineRows", "overdueCents", "(LFineRows$Loan;J)J"⟩, 9) := ⟨⟨by decide +kernel, by decide +kernel⟩, List.mem_of_getElem? (i := 14) (by decide +kernel), List.mem_of_getElem? (i := 195) (by decide +kernel), List.mem_of_getElem? (i := 196) (by decide +kernel)⟩
theorem lw_p4 : lw_okq (⟨"FineRows", "endLoan", "(LFineRows$Loan;)V"⟩, 9) := ⟨⟨by decide +kernel, by decide +kernel⟩, List.mem_of_getElem? (i := 14) (by decide +kernel), List.mem_of_getElem? (i := 218) (by decide +kernel), List.mem_of_getElem? (i := 219) (by decide +kernel)⟩
theorem lw_p5 : lw_okq (⟨"FineRows", "chargeOverdue", "(LFineRows$Loan;JJ)I"⟩, 9) := ⟨⟨by decide +kernel, by decide +kernel⟩, List.mem_of_getElem? (i := 14) (by decide +kernel), List.mem_of_getElem? (i := 222) (by decide +kernel), List.mem_of_getElem? (i := 223) (by decide +kernel)⟩
theorem lw_p6 : lw_okq (⟨"FineRows", "addCredit", "(IJ)V"⟩, 9) := ⟨⟨by decide +kernel, by decide +kernel⟩, List.mem_of_getElem? (i := 14) (by decide +kernel), List.mem_of_getElem? (i := 283) (by decide +kernel), List.mem_of_getElem? (i := 284) (by decide +kernel)⟩
theorem lw_p7 : lw_okq (⟨"FineRows", "balance", "(I)J"⟩, 9) := ⟨⟨by decide +kernel, by decide +kernel⟩, List.mem_of_getElem? (i := 14) (by decide +kernel), List.mem_of_getElem? (i := 309) (by decide +kernel), List.mem_of_getElem? (i := 310) (by decide +kernel)⟩
theorem lw_p8 : lw_okq (⟨"java/lang/Throwable", "fillInStackTrace", "(I)Ljava/lang/Throwable;"⟩, 6) := ⟨⟨by decide +kernel, by decide +kernel⟩, List.mem_of_getElem? (i := 398) (by decide +kernel), List.mem_of_getElem? (i := 396) (by decide +kernel), List.mem_of_getElem? (i := 397) (by decide +kernel)⟩
theorem lw_p9 : lw_okq (⟨"FineRowsModel", "isClosed", "(J)Z"⟩, 26) := ⟨⟨by decide +kernel, by decide +kernel⟩, List.mem_of_getElem? (i := 428) (by decide +kernel), List.mem_of_getElem? (i := 543) (by decide +kernel), List.mem_of_getElem? (i := 544) (by decide +kernel)⟩
theorem lw_p10 : lw_okq (⟨"FineRowsModel", "loanOfItem", "(I)I"⟩, 26) := ⟨⟨by decide +kernel, by decide +kernel⟩, List.mem_of_getElem? (i := 428) (by decide +kernel), List.mem_of_getElem? (i := 553) (by decide +kernel), List.mem_of_getElem? (i := 554) (by decide +kernel)⟩
theorem lw_p11 : lw_okq (⟨"FineRowsModel", "isLent", "(I)Z"⟩, 26) := ⟨⟨by decide +kernel, by decide +kernel⟩, List.mem_of_getElem? (i := 428) (by decide +kernel), List.mem_of_getElem? (i := 561) (by decide +kernel), List.mem_of_getElem? (i := 562) (by decide +kernel)⟩
theorem lw_p12 : lw_okq (⟨"FineRowsModel", "late", "(IJ)J"⟩, 26) := ⟨⟨by decide +kernel, by decide +kernel⟩, List.mem_of_getElem? (i := 428) (by decide +kernel), List.mem_of_getElem? (i := 565) (by decide +kernel), List.mem_of_getElem? (i := 566) (by decide +kernel)⟩
theorem lw_p13 : lw_okq (⟨"FineRowsModel", "comes", "(IIJI)I"⟩, 26) := ⟨⟨by decide +kernel, by decide +kernel⟩, List.mem_of_getElem? (i := 428) (by decide +kernel), List.mem_of_getElem? (i := 574) (by decide +kernel), List.mem_of_getElem? (i := 575) (by decide +kernel)⟩
theorem lw_p14 : lw_okq (⟨"FineRowsModel", "next", "(I)I"⟩, 26) := ⟨⟨by decide +kernel, by decide +kernel⟩, List.mem_of_getElem? (i := 428) (by decide +kernel), List.mem_of_getElem? (i := 590) (by decide +kernel), List.mem_of_getElem? (i := 591) (by decide +kernel)⟩
theorem lw_p15 : lw_okq (⟨"FineRowsModel", "personOf", "(I)I"⟩, 26) := ⟨⟨by decide +kernel, by decide +kernel⟩, List.mem_of_getElem? (i := 428) (by decide +kernel), List.mem_of_getElem? (i := 594) (by decide +kernel), List.mem_of_getElem? (i := 595) (by decide +kernel)⟩
def lw_privs_1 : List (MethodName × Nat) := [(⟨"FineRows$ClosedDays", "countBetween", "(JJ)I"⟩, 2), (⟨"FineRows", "ruleNumbered", "(I)LFineRows$Rule;"⟩, 9), (⟨"FineRows", "lentLoanNumbered", "(I)LFineRows$Loan;"⟩, 9), (⟨"FineRows", "overdueCents", "(LFineRows$Loan;J)J"⟩, 9), (⟨"FineRows", "endLoan", "(LFineRows$Loan;)V"⟩, 9), (⟨"FineRows", "chargeOverdue", "(LFineRows$Loan;JJ)I"⟩, 9), (⟨"FineRows", "addCredit", "(IJ)V"⟩, 9), (⟨"FineRows", "balance", "(I)J"⟩, 9), (⟨"java/lang/Throwable", "fillInStackTrace", "(I)Ljava/lang/Throwable;"⟩, 6), (⟨"FineRowsModel", "isClosed", "(J)Z"⟩, 26), (⟨"FineRowsModel", "loanOfItem", "(I)I"⟩, 26), (⟨"FineRowsModel", "isLent", "(I)Z"⟩, 26), (⟨"FineRowsModel", "late", "(IJ)J"⟩, 26), (⟨"FineRowsModel", "comes", "(IIJI)I"⟩, 26), (⟨"FineRowsModel", "next", "(I)I"⟩, 26), (⟨"FineRowsModel", "personOf", "(I)I"⟩, 26)]
theorem lw_r1 : ∀ q ∈ lw_privs_1, lw_okq q := List.forall_mem_cons.mpr ⟨lw_p0, List.forall_mem_cons.mpr ⟨lw_p1, List.forall_mem_cons.mpr ⟨lw_p2, List.forall_mem_cons.mpr ⟨lw_p3, List.forall_mem_cons.mpr ⟨lw_p4, List.forall_mem_cons.mpr ⟨lw_p5, List.forall_mem_cons.mpr ⟨lw_p6, List.forall_mem_cons.mpr ⟨lw_p7, List.forall_mem_cons.mpr ⟨lw_p8, List.forall_mem_cons.mpr ⟨lw_p9, List.forall_mem_cons.mpr ⟨lw_p10, List.forall_mem_cons.mpr ⟨lw_p11, List.forall_mem_cons.mpr ⟨lw_p12, List.forall_mem_cons.mpr ⟨lw_p13, List.forall_mem_cons.mpr ⟨lw_p14, List.forall_mem_cons.mpr ⟨lw_p15, fun _ h => absurd h List.not_mem_nil⟩⟩⟩⟩⟩⟩⟩⟩⟩⟩⟩⟩⟩⟩⟩⟩
theorem lw_p16 : lw_okq (⟨"FineRowsModel", "isDebt", "(I)Z"⟩, 26) := ⟨⟨by decide +kernel, by decide +kernel⟩, List.mem_of_getElem? (i := 428) (by decide +kernel), List.mem_of_getElem? (i := 602) (by decide +kernel), List.mem_of_getElem? (i := 603) (by decide +kernel)⟩
theorem lw_p17 : lw_okq (⟨"FineRowsModel", "leftOf", "(I)J"⟩, 26) := ⟨⟨by decide +kernel, by decide +kernel⟩, List.mem_of_getElem? (i := 428) (by decide +kernel), List.mem_of_getElem? (i := 611) (by decide +kernel), List.mem_of_getElem? (i := 612) (by decide +kernel)⟩
theorem lw_p18 : lw_okq (⟨"FineRowsModel", "interestOf", "(IJ)J"⟩, 26) := ⟨⟨by decide +kernel, by decide +kernel⟩, List.mem_of_getElem? (i := 428) (by decide +kernel), List.mem_of_getElem? (i := 615) (by decide +kernel), List.mem_of_getElem? (i := 616) (by decide +kernel)⟩
def lw_privs_2 : List (MethodName × Nat) := [(⟨"FineRowsModel", "isDebt", "(I)Z"⟩, 26), (⟨"FineRowsModel", "leftOf", "(I)J"⟩, 26), (⟨"FineRowsModel", "interestOf", "(IJ)J"⟩, 26)]
theorem lw_r2 : ∀ q ∈ lw_privs_2, lw_okq q := List.forall_mem_cons.mpr ⟨lw_p16, List.forall_mem_cons.mpr ⟨lw_p17, List.forall_mem_cons.mpr ⟨lw_p18, fun _ h => absurd h List.not_mem_nil⟩⟩⟩
def lw_privs : List (MethodName × Nat) := lw_privs_1 ++ (lw_privs_2)
def lw_tbl : List Cond := k2_sels lw_privs ++ tables_1
theorem lw_privs_ok : ∀ q ∈ lw_privs, lw_okq q := by
  show ∀ q ∈ lw_privs_1 ++ (lw_privs_2), lw_okq q
  exact List.forall_mem_append.mpr ⟨lw_r1, lw_r2⟩
/-- the words that stay while classes are warmed -/
def TB : List Cond := lw_tbl.filter goodWord
theorem tbm {w : Cond} (k : Nat) (h : lw_tbl[k]? = some w ∧ goodWord w = true) : w ∈ TB := List.mem_filter.mpr ⟨List.mem_of_getElem? h.1, h.2⟩
theorem tb_good : ∀ w ∈ TB, ((w.onTables && w.keeps) = true ∨ ∃ ty, w = .arrayClass ty) := fun w h => good_of_word (List.mem_filter.mp h).2
theorem tb_in : ∀ w ∈ TB, w ∈ lw_tbl := fun w h => (List.mem_filter.mp h).1
def R_F : String := "FineRows"
def F_F : u_T := fun k => match k with
  | 0 => ("FineRows", "rules", "[LFineRows$Rule;", true)
  | 1 => ("FineRows", "ruleCount", "I", false)
  | 2 => ("FineRows", "loans", "[LFineRows$Loan;", true)
  | 3 => ("FineRows", "loanCount", "I", false)
  | 4 => ("FineRows", "loanOfItem", "[LFineRows$Loan;", true)
  | 5 => ("FineRows", "debts", "LFineRows$DebtRows;", true)
  | 6 => ("FineRows", "closedDays", "LFineRows$ClosedDays;", true)
  | 7 => ("FineRows", "credits", "[J", true)
  | _ => ("FineRows", "blockCents", "I", false)
def t_F : Nat → FieldType := fun k => match k with
  | 0 => .array (.object "FineRows$Rule")
  | 1 => .int
  | 2 => .array (.object "FineRows$Loan")
  | 3 => .int
  | 4 => .array (.object "FineRows$Loan")
  | 5 => .object "FineRows$DebtRows"
  | 6 => .object "FineRows$ClosedDays"
  | 7 => .array .long
  | _ => .int
theorem n_F : ∀ a, a < 9 → ∀ b, b < 9 → a ≠ b → (F_F a).2.1 ≠ (F_F b).2.1 := by decide +kernel
theorem t_F_ok : ∀ k, k < 9 → parseFieldDescriptor (F_F k).2.2.1 = some (t_F k) := by decide +kernel
theorem i_F : ∀ w ∈ u_ws R_F F_F 9, w ∈ TB := fun w h => List.mem_filter.mpr (by
  have h1 : u_ws R_F F_F 9 = ([87, 89, 91, 93, 95, 97, 99, 101, 103] : List Nat).filterMap (fun i => lw_tbl[i]?) := by decide +kernel
  have h2 : (u_ws R_F F_F 9).all goodWord = true := by decide +kernel
  refine ⟨?_, List.all_eq_true.mp h2 w h⟩
  rw [h1] at h
  obtain ⟨i, -, hi⟩ := List.mem_filterMap.mp h
  exact List.mem_of_getElem? hi)
def R_C : String := "FineRows$ClosedDays"
def F_C : u_T := fun k => match k with
  | 0 => ("FineRows$ClosedDays", "days", "[J", true)
  | _ => ("FineRows$ClosedDays", "count", "I", false)
def t_C : Nat → FieldType := fun k => match k with
  | 0 => .array .long
  | _ => .int
theorem n_C : ∀ a, a < 2 → ∀ b, b < 2 → a ≠ b → (F_C a).2.1 ≠ (F_C b).2.1 := by decide +kernel
theorem t_C_ok : ∀ k, k < 2 → parseFieldDescriptor (F_C k).2.2.1 = some (t_C k) := by decide +kernel
theorem i_C : ∀ w ∈ u_ws R_C F_C 2, w ∈ TB := fun w h => List.mem_filter.mpr (by
  have h1 : u_ws R_C F_C 2 = ([72, 74] : List Nat).filterMap (fun i => lw_tbl[i]?) := by decide +kernel
  have h2 : (u_ws R_C F_C 2).all goodWord = true := by decide +kernel
  refine ⟨?_, List.all_eq_true.mp h2 w h⟩
  rw [h1] at h
  obtain ⟨i, -, hi⟩ := List.mem_filterMap.mp h
  exact List.mem_of_getElem? hi)
def R_D : String := "FineRows$Debt"
def F_D : u_T := fun k => match k with
  | 0 => ("FineRows$Debt", "person", "I", true)
  | 1 => ("FineRows$Debt", "rule", "LFineRows$Rule;", true)
  | 2 => ("FineRows$Debt", "sort", "I", true)
  | 3 => ("FineRows$Debt", "amount", "J", true)
  | 4 => ("FineRows$Debt", "day", "J", true)
  | 5 => ("FineRows$Debt", "left", "J", false)
  | _ => ("FineRows$Debt", "paid", "J", false)
def t_D : Nat → FieldType := fun k => match k with
  | 0 => .int
  | 1 => .object "FineRows$Rule"
  | 2 => .int
  | 3 => .long
  | 4 => .long
  | 5 => .long
  | _ => .long
theorem n_D : ∀ a, a < 7 → ∀ b, b < 7 → a ≠ b → (F_D a).2.1 ≠ (F_D b).2.1 := by decide +kernel
theorem t_D_ok : ∀ k, k < 7 → parseFieldDescriptor (F_D k).2.2.1 = some (t_D k) := by decide +kernel
theorem i_D : ∀ w ∈ u_ws R_D F_D 7, w ∈ TB := fun w h => List.mem_filter.mpr (by
  have h1 : u_ws R_D F_D 7 = ([270, 272, 274, 276, 278, 280, 282] : List Nat).filterMap (fun i => lw_tbl[i]?) := by decide +kernel
  have h2 : (u_ws R_D F_D 7).all goodWord = true := by decide +kernel
  refine ⟨?_, List.all_eq_true.mp h2 w h⟩
  rw [h1] at h
  obtain ⟨i, -, hi⟩ := List.mem_filterMap.mp h
  exact List.mem_of_getElem? hi)
def R_B : String := "FineRows$DebtRows"
def F_B : u_T := fun k => match k with
  | 0 => ("FineRows$DebtRows", "byNumber", "[LFineRows$Debt;", true)
  | 1 => ("FineRows$DebtRows", "byDay", "[LFineRows$Debt;", true)
  | _ => ("FineRows$DebtRows", "count", "I", false)
def t_B : Nat → FieldType := fun k => match k with
  | 0 => .array (.object "FineRows$Debt")
  | 1 => .array (.object "FineRows$Debt")
  | _ => .int
theorem n_B : ∀ a, a < 3 → ∀ b, b < 3 → a ≠ b → (F_B a).2.1 ≠ (F_B b).2.1 := by decide +kernel
theorem t_B_ok : ∀ k, k < 3 → parseFieldDescriptor (F_B k).2.2.1 = some (t_B k) := by decide +kernel
theorem i_B : ∀ w ∈ u_ws R_B F_B 3, w ∈ TB := fun w h => List.mem_filter.mpr (by
  have h1 : u_ws R_B F_B 3 = ([56, 58, 60] : List Nat).filterMap (fun i => lw_tbl[i]?) := by decide +kernel
  have h2 : (u_ws R_B F_B 3).all goodWord = true := by decide +kernel
  refine ⟨?_, List.all_eq_true.mp h2 w h⟩
  rw [h1] at h
  obtain ⟨i, -, hi⟩ := List.mem_filterMap.mp h
  exact List.mem_of_getElem? hi)
def R_L : String := "FineRows$Loan"
def F_L : u_T := fun k => match k with
  | 0 => ("FineRows$Loan", "item", "I", true)
  | 1 => ("FineRows$Loan", "person", "I", true)
  | 2 => ("FineRows$Loan", "rule", "LFineRows$Rule;", true)
  | 3 => ("FineRows$Loan", "due", "J", true)
  | 4 => ("FineRows$Loan", "loss", "LFineRows$Debt;", false)
  | _ => ("FineRows$Loan", "ended", "Z", false)
def t_L : Nat → FieldType := fun k => match k with
  | 0 => .int
  | 1 => .int
  | 2 => .object "FineRows$Rule"
  | 3 => .long
  | 4 => .object "FineRows$Debt"
  | _ => .boolean
theorem n_L : ∀ a, a < 6 → ∀ b, b < 6 → a ≠ b → (F_L a).2.1 ≠ (F_L b).2.1 := by decide +kernel
theorem t_L_ok : ∀ k, k < 6 → parseFieldDescriptor (F_L k).2.2.1 = some (t_L k) := by decide +kernel
theorem i_L : ∀ w ∈ u_ws R_L F_L 6, w ∈ TB := fun w h => List.mem_filter.mpr (by
  have h1 : u_ws R_L F_L 6 = ([187, 189, 191, 193, 195, 197] : List Nat).filterMap (fun i => lw_tbl[i]?) := by decide +kernel
  have h2 : (u_ws R_L F_L 6).all goodWord = true := by decide +kernel
  refine ⟨?_, List.all_eq_true.mp h2 w h⟩
  rw [h1] at h
  obtain ⟨i, -, hi⟩ := List.mem_filterMap.mp h
  exact List.mem_of_getElem? hi)
def R_R : String := "FineRows$Rule"
def F_R : u_T := fun k => match k with
  | 0 => ("FineRows$Rule", "cents", "I", true)
  | 1 => ("FineRows$Rule", "cap", "I", true)
  | 2 => ("FineRows$Rule", "grace", "I", true)
  | 3 => ("FineRows$Rule", "up", "I", false)
  | _ => ("FineRows$Rule", "down", "I", false)
def t_R : Nat → FieldType := fun k => match k with
  | 0 => .int
  | 1 => .int
  | 2 => .int
  | 3 => .int
  | _ => .int
theorem n_R : ∀ a, a < 5 → ∀ b, b < 5 → a ≠ b → (F_R a).2.1 ≠ (F_R b).2.1 := by decide +kernel
theorem t_R_ok : ∀ k, k < 5 → parseFieldDescriptor (F_R k).2.2.1 = some (t_R k) := by decide +kernel
theorem i_R : ∀ w ∈ u_ws R_R F_R 5, w ∈ TB := fun w h => List.mem_filter.mpr (by
  have h1 : u_ws R_R F_R 5 = ([127, 129, 131, 133, 135] : List Nat).filterMap (fun i => lw_tbl[i]?) := by decide +kernel
  have h2 : (u_ws R_R F_R 5).all goodWord = true := by decide +kernel
  refine ⟨?_, List.all_eq_true.mp h2 w h⟩
  rw [h1] at h
  obtain ⟨i, -, hi⟩ := List.mem_filterMap.mp h
  exact List.mem_of_getElem? hi)
def R_M : String := "FineRowsModel"
def F_M : u_T := fun k => match k with
  | 0 => ("FineRowsModel", "thrown", "I", false)
  | 1 => ("FineRowsModel", "rules", "I", false)
  | 2 => ("FineRowsModel", "loans", "I", false)
  | 3 => ("FineRowsModel", "debts", "I", false)
  | 4 => ("FineRowsModel", "closed", "I", false)
  | 5 => ("FineRowsModel", "cents", "[I", true)
  | 6 => ("FineRowsModel", "cap", "[I", true)
  | 7 => ("FineRowsModel", "grace", "[I", true)
  | 8 => ("FineRowsModel", "up", "[I", true)
  | 9 => ("FineRowsModel", "down", "[I", true)
  | 10 => ("FineRowsModel", "closedDays", "[J", true)
  | 11 => ("FineRowsModel", "item", "[I", true)
  | 12 => ("FineRowsModel", "person", "[I", true)
  | 13 => ("FineRowsModel", "ruleOf", "[I", true)
  | 14 => ("FineRowsModel", "state", "[I", true)
  | 15 => ("FineRowsModel", "loss", "[I", true)
  | 16 => ("FineRowsModel", "due", "[J", true)
  | 17 => ("FineRowsModel", "loanOf", "[I", true)
  | 18 => ("FineRowsModel", "amount", "[I", true)
  | 19 => ("FineRowsModel", "left", "[I", true)
  | 20 => ("FineRowsModel", "paid", "[I", true)
  | 21 => ("FineRowsModel", "sort", "[I", true)
  | 22 => ("FineRowsModel", "came", "[J", true)
  | 23 => ("FineRowsModel", "served", "[Z", true)
  | 24 => ("FineRowsModel", "credit", "[J", true)
  | _ => ("FineRowsModel", "threshold", "I", false)
def t_M : Nat → FieldType := fun k => match k with
  | 0 => .int
  | 1 => .int
  | 2 => .int
  | 3 => .int
  | 4 => .int
  | 5 => .array .int
  | 6 => .array .int
  | 7 => .array .int
  | 8 => .array .int
  | 9 => .array .int
  | 10 => .array .long
  | 11 => .array .int
  | 12 => .array .int
  | 13 => .array .int
  | 14 => .array .int
  | 15 => .array .int
  | 16 => .array .long
  | 17 => .array .int
  | 18 => .array .int
  | 19 => .array .int
  | 20 => .array .int
  | 21 => .array .int
  | 22 => .array .long
  | 23 => .array .boolean
  | 24 => .array .long
  | _ => .int
theorem n_M : ∀ a, a < 26 → ∀ b, b < 26 → a ≠ b → (F_M a).2.1 ≠ (F_M b).2.1 := by decide +kernel
theorem t_M_ok : ∀ k, k < 26 → parseFieldDescriptor (F_M k).2.2.1 = some (t_M k) := by decide +kernel
theorem i_M : ∀ w ∈ u_ws R_M F_M 26, w ∈ TB := fun w h => List.mem_filter.mpr (by
  have h1 : u_ws R_M F_M 26 = ([478, 480, 482, 484, 486, 488, 490, 492, 494, 496, 498, 500, 502, 504, 506, 508, 510, 512, 514, 516, 518, 520, 522, 524, 526, 528] : List Nat).filterMap (fun i => lw_tbl[i]?) := by decide +kernel
  have h2 : (u_ws R_M F_M 26).all goodWord = true := by decide +kernel
  refine ⟨?_, List.all_eq_true.mp h2 w h⟩
  rw [h1] at h
  obtain ⟨i, -, hi⟩ := List.mem_filterMap.mp h
  exact List.mem_of_getElem? hi)
def R_W : String := "FineRowsLaw"
abbrev vwCl : List vw_C := [(R_F, F_F, 9), (R_C, F_C, 2), (R_D, F_D, 7), (R_B, F_B, 3), (R_L, F_L, 6), (R_R, F_R, 5), (R_M, F_M, 26)]
abbrev b_F_init : ByteArray := prog_1_method_1_code
def y_F_init : MethodName := ⟨R_F, "<init>", "()V"⟩
abbrev b_F_rule : ByteArray := prog_1_method_2_code
def y_F_rule : MethodName := ⟨R_F, "rule", "(III)I"⟩
abbrev b_F_interest : ByteArray := prog_1_method_3_code
def y_F_interest : MethodName := ⟨R_F, "interest", "(III)I"⟩
abbrev b_F_closed : ByteArray := prog_1_method_4_code
def y_F_closed : MethodName := ⟨R_F, "closed", "(J)I"⟩
abbrev b_F_loan : ByteArray := prog_1_method_5_code
def y_F_loan : MethodName := ⟨R_F, "loan", "(IIIJ)I"⟩
abbrev b_F_overdue : ByteArray := prog_1_method_6_code
def y_F_overdue : MethodName := ⟨R_F, "overdue", "(IJ)J"⟩
abbrev b_F_back : ByteArray := prog_1_method_7_code
def y_F_back : MethodName := ⟨R_F, "back", "(IJ)I"⟩
abbrev b_F_lost : ByteArray := prog_1_method_8_code
def y_F_lost : MethodName := ⟨R_F, "lost", "(IIJ)I"⟩
abbrev b_F_found : ByteArray := prog_1_method_9_code
def y_F_found : MethodName := ⟨R_F, "found", "(IJ)J"⟩
abbrev b_F_pay : ByteArray := prog_1_method_10_code
def y_F_pay : MethodName := ⟨R_F, "pay", "(II)I"⟩
abbrev b_F_waive : ByteArray := prog_1_method_11_code
def y_F_waive : MethodName := ⟨R_F, "waive", "(II)J"⟩
abbrev b_F_owes : ByteArray := prog_1_method_12_code
def y_F_owes : MethodName := ⟨R_F, "owes", "(IJ)J"⟩
abbrev b_F_plan : ByteArray := prog_1_method_13_code
def y_F_plan : MethodName := ⟨R_F, "plan", "(III)J"⟩
abbrev b_F_threshold : ByteArray := prog_1_method_14_code
def y_F_threshold : MethodName := ⟨R_F, "threshold", "(I)I"⟩
abbrev b_F_blocked : ByteArray := prog_1_method_15_code
def y_F_blocked : MethodName := ⟨R_F, "blocked", "(I)Z"⟩
abbrev b_F_debt : ByteArray := prog_1_method_16_code
def y_F_debt : MethodName := ⟨R_F, "debt", "(II)J"⟩
abbrev b_F_share : ByteArray := prog_1_method_17_code
def y_F_share : MethodName := ⟨R_F, "share", "(III)J"⟩
abbrev b_F_isWithin : ByteArray := prog_1_method_18_code
def y_F_isWithin : MethodName := ⟨R_F, "isWithin", "(III)Z"⟩
abbrev b_F_isDay : ByteArray := prog_1_method_19_code
def y_F_isDay : MethodName := ⟨R_F, "isDay", "(J)Z"⟩
abbrev b_F_isPerson : ByteArray := prog_1_method_20_code
def y_F_isPerson : MethodName := ⟨R_F, "isPerson", "(I)Z"⟩
abbrev b_F_isItem : ByteArray := prog_1_method_21_code
def y_F_isItem : MethodName := ⟨R_F, "isItem", "(I)Z"⟩
abbrev b_F_ruleNumbered : ByteArray := prog_1_method_22_code
def y_F_ruleNumbered : MethodName := ⟨R_F, "ruleNumbered", "(I)LFineRows$Rule;"⟩
abbrev b_F_lentLoanNumbered : ByteArray := prog_1_method_23_code
def y_F_lentLoanNumbered : MethodName := ⟨R_F, "lentLoanNumbered", "(I)LFineRows$Loan;"⟩
abbrev b_F_overdueCents : ByteArray := prog_1_method_24_code
def y_F_overdueCents : MethodName := ⟨R_F, "overdueCents", "(LFineRows$Loan;J)J"⟩
abbrev b_F_endLoan : ByteArray := prog_1_method_25_code
def y_F_endLoan : MethodName := ⟨R_F, "endLoan", "(LFineRows$Loan;)V"⟩
abbrev b_F_chargeOverdue : ByteArray := prog_1_method_26_code
def y_F_chargeOverdue : MethodName := ⟨R_F, "chargeOverdue", "(LFineRows$Loan;JJ)I"⟩
abbrev b_F_addCredit : ByteArray := prog_1_method_27_code
def y_F_addCredit : MethodName := ⟨R_F, "addCredit", "(IJ)V"⟩
abbrev b_F_balance : ByteArray := prog_1_method_28_code
def y_F_balance : MethodName := ⟨R_F, "balance", "(I)J"⟩
abbrev b_C_init : ByteArray := prog_2_method_1_code
def y_C_init : MethodName := ⟨R_C, "<init>", "()V"⟩
abbrev b_C_add : ByteArray := prog_2_method_2_code
def y_C_add : MethodName := ⟨R_C, "add", "(J)Z"⟩
abbrev b_C_countBetween : ByteArray := prog_2_method_3_code
def y_C_countBetween : MethodName := ⟨R_C, "countBetween", "(JJ)I"⟩
abbrev b_C_openDays : ByteArray := prog_2_method_4_code
def y_C_openDays : MethodName := ⟨R_C, "openDays", "(JJ)J"⟩
abbrev b_D_init : ByteArray := prog_3_method_1_code
def y_D_init : MethodName := ⟨R_D, "<init>", "(LFineRows$Loan;IJJ)V"⟩
abbrev b_D_take : ByteArray := prog_3_method_2_code
def y_D_take : MethodName := ⟨R_D, "take", "(J)J"⟩
abbrev b_D_interestAt : ByteArray := prog_3_method_3_code
def y_D_interestAt : MethodName := ⟨R_D, "interestAt", "(J)J"⟩
abbrev b_B_init : ByteArray := prog_4_method_1_code
def y_B_init : MethodName := ⟨R_B, "<init>", "()V"⟩
abbrev b_B_isFull : ByteArray := prog_4_method_2_code
def y_B_isFull : MethodName := ⟨R_B, "isFull", "()Z"⟩
abbrev b_B_numbered : ByteArray := prog_4_method_3_code
def y_B_numbered : MethodName := ⟨R_B, "numbered", "(I)LFineRows$Debt;"⟩
abbrev b_B_inOrder : ByteArray := prog_4_method_4_code
def y_B_inOrder : MethodName := ⟨R_B, "inOrder", "(I)LFineRows$Debt;"⟩
abbrev b_B_add : ByteArray := prog_4_method_5_code
def y_B_add : MethodName := ⟨R_B, "add", "(LFineRows$Loan;IJJ)I"⟩
abbrev b_B_cameBehind : ByteArray := prog_4_method_6_code
def y_B_cameBehind : MethodName := ⟨R_B, "cameBehind", "(LFineRows$Debt;J)Z"⟩
abbrev b_B_leftOf : ByteArray := prog_4_method_7_code
def y_B_leftOf : MethodName := ⟨R_B, "leftOf", "(I)J"⟩
abbrev b_B_interestOf : ByteArray := prog_4_method_8_code
def y_B_interestOf : MethodName := ⟨R_B, "interestOf", "(IJ)J"⟩
abbrev b_L_init : ByteArray := prog_5_method_1_code
def y_L_init : MethodName := ⟨R_L, "<init>", "(IILFineRows$Rule;J)V"⟩
abbrev b_L_isLent : ByteArray := prog_5_method_2_code
def y_L_isLent : MethodName := ⟨R_L, "isLent", "()Z"⟩
abbrev b_R_init : ByteArray := prog_6_method_1_code
def y_R_init : MethodName := ⟨R_R, "<init>", "(III)V"⟩
abbrev b_R_centsFor : ByteArray := prog_6_method_2_code
def y_R_centsFor : MethodName := ⟨R_R, "centsFor", "(J)J"⟩
abbrev b_R_interestFor : ByteArray := prog_6_method_3_code
def y_R_interestFor : MethodName := ⟨R_R, "interestFor", "(JJ)J"⟩
abbrev b_M_init : ByteArray := prog_8_method_1_code
def y_M_init : MethodName := ⟨R_M, "<init>", "()V"⟩
abbrev b_M_thrown : ByteArray := prog_8_method_2_code
def y_M_thrown : MethodName := ⟨R_M, "thrown", "()I"⟩
abbrev b_M_in : ByteArray := prog_8_method_3_code
def y_M_in : MethodName := ⟨R_M, "in", "(JJJ)Z"⟩
abbrev b_M_isDay : ByteArray := prog_8_method_4_code
def y_M_isDay : MethodName := ⟨R_M, "isDay", "(J)Z"⟩
abbrev b_M_rule : ByteArray := prog_8_method_5_code
def y_M_rule : MethodName := ⟨R_M, "rule", "(III)I"⟩
abbrev b_M_interest : ByteArray := prog_8_method_6_code
def y_M_interest : MethodName := ⟨R_M, "interest", "(III)I"⟩
abbrev b_M_isClosed : ByteArray := prog_8_method_7_code
def y_M_isClosed : MethodName := ⟨R_M, "isClosed", "(J)Z"⟩
abbrev b_M_closed : ByteArray := prog_8_method_8_code
def y_M_closed : MethodName := ⟨R_M, "closed", "(J)I"⟩
abbrev b_M_loanOfItem : ByteArray := prog_8_method_9_code
def y_M_loanOfItem : MethodName := ⟨R_M, "loanOfItem", "(I)I"⟩
abbrev b_M_loan : ByteArray := prog_8_method_10_code
def y_M_loan : MethodName := ⟨R_M, "loan", "(IIIJ)I"⟩
abbrev b_M_isLent : ByteArray := prog_8_method_11_code
def y_M_isLent : MethodName := ⟨R_M, "isLent", "(I)Z"⟩
abbrev b_M_late : ByteArray := prog_8_method_12_code
def y_M_late : MethodName := ⟨R_M, "late", "(IJ)J"⟩
abbrev b_M_overdue : ByteArray := prog_8_method_13_code
def y_M_overdue : MethodName := ⟨R_M, "overdue", "(IJ)J"⟩
abbrev b_M_comes : ByteArray := prog_8_method_14_code
def y_M_comes : MethodName := ⟨R_M, "comes", "(IIJI)I"⟩
abbrev b_M_back : ByteArray := prog_8_method_15_code
def y_M_back : MethodName := ⟨R_M, "back", "(IJ)I"⟩
abbrev b_M_lost : ByteArray := prog_8_method_16_code
def y_M_lost : MethodName := ⟨R_M, "lost", "(IIJ)I"⟩
abbrev b_M_found : ByteArray := prog_8_method_17_code
def y_M_found : MethodName := ⟨R_M, "found", "(IJ)J"⟩
abbrev b_M_personOf : ByteArray := prog_8_method_18_code
def y_M_personOf : MethodName := ⟨R_M, "personOf", "(I)I"⟩
abbrev b_M_next : ByteArray := prog_8_method_19_code
def y_M_next : MethodName := ⟨R_M, "next", "(I)I"⟩
abbrev b_M_pay : ByteArray := prog_8_method_20_code
def y_M_pay : MethodName := ⟨R_M, "pay", "(II)I"⟩
abbrev b_M_isDebt : ByteArray := prog_8_method_21_code
def y_M_isDebt : MethodName := ⟨R_M, "isDebt", "(I)Z"⟩
abbrev b_M_waive : ByteArray := prog_8_method_22_code
def y_M_waive : MethodName := ⟨R_M, "waive", "(II)J"⟩
abbrev b_M_interestOf : ByteArray := prog_8_method_23_code
def y_M_interestOf : MethodName := ⟨R_M, "interestOf", "(IJ)J"⟩
abbrev b_M_leftOf : ByteArray := prog_8_method_24_code
def y_M_leftOf : MethodName := ⟨R_M, "leftOf", "(I)J"⟩
abbrev b_M_owes : ByteArray := prog_8_method_25_code
def y_M_owes : MethodName := ⟨R_M, "owes", "(IJ)J"⟩
abbrev b_M_plan : ByteArray := prog_8_method_26_code
def y_M_plan : MethodName := ⟨R_M, "plan", "(III)J"⟩
abbrev b_M_threshold : ByteArray := prog_8_method_27_code
def y_M_threshold : MethodName := ⟨R_M, "threshold", "(I)I"⟩
abbrev b_M_blocked : ByteArray := prog_8_method_28_code
def y_M_blocked : MethodName := ⟨R_M, "blocked", "(I)Z"⟩
abbrev b_M_debt : ByteArray := prog_8_method_29_code
def y_M_debt : MethodName := ⟨R_M, "debt", "(II)J"⟩
abbrev b_M_share : ByteArray := prog_8_method_30_code
def y_M_share : MethodName := ⟨R_M, "share", "(III)J"⟩
abbrev b_W_interest : ByteArray := method_3_code
def y_W_interest : MethodName := ⟨R_W, "interest", "(LFineRows;III[J)I"⟩
abbrev b_W_law : ByteArray := code
def y_W_law : MethodName := ⟨R_W, "law", "([I)Z"⟩
