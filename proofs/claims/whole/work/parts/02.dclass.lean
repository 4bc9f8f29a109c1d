theorem d_F_init_0 : decode b_F_init 0 = .ok (.aload_n 0, 1) := by decide +kernel
theorem d_F_init_1 : decode b_F_init 1 = .ok (.invokespecial 3, 3) := by decide +kernel
theorem d_F_init_4 : decode b_F_init 4 = .ok (.aload_n 0, 1) := by decide +kernel
theorem d_F_init_5 : decode b_F_init 5 = .ok (.bipush 10, 2) := by decide +kernel
theorem d_F_init_7 : decode b_F_init 7 = .ok (.anewarray 9, 3) := by decide +kernel
theorem d_F_init_10 : decode b_F_init 10 = .ok (.putfield 11, 3) := by decide +kernel
theorem d_F_init_13 : decode b_F_init 13 = .ok (.aload_n 0, 1) := by decide +kernel
theorem d_F_init_14 : decode b_F_init 14 = .ok (.bipush 120, 2) := by decide +kernel
theorem d_F_init_16 : decode b_F_init 16 = .ok (.anewarray 15, 3) := by decide +kernel
theorem d_F_init_19 : decode b_F_init 19 = .ok (.putfield 17, 3) := by decide +kernel
theorem d_F_init_22 : decode b_F_init 22 = .ok (.aload_n 0, 1) := by decide +kernel
theorem d_F_init_23 : decode b_F_init 23 = .ok (.bipush 60, 2) := by decide +kernel
theorem d_F_init_25 : decode b_F_init 25 = .ok (.anewarray 15, 3) := by decide +kernel
theorem d_F_init_28 : decode b_F_init 28 = .ok (.putfield 21, 3) := by decide +kernel
theorem d_F_init_31 : decode b_F_init 31 = .ok (.aload_n 0, 1) := by decide +kernel
theorem d_F_init_32 : decode b_F_init 32 = .ok (.new 24, 3) := by decide +kernel
theorem d_F_init_35 : decode b_F_init 35 = .ok (.dup, 1) := by decide +kernel
theorem d_F_init_36 : decode b_F_init 36 = .ok (.invokespecial 26, 3) := by decide +kernel
theorem d_F_init_39 : decode b_F_init 39 = .ok (.putfield 27, 3) := by decide +kernel
theorem d_F_init_42 : decode b_F_init 42 = .ok (.aload_n 0, 1) := by decide +kernel
theorem d_F_init_43 : decode b_F_init 43 = .ok (.new 31, 3) := by decide +kernel
theorem d_F_init_46 : decode b_F_init 46 = .ok (.dup, 1) := by decide +kernel
theorem d_F_init_47 : decode b_F_init 47 = .ok (.invokespecial 33, 3) := by decide +kernel
theorem d_F_init_50 : decode b_F_init 50 = .ok (.putfield 34, 3) := by decide +kernel
theorem d_F_init_53 : decode b_F_init 53 = .ok (.aload_n 0, 1) := by decide +kernel
theorem d_F_init_54 : decode b_F_init 54 = .ok (.bipush 30, 2) := by decide +kernel
theorem d_F_init_56 : decode b_F_init 56 = .ok (.newarray .long, 2) := by decide +kernel
theorem d_F_init_58 : decode b_F_init 58 = .ok (.putfield 38, 3) := by decide +kernel
theorem d_F_init_61 : decode b_F_init 61 = .ok (.aload_n 0, 1) := by decide +kernel
theorem d_F_init_62 : decode b_F_init 62 = .ok (.sipush 1000, 3) := by decide +kernel
theorem d_F_init_65 : decode b_F_init 65 = .ok (.putfield 42, 3) := by decide +kernel
theorem d_F_init_68 : decode b_F_init 68 = .ok (.return_, 1) := by decide +kernel
theorem d_F_rule_0 : decode b_F_rule 0 = .ok (.iload_n 1, 1) := by decide +kernel
theorem d_F_rule_1 : decode b_F_rule 1 = .ok (.iconst 0, 1) := by decide +kernel
theorem d_F_rule_2 : decode b_F_rule 2 = .ok (.ldc 46, 2) := by decide +kernel
theorem d_F_rule_4 : decode b_F_rule 4 = .ok (.invokestatic 47, 3) := by decide +kernel
theorem d_F_rule_7 : decode b_F_rule 7 = .ok (.ifCond .eq 33, 3) := by decide +kernel
theorem d_F_rule_10 : decode b_F_rule 10 = .ok (.iload_n 2, 1) := by decide +kernel
theorem d_F_rule_11 : decode b_F_rule 11 = .ok (.iconst 0, 1) := by decide +kernel
theorem d_F_rule_12 : decode b_F_rule 12 = .ok (.ldc 51, 2) := by decide +kernel
theorem d_F_rule_14 : decode b_F_rule 14 = .ok (.invokestatic 47, 3) := by decide +kernel
theorem d_F_rule_17 : decode b_F_rule 17 = .ok (.ifCond .eq 23, 3) := by decide +kernel
theorem d_F_rule_20 : decode b_F_rule 20 = .ok (.iload_n 3, 1) := by decide +kernel
theorem d_F_rule_21 : decode b_F_rule 21 = .ok (.iconst 0, 1) := by decide +kernel
theorem d_F_rule_22 : decode b_F_rule 22 = .ok (.sipush 365, 3) := by decide +kernel
theorem d_F_rule_25 : decode b_F_rule 25 = .ok (.invokestatic 47, 3) := by decide +kernel
theorem d_F_rule_28 : decode b_F_rule 28 = .ok (.ifCond .eq 12, 3) := by decide +kernel
theorem d_F_rule_31 : decode b_F_rule 31 = .ok (.aload_n 0, 1) := by decide +kernel
theorem d_F_rule_32 : decode b_F_rule 32 = .ok (.getfield 52, 3) := by decide +kernel
theorem d_F_rule_35 : decode b_F_rule 35 = .ok (.bipush 10, 2) := by decide +kernel
theorem d_F_rule_37 : decode b_F_rule 37 = .ok (.if_icmp .lt 5, 3) := by decide +kernel
theorem d_F_rule_40 : decode b_F_rule 40 = .ok (.iconst (-1), 1) := by decide +kernel
theorem d_F_rule_41 : decode b_F_rule 41 = .ok (.ireturn, 1) := by decide +kernel
theorem d_F_rule_42 : decode b_F_rule 42 = .ok (.aload_n 0, 1) := by decide +kernel
theorem d_F_rule_43 : decode b_F_rule 43 = .ok (.getfield 52, 3) := by decide +kernel
theorem d_F_rule_46 : decode b_F_rule 46 = .ok (.istore 4, 2) := by decide +kernel
theorem d_F_rule_48 : decode b_F_rule 48 = .ok (.aload_n 0, 1) := by decide +kernel
theorem d_F_rule_49 : decode b_F_rule 49 = .ok (.getfield 11, 3) := by decide +kernel
theorem d_F_rule_52 : decode b_F_rule 52 = .ok (.iload 4, 2) := by decide +kernel
theorem d_F_rule_54 : decode b_F_rule 54 = .ok (.new 9, 3) := by decide +kernel
theorem d_F_rule_57 : decode b_F_rule 57 = .ok (.dup, 1) := by decide +kernel
theorem d_F_rule_58 : decode b_F_rule 58 = .ok (.iload_n 1, 1) := by decide +kernel
theorem d_F_rule_59 : decode b_F_rule 59 = .ok (.iload_n 2, 1) := by decide +kernel
theorem d_F_rule_60 : decode b_F_rule 60 = .ok (.iload_n 3, 1) := by decide +kernel
theorem d_F_rule_61 : decode b_F_rule 61 = .ok (.invokespecial 55, 3) := by decide +kernel
theorem d_F_rule_64 : decode b_F_rule 64 = .ok (.aastore, 1) := by decide +kernel
theorem d_F_rule_65 : decode b_F_rule 65 = .ok (.aload_n 0, 1) := by decide +kernel
theorem d_F_rule_66 : decode b_F_rule 66 = .ok (.dup, 1) := by decide +kernel
theorem d_F_rule_67 : decode b_F_rule 67 = .ok (.getfield 52, 3) := by decide +kernel
theorem d_F_rule_70 : decode b_F_rule 70 = .ok (.iconst 1, 1) := by decide +kernel
theorem d_F_rule_71 : decode b_F_rule 71 = .ok (.iadd, 1) := by decide +kernel
theorem d_F_rule_72 : decode b_F_rule 72 = .ok (.putfield 52, 3) := by decide +kernel
theorem d_F_rule_75 : decode b_F_rule 75 = .ok (.iload 4, 2) := by decide +kernel
theorem d_F_rule_77 : decode b_F_rule 77 = .ok (.ireturn, 1) := by decide +kernel
theorem d_F_interest_0 : decode b_F_interest 0 = .ok (.aload_n 0, 1) := by decide +kernel
theorem d_F_interest_1 : decode b_F_interest 1 = .ok (.iload_n 1, 1) := by decide +kernel
theorem d_F_interest_2 : decode b_F_interest 2 = .ok (.invokevirtual 58, 3) := by decide +kernel
theorem d_F_interest_5 : decode b_F_interest 5 = .ok (.astore 4, 2) := by decide +kernel
theorem d_F_interest_7 : decode b_F_interest 7 = .ok (.aload 4, 2) := by decide +kernel
theorem d_F_interest_9 : decode b_F_interest 9 = .ok (.ifnull 24, 3) := by decide +kernel
theorem d_F_interest_12 : decode b_F_interest 12 = .ok (.iload_n 2, 1) := by decide +kernel
theorem d_F_interest_13 : decode b_F_interest 13 = .ok (.iconst 0, 1) := by decide +kernel
theorem d_F_interest_14 : decode b_F_interest 14 = .ok (.sipush 1000, 3) := by decide +kernel
theorem d_F_interest_17 : decode b_F_interest 17 = .ok (.invokestatic 47, 3) := by decide +kernel
theorem d_F_interest_20 : decode b_F_interest 20 = .ok (.ifCond .eq 13, 3) := by decide +kernel
theorem d_F_interest_23 : decode b_F_interest 23 = .ok (.iload_n 3, 1) := by decide +kernel
theorem d_F_interest_24 : decode b_F_interest 24 = .ok (.iconst 0, 1) := by decide +kernel
theorem d_F_interest_25 : decode b_F_interest 25 = .ok (.ldc 62, 2) := by decide +kernel
theorem d_F_interest_27 : decode b_F_interest 27 = .ok (.invokestatic 47, 3) := by decide +kernel
theorem d_F_interest_30 : decode b_F_interest 30 = .ok (.ifCond .ne 5, 3) := by decide +kernel
theorem d_F_interest_33 : decode b_F_interest 33 = .ok (.iconst (-1), 1) := by decide +kernel
theorem d_F_interest_34 : decode b_F_interest 34 = .ok (.ireturn, 1) := by decide +kernel
theorem d_F_interest_35 : decode b_F_interest 35 = .ok (.iload_n 3, 1) := by decide +kernel
theorem d_F_interest_36 : decode b_F_interest 36 = .ok (.ifCond .ne 13, 3) := by decide +kernel
theorem d_F_interest_39 : decode b_F_interest 39 = .ok (.new 63, 3) := by decide +kernel
theorem d_F_interest_42 : decode b_F_interest 42 = .ok (.dup, 1) := by decide +kernel
theorem d_F_interest_43 : decode b_F_interest 43 = .ok (.ldc 65, 2) := by decide +kernel
theorem d_F_interest_45 : decode b_F_interest 45 = .ok (.invokespecial 67, 3) := by decide +kernel
theorem d_F_interest_48 : decode b_F_interest 48 = .ok (.athrow, 1) := by decide +kernel
theorem d_F_interest_49 : decode b_F_interest 49 = .ok (.aload 4, 2) := by decide +kernel
theorem d_F_interest_51 : decode b_F_interest 51 = .ok (.iload_n 2, 1) := by decide +kernel
theorem d_F_interest_52 : decode b_F_interest 52 = .ok (.putfield 70, 3) := by decide +kernel
theorem d_F_interest_55 : decode b_F_interest 55 = .ok (.aload 4, 2) := by decide +kernel
theorem d_F_interest_57 : decode b_F_interest 57 = .ok (.iload_n 3, 1) := by decide +kernel
theorem d_F_interest_58 : decode b_F_interest 58 = .ok (.putfield 73, 3) := by decide +kernel
theorem d_F_interest_61 : decode b_F_interest 61 = .ok (.ldc 46, 2) := by decide +kernel
theorem d_F_interest_63 : decode b_F_interest 63 = .ok (.iload_n 2, 1) := by decide +kernel
theorem d_F_interest_64 : decode b_F_interest 64 = .ok (.imul, 1) := by decide +kernel
theorem d_F_interest_65 : decode b_F_interest 65 = .ok (.iload_n 3, 1) := by decide +kernel
theorem d_F_interest_66 : decode b_F_interest 66 = .ok (.idiv, 1) := by decide +kernel
theorem d_F_interest_67 : decode b_F_interest 67 = .ok (.ireturn, 1) := by decide +kernel
theorem d_F_closed_0 : decode b_F_closed 0 = .ok (.lload_n 1, 1) := by decide +kernel
theorem d_F_closed_1 : decode b_F_closed 1 = .ok (.invokestatic 76, 3) := by decide +kernel
theorem d_F_closed_4 : decode b_F_closed 4 = .ok (.ifCond .eq 14, 3) := by decide +kernel
theorem d_F_closed_7 : decode b_F_closed 7 = .ok (.aload_n 0, 1) := by decide +kernel
theorem d_F_closed_8 : decode b_F_closed 8 = .ok (.getfield 34, 3) := by decide +kernel
theorem d_F_closed_11 : decode b_F_closed 11 = .ok (.lload_n 1, 1) := by decide +kernel
theorem d_F_closed_12 : decode b_F_closed 12 = .ok (.invokevirtual 80, 3) := by decide +kernel
theorem d_F_closed_15 : decode b_F_closed 15 = .ok (.ifCond .ne 5, 3) := by decide +kernel
theorem d_F_closed_18 : decode b_F_closed 18 = .ok (.iconst 0, 1) := by decide +kernel
theorem d_F_closed_19 : decode b_F_closed 19 = .ok (.ireturn, 1) := by decide +kernel
theorem d_F_closed_20 : decode b_F_closed 20 = .ok (.aload_n 0, 1) := by decide +kernel
theorem d_F_closed_21 : decode b_F_closed 21 = .ok (.getfield 34, 3) := by decide +kernel
theorem d_F_closed_24 : decode b_F_closed 24 = .ok (.getfield 83, 3) := by decide +kernel
theorem d_F_closed_27 : decode b_F_closed 27 = .ok (.ireturn, 1) := by decide +kernel
theorem d_F_loan_0 : decode b_F_loan 0 = .ok (.aload_n 0, 1) := by decide +kernel
theorem d_F_loan_1 : decode b_F_loan 1 = .ok (.iload_n 3, 1) := by decide +kernel
theorem d_F_loan_2 : decode b_F_loan 2 = .ok (.invokevirtual 58, 3) := by decide +kernel
theorem d_F_loan_5 : decode b_F_loan 5 = .ok (.astore 6, 2) := by decide +kernel
theorem d_F_loan_7 : decode b_F_loan 7 = .ok (.iload_n 1, 1) := by decide +kernel
theorem d_F_loan_8 : decode b_F_loan 8 = .ok (.invokestatic 86, 3) := by decide +kernel
theorem d_F_loan_11 : decode b_F_loan 11 = .ok (.ifCond .eq 23, 3) := by decide +kernel
theorem d_F_loan_14 : decode b_F_loan 14 = .ok (.iload_n 2, 1) := by decide +kernel
theorem d_F_loan_15 : decode b_F_loan 15 = .ok (.invokestatic 90, 3) := by decide +kernel
theorem d_F_loan_18 : decode b_F_loan 18 = .ok (.ifCond .eq 16, 3) := by decide +kernel
theorem d_F_loan_21 : decode b_F_loan 21 = .ok (.aload 6, 2) := by decide +kernel
theorem d_F_loan_23 : decode b_F_loan 23 = .ok (.ifnull 11, 3) := by decide +kernel
theorem d_F_loan_26 : decode b_F_loan 26 = .ok (.lload 4, 2) := by decide +kernel
theorem d_F_loan_28 : decode b_F_loan 28 = .ok (.invokestatic 76, 3) := by decide +kernel
theorem d_F_loan_31 : decode b_F_loan 31 = .ok (.ifCond .ne 5, 3) := by decide +kernel
theorem d_F_loan_34 : decode b_F_loan 34 = .ok (.iconst 0, 1) := by decide +kernel
theorem d_F_loan_35 : decode b_F_loan 35 = .ok (.ireturn, 1) := by decide +kernel
theorem d_F_loan_36 : decode b_F_loan 36 = .ok (.aload_n 0, 1) := by decide +kernel
theorem d_F_loan_37 : decode b_F_loan 37 = .ok (.getfield 21, 3) := by decide +kernel
theorem d_F_loan_40 : decode b_F_loan 40 = .ok (.iload_n 1, 1) := by decide +kernel
theorem d_F_loan_41 : decode b_F_loan 41 = .ok (.aaload, 1) := by decide +kernel
theorem d_F_loan_42 : decode b_F_loan 42 = .ok (.ifnonnull 12, 3) := by decide +kernel
theorem d_F_loan_45 : decode b_F_loan 45 = .ok (.aload_n 0, 1) := by decide +kernel
theorem d_F_loan_46 : decode b_F_loan 46 = .ok (.getfield 93, 3) := by decide +kernel
theorem d_F_loan_49 : decode b_F_loan 49 = .ok (.bipush 120, 2) := by decide +kernel
theorem d_F_loan_51 : decode b_F_loan 51 = .ok (.if_icmp .lt 5, 3) := by decide +kernel
theorem d_F_loan_54 : decode b_F_loan 54 = .ok (.iconst 0, 1) := by decide +kernel
theorem d_F_loan_55 : decode b_F_loan 55 = .ok (.ireturn, 1) := by decide +kernel
theorem d_F_loan_56 : decode b_F_loan 56 = .ok (.new 15, 3) := by decide +kernel
theorem d_F_loan_59 : decode b_F_loan 59 = .ok (.dup, 1) := by decide +kernel
theorem d_F_loan_60 : decode b_F_loan 60 = .ok (.iload_n 1, 1) := by decide +kernel
theorem d_F_loan_61 : decode b_F_loan 61 = .ok (.iload_n 2, 1) := by decide +kernel
theorem d_F_loan_62 : decode b_F_loan 62 = .ok (.aload 6, 2) := by decide +kernel
theorem d_F_loan_64 : decode b_F_loan 64 = .ok (.lload 4, 2) := by decide +kernel
theorem d_F_loan_66 : decode b_F_loan 66 = .ok (.invokespecial 96, 3) := by decide +kernel
theorem d_F_loan_69 : decode b_F_loan 69 = .ok (.astore 7, 2) := by decide +kernel
theorem d_F_loan_71 : decode b_F_loan 71 = .ok (.aload_n 0, 1) := by decide +kernel
theorem d_F_loan_72 : decode b_F_loan 72 = .ok (.getfield 21, 3) := by decide +kernel
theorem d_F_loan_75 : decode b_F_loan 75 = .ok (.iload_n 1, 1) := by decide +kernel
theorem d_F_loan_76 : decode b_F_loan 76 = .ok (.aload 7, 2) := by decide +kernel
theorem d_F_loan_78 : decode b_F_loan 78 = .ok (.aastore, 1) := by decide +kernel
theorem d_F_loan_79 : decode b_F_loan 79 = .ok (.aload_n 0, 1) := by decide +kernel
theorem d_F_loan_80 : decode b_F_loan 80 = .ok (.getfield 17, 3) := by decide +kernel
theorem d_F_loan_83 : decode b_F_loan 83 = .ok (.aload_n 0, 1) := by decide +kernel
theorem d_F_loan_84 : decode b_F_loan 84 = .ok (.getfield 93, 3) := by decide +kernel
theorem d_F_loan_87 : decode b_F_loan 87 = .ok (.aload 7, 2) := by decide +kernel
theorem d_F_loan_89 : decode b_F_loan 89 = .ok (.aastore, 1) := by decide +kernel
theorem d_F_loan_90 : decode b_F_loan 90 = .ok (.aload_n 0, 1) := by decide +kernel
theorem d_F_loan_91 : decode b_F_loan 91 = .ok (.dup, 1) := by decide +kernel
theorem d_F_loan_92 : decode b_F_loan 92 = .ok (.getfield 93, 3) := by decide +kernel
theorem d_F_loan_95 : decode b_F_loan 95 = .ok (.iconst 1, 1) := by decide +kernel
theorem d_F_loan_96 : decode b_F_loan 96 = .ok (.iadd, 1) := by decide +kernel
theorem d_F_loan_97 : decode b_F_loan 97 = .ok (.putfield 93, 3) := by decide +kernel
theorem d_F_loan_100 : decode b_F_loan 100 = .ok (.aload_n 0, 1) := by decide +kernel
theorem d_F_loan_101 : decode b_F_loan 101 = .ok (.getfield 93, 3) := by decide +kernel
theorem d_F_loan_104 : decode b_F_loan 104 = .ok (.ireturn, 1) := by decide +kernel
theorem d_F_overdue_0 : decode b_F_overdue 0 = .ok (.aload_n 0, 1) := by decide +kernel
theorem d_F_overdue_1 : decode b_F_overdue 1 = .ok (.iload_n 1, 1) := by decide +kernel
theorem d_F_overdue_2 : decode b_F_overdue 2 = .ok (.invokevirtual 99, 3) := by decide +kernel
theorem d_F_overdue_5 : decode b_F_overdue 5 = .ok (.astore 4, 2) := by decide +kernel
theorem d_F_overdue_7 : decode b_F_overdue 7 = .ok (.aload 4, 2) := by decide +kernel
theorem d_F_overdue_9 : decode b_F_overdue 9 = .ok (.ifnull 10, 3) := by decide +kernel
theorem d_F_overdue_12 : decode b_F_overdue 12 = .ok (.lload_n 2, 1) := by decide +kernel
theorem d_F_overdue_13 : decode b_F_overdue 13 = .ok (.invokestatic 76, 3) := by decide +kernel
theorem d_F_overdue_16 : decode b_F_overdue 16 = .ok (.ifCond .ne 7, 3) := by decide +kernel
theorem d_F_overdue_19 : decode b_F_overdue 19 = .ok (.ldc2_w 103, 3) := by decide +kernel
theorem d_F_overdue_22 : decode b_F_overdue 22 = .ok (.lreturn, 1) := by decide +kernel
theorem d_F_overdue_23 : decode b_F_overdue 23 = .ok (.aload_n 0, 1) := by decide +kernel
theorem d_F_overdue_24 : decode b_F_overdue 24 = .ok (.aload 4, 2) := by decide +kernel
theorem d_F_overdue_26 : decode b_F_overdue 26 = .ok (.lload_n 2, 1) := by decide +kernel
theorem d_F_overdue_27 : decode b_F_overdue 27 = .ok (.invokevirtual 105, 3) := by decide +kernel
theorem d_F_overdue_30 : decode b_F_overdue 30 = .ok (.lreturn, 1) := by decide +kernel
theorem d_F_back_0 : decode b_F_back 0 = .ok (.aload_n 0, 1) := by decide +kernel
theorem d_F_back_1 : decode b_F_back 1 = .ok (.iload_n 1, 1) := by decide +kernel
theorem d_F_back_2 : decode b_F_back 2 = .ok (.invokevirtual 99, 3) := by decide +kernel
theorem d_F_back_5 : decode b_F_back 5 = .ok (.astore 4, 2) := by decide +kernel
theorem d_F_back_7 : decode b_F_back 7 = .ok (.aload 4, 2) := by decide +kernel
theorem d_F_back_9 : decode b_F_back 9 = .ok (.ifnull 10, 3) := by decide +kernel
theorem d_F_back_12 : decode b_F_back 12 = .ok (.lload_n 2, 1) := by decide +kernel
theorem d_F_back_13 : decode b_F_back 13 = .ok (.invokestatic 76, 3) := by decide +kernel
theorem d_F_back_16 : decode b_F_back 16 = .ok (.ifCond .ne 5, 3) := by decide +kernel
theorem d_F_back_19 : decode b_F_back 19 = .ok (.iconst (-1), 1) := by decide +kernel
theorem d_F_back_20 : decode b_F_back 20 = .ok (.ireturn, 1) := by decide +kernel
theorem d_F_back_21 : decode b_F_back 21 = .ok (.aload_n 0, 1) := by decide +kernel
theorem d_F_back_22 : decode b_F_back 22 = .ok (.aload 4, 2) := by decide +kernel
theorem d_F_back_24 : decode b_F_back 24 = .ok (.lload_n 2, 1) := by decide +kernel
theorem d_F_back_25 : decode b_F_back 25 = .ok (.invokevirtual 105, 3) := by decide +kernel
theorem d_F_back_28 : decode b_F_back 28 = .ok (.lstore 5, 2) := by decide +kernel
theorem d_F_back_30 : decode b_F_back 30 = .ok (.lload 5, 2) := by decide +kernel
theorem d_F_back_32 : decode b_F_back 32 = .ok (.lconst 0, 1) := by decide +kernel
theorem d_F_back_33 : decode b_F_back 33 = .ok (.lcmp, 1) := by decide +kernel
theorem d_F_back_34 : decode b_F_back 34 = .ok (.ifCond .le 15, 3) := by decide +kernel
theorem d_F_back_37 : decode b_F_back 37 = .ok (.aload_n 0, 1) := by decide +kernel
theorem d_F_back_38 : decode b_F_back 38 = .ok (.getfield 27, 3) := by decide +kernel
theorem d_F_back_41 : decode b_F_back 41 = .ok (.invokevirtual 109, 3) := by decide +kernel
theorem d_F_back_44 : decode b_F_back 44 = .ok (.ifCond .eq 5, 3) := by decide +kernel
theorem d_F_back_47 : decode b_F_back 47 = .ok (.iconst (-1), 1) := by decide +kernel
theorem d_F_back_48 : decode b_F_back 48 = .ok (.ireturn, 1) := by decide +kernel
theorem d_F_back_49 : decode b_F_back 49 = .ok (.aload_n 0, 1) := by decide +kernel
theorem d_F_back_50 : decode b_F_back 50 = .ok (.aload 4, 2) := by decide +kernel
theorem d_F_back_52 : decode b_F_back 52 = .ok (.invokevirtual 113, 3) := by decide +kernel
theorem d_F_back_55 : decode b_F_back 55 = .ok (.aload_n 0, 1) := by decide +kernel
theorem d_F_back_56 : decode b_F_back 56 = .ok (.aload 4, 2) := by decide +kernel
theorem d_F_back_58 : decode b_F_back 58 = .ok (.lload 5, 2) := by decide +kernel
theorem d_F_back_60 : decode b_F_back 60 = .ok (.lload_n 2, 1) := by decide +kernel
theorem d_F_back_61 : decode b_F_back 61 = .ok (.invokevirtual 117, 3) := by decide +kernel
theorem d_F_back_64 : decode b_F_back 64 = .ok (.ireturn, 1) := by decide +kernel
theorem d_F_lost_0 : decode b_F_lost 0 = .ok (.aload_n 0, 1) := by decide +kernel
theorem d_F_lost_1 : decode b_F_lost 1 = .ok (.iload_n 1, 1) := by decide +kernel
theorem d_F_lost_2 : decode b_F_lost 2 = .ok (.invokevirtual 99, 3) := by decide +kernel
theorem d_F_lost_5 : decode b_F_lost 5 = .ok (.astore 5, 2) := by decide +kernel
theorem d_F_lost_7 : decode b_F_lost 7 = .ok (.aload 5, 2) := by decide +kernel
theorem d_F_lost_9 : decode b_F_lost 9 = .ok (.ifnull 30, 3) := by decide +kernel
theorem d_F_lost_12 : decode b_F_lost 12 = .ok (.lload_n 3, 1) := by decide +kernel
theorem d_F_lost_13 : decode b_F_lost 13 = .ok (.invokestatic 76, 3) := by decide +kernel
theorem d_F_lost_16 : decode b_F_lost 16 = .ok (.ifCond .eq 23, 3) := by decide +kernel
theorem d_F_lost_19 : decode b_F_lost 19 = .ok (.iload_n 2, 1) := by decide +kernel
theorem d_F_lost_20 : decode b_F_lost 20 = .ok (.iconst 1, 1) := by decide +kernel
theorem d_F_lost_21 : decode b_F_lost 21 = .ok (.ldc 51, 2) := by decide +kernel
theorem d_F_lost_23 : decode b_F_lost 23 = .ok (.invokestatic 47, 3) := by decide +kernel
theorem d_F_lost_26 : decode b_F_lost 26 = .ok (.ifCond .eq 13, 3) := by decide +kernel
theorem d_F_lost_29 : decode b_F_lost 29 = .ok (.aload_n 0, 1) := by decide +kernel
theorem d_F_lost_30 : decode b_F_lost 30 = .ok (.getfield 27, 3) := by decide +kernel
theorem d_F_lost_33 : decode b_F_lost 33 = .ok (.invokevirtual 109, 3) := by decide +kernel
theorem d_F_lost_36 : decode b_F_lost 36 = .ok (.ifCond .eq 5, 3) := by decide +kernel
theorem d_F_lost_39 : decode b_F_lost 39 = .ok (.iconst (-1), 1) := by decide +kernel
theorem d_F_lost_40 : decode b_F_lost 40 = .ok (.ireturn, 1) := by decide +kernel
theorem d_F_lost_41 : decode b_F_lost 41 = .ok (.aload_n 0, 1) := by decide +kernel
theorem d_F_lost_42 : decode b_F_lost 42 = .ok (.getfield 27, 3) := by decide +kernel
theorem d_F_lost_45 : decode b_F_lost 45 = .ok (.aload 5, 2) := by decide +kernel
theorem d_F_lost_47 : decode b_F_lost 47 = .ok (.iconst 1, 1) := by decide +kernel
theorem d_F_lost_48 : decode b_F_lost 48 = .ok (.iload_n 2, 1) := by decide +kernel
theorem d_F_lost_49 : decode b_F_lost 49 = .ok (.i2l, 1) := by decide +kernel
theorem d_F_lost_50 : decode b_F_lost 50 = .ok (.lload_n 3, 1) := by decide +kernel
theorem d_F_lost_51 : decode b_F_lost 51 = .ok (.invokevirtual 121, 3) := by decide +kernel
theorem d_F_lost_54 : decode b_F_lost 54 = .ok (.istore 6, 2) := by decide +kernel
theorem d_F_lost_56 : decode b_F_lost 56 = .ok (.aload 5, 2) := by decide +kernel
theorem d_F_lost_58 : decode b_F_lost 58 = .ok (.aload_n 0, 1) := by decide +kernel
theorem d_F_lost_59 : decode b_F_lost 59 = .ok (.getfield 27, 3) := by decide +kernel
theorem d_F_lost_62 : decode b_F_lost 62 = .ok (.iload 6, 2) := by decide +kernel
theorem d_F_lost_64 : decode b_F_lost 64 = .ok (.invokevirtual 124, 3) := by decide +kernel
theorem d_F_lost_67 : decode b_F_lost 67 = .ok (.putfield 128, 3) := by decide +kernel
theorem d_F_lost_70 : decode b_F_lost 70 = .ok (.iload 6, 2) := by decide +kernel
theorem d_F_lost_72 : decode b_F_lost 72 = .ok (.ireturn, 1) := by decide +kernel
theorem d_F_found_0 : decode b_F_found 0 = .ok (.iload_n 1, 1) := by decide +kernel
theorem d_F_found_1 : decode b_F_found 1 = .ok (.invokestatic 86, 3) := by decide +kernel
theorem d_F_found_4 : decode b_F_found 4 = .ok (.ifCond .eq 12, 3) := by decide +kernel
theorem d_F_found_7 : decode b_F_found 7 = .ok (.aload_n 0, 1) := by decide +kernel
theorem d_F_found_8 : decode b_F_found 8 = .ok (.getfield 21, 3) := by decide +kernel
theorem d_F_found_11 : decode b_F_found 11 = .ok (.iload_n 1, 1) := by decide +kernel
theorem d_F_found_12 : decode b_F_found 12 = .ok (.aaload, 1) := by decide +kernel
theorem d_F_found_13 : decode b_F_found 13 = .ok (.goto 4, 3) := by decide +kernel
theorem d_F_found_16 : decode b_F_found 16 = .ok (.aconst_null, 1) := by decide +kernel
theorem d_F_found_17 : decode b_F_found 17 = .ok (.astore 4, 2) := by decide +kernel
theorem d_F_found_19 : decode b_F_found 19 = .ok (.aload 4, 2) := by decide +kernel
theorem d_F_found_21 : decode b_F_found 21 = .ok (.ifnull 11, 3) := by decide +kernel
theorem d_F_found_24 : decode b_F_found 24 = .ok (.aload 4, 2) := by decide +kernel
theorem d_F_found_26 : decode b_F_found 26 = .ok (.getfield 128, 3) := by decide +kernel
theorem d_F_found_29 : decode b_F_found 29 = .ok (.goto 4, 3) := by decide +kernel
theorem d_F_found_32 : decode b_F_found 32 = .ok (.aconst_null, 1) := by decide +kernel
theorem d_F_found_33 : decode b_F_found 33 = .ok (.astore 5, 2) := by decide +kernel
theorem d_F_found_35 : decode b_F_found 35 = .ok (.aload 4, 2) := by decide +kernel
theorem d_F_found_37 : decode b_F_found 37 = .ok (.ifnull 15, 3) := by decide +kernel
theorem d_F_found_40 : decode b_F_found 40 = .ok (.aload 5, 2) := by decide +kernel
theorem d_F_found_42 : decode b_F_found 42 = .ok (.ifnull 10, 3) := by decide +kernel
theorem d_F_found_45 : decode b_F_found 45 = .ok (.lload_n 2, 1) := by decide +kernel
theorem d_F_found_46 : decode b_F_found 46 = .ok (.invokestatic 76, 3) := by decide +kernel
theorem d_F_found_49 : decode b_F_found 49 = .ok (.ifCond .ne 7, 3) := by decide +kernel
theorem d_F_found_52 : decode b_F_found 52 = .ok (.ldc2_w 103, 3) := by decide +kernel
theorem d_F_found_55 : decode b_F_found 55 = .ok (.lreturn, 1) := by decide +kernel
theorem d_F_found_56 : decode b_F_found 56 = .ok (.aload_n 0, 1) := by decide +kernel
theorem d_F_found_57 : decode b_F_found 57 = .ok (.aload 4, 2) := by decide +kernel
theorem d_F_found_59 : decode b_F_found 59 = .ok (.lload_n 2, 1) := by decide +kernel
theorem d_F_found_60 : decode b_F_found 60 = .ok (.invokevirtual 105, 3) := by decide +kernel
theorem d_F_found_63 : decode b_F_found 63 = .ok (.lstore 6, 2) := by decide +kernel
theorem d_F_found_65 : decode b_F_found 65 = .ok (.lload 6, 2) := by decide +kernel
theorem d_F_found_67 : decode b_F_found 67 = .ok (.lconst 0, 1) := by decide +kernel
theorem d_F_found_68 : decode b_F_found 68 = .ok (.lcmp, 1) := by decide +kernel
theorem d_F_found_69 : decode b_F_found 69 = .ok (.ifCond .le 17, 3) := by decide +kernel
theorem d_F_found_72 : decode b_F_found 72 = .ok (.aload_n 0, 1) := by decide +kernel
theorem d_F_found_73 : decode b_F_found 73 = .ok (.getfield 27, 3) := by decide +kernel
theorem d_F_found_76 : decode b_F_found 76 = .ok (.invokevirtual 109, 3) := by decide +kernel
theorem d_F_found_79 : decode b_F_found 79 = .ok (.ifCond .eq 7, 3) := by decide +kernel
theorem d_F_found_82 : decode b_F_found 82 = .ok (.ldc2_w 103, 3) := by decide +kernel
theorem d_F_found_85 : decode b_F_found 85 = .ok (.lreturn, 1) := by decide +kernel
theorem d_F_found_86 : decode b_F_found 86 = .ok (.aload 5, 2) := by decide +kernel
theorem d_F_found_88 : decode b_F_found 88 = .ok (.getfield 132, 3) := by decide +kernel
theorem d_F_found_91 : decode b_F_found 91 = .ok (.lstore 8, 2) := by decide +kernel
theorem d_F_found_93 : decode b_F_found 93 = .ok (.aload 5, 2) := by decide +kernel
theorem d_F_found_95 : decode b_F_found 95 = .ok (.lconst 0, 1) := by decide +kernel
theorem d_F_found_96 : decode b_F_found 96 = .ok (.putfield 138, 3) := by decide +kernel
theorem d_F_found_99 : decode b_F_found 99 = .ok (.aload_n 0, 1) := by decide +kernel
theorem d_F_found_100 : decode b_F_found 100 = .ok (.aload 4, 2) := by decide +kernel
theorem d_F_found_102 : decode b_F_found 102 = .ok (.getfield 141, 3) := by decide +kernel
theorem d_F_found_105 : decode b_F_found 105 = .ok (.lload 8, 2) := by decide +kernel
theorem d_F_found_107 : decode b_F_found 107 = .ok (.invokevirtual 144, 3) := by decide +kernel
theorem d_F_found_110 : decode b_F_found 110 = .ok (.aload_n 0, 1) := by decide +kernel
theorem d_F_found_111 : decode b_F_found 111 = .ok (.aload 4, 2) := by decide +kernel
theorem d_F_found_113 : decode b_F_found 113 = .ok (.invokevirtual 113, 3) := by decide +kernel
theorem d_F_found_116 : decode b_F_found 116 = .ok (.aload_n 0, 1) := by decide +kernel
theorem d_F_found_117 : decode b_F_found 117 = .ok (.aload 4, 2) := by decide +kernel
theorem d_F_found_119 : decode b_F_found 119 = .ok (.lload 6, 2) := by decide +kernel
theorem d_F_found_121 : decode b_F_found 121 = .ok (.lload_n 2, 1) := by decide +kernel
theorem d_F_found_122 : decode b_F_found 122 = .ok (.invokevirtual 117, 3) := by decide +kernel
theorem d_F_found_125 : decode b_F_found 125 = .ok (.pop, 1) := by decide +kernel
theorem d_F_found_126 : decode b_F_found 126 = .ok (.lload 8, 2) := by decide +kernel
theorem d_F_found_128 : decode b_F_found 128 = .ok (.lreturn, 1) := by decide +kernel
theorem d_F_pay_0 : decode b_F_pay 0 = .ok (.iload_n 1, 1) := by decide +kernel
theorem d_F_pay_1 : decode b_F_pay 1 = .ok (.invokestatic 90, 3) := by decide +kernel
theorem d_F_pay_4 : decode b_F_pay 4 = .ok (.ifCond .eq 13, 3) := by decide +kernel
theorem d_F_pay_7 : decode b_F_pay 7 = .ok (.iload_n 2, 1) := by decide +kernel
theorem d_F_pay_8 : decode b_F_pay 8 = .ok (.iconst 1, 1) := by decide +kernel
theorem d_F_pay_9 : decode b_F_pay 9 = .ok (.ldc 51, 2) := by decide +kernel
theorem d_F_pay_11 : decode b_F_pay 11 = .ok (.invokestatic 47, 3) := by decide +kernel
theorem d_F_pay_14 : decode b_F_pay 14 = .ok (.ifCond .ne 5, 3) := by decide +kernel
theorem d_F_pay_17 : decode b_F_pay 17 = .ok (.iconst (-1), 1) := by decide +kernel
theorem d_F_pay_18 : decode b_F_pay 18 = .ok (.ireturn, 1) := by decide +kernel
theorem d_F_pay_19 : decode b_F_pay 19 = .ok (.aload_n 0, 1) := by decide +kernel
theorem d_F_pay_20 : decode b_F_pay 20 = .ok (.getfield 38, 3) := by decide +kernel
theorem d_F_pay_23 : decode b_F_pay 23 = .ok (.iload_n 1, 1) := by decide +kernel
theorem d_F_pay_24 : decode b_F_pay 24 = .ok (.laload, 1) := by decide +kernel
theorem d_F_pay_25 : decode b_F_pay 25 = .ok (.iload_n 2, 1) := by decide +kernel
theorem d_F_pay_26 : decode b_F_pay 26 = .ok (.i2l, 1) := by decide +kernel
theorem d_F_pay_27 : decode b_F_pay 27 = .ok (.ladd, 1) := by decide +kernel
theorem d_F_pay_28 : decode b_F_pay 28 = .ok (.lstore_n 3, 1) := by decide +kernel
theorem d_F_pay_29 : decode b_F_pay 29 = .ok (.iconst 0, 1) := by decide +kernel
theorem d_F_pay_30 : decode b_F_pay 30 = .ok (.istore 5, 2) := by decide +kernel
theorem d_F_pay_32 : decode b_F_pay 32 = .ok (.iconst 0, 1) := by decide +kernel
theorem d_F_pay_33 : decode b_F_pay 33 = .ok (.istore 6, 2) := by decide +kernel
theorem d_F_pay_35 : decode b_F_pay 35 = .ok (.iload 6, 2) := by decide +kernel
theorem d_F_pay_37 : decode b_F_pay 37 = .ok (.aload_n 0, 1) := by decide +kernel
theorem d_F_pay_38 : decode b_F_pay 38 = .ok (.getfield 27, 3) := by decide +kernel
theorem d_F_pay_41 : decode b_F_pay 41 = .ok (.getfield 148, 3) := by decide +kernel
theorem d_F_pay_44 : decode b_F_pay 44 = .ok (.if_icmp .ge 62, 3) := by decide +kernel
theorem d_F_pay_47 : decode b_F_pay 47 = .ok (.lload_n 3, 1) := by decide +kernel
theorem d_F_pay_48 : decode b_F_pay 48 = .ok (.lconst 0, 1) := by decide +kernel
theorem d_F_pay_49 : decode b_F_pay 49 = .ok (.lcmp, 1) := by decide +kernel
theorem d_F_pay_50 : decode b_F_pay 50 = .ok (.ifCond .le 56, 3) := by decide +kernel
theorem d_F_pay_53 : decode b_F_pay 53 = .ok (.aload_n 0, 1) := by decide +kernel
theorem d_F_pay_54 : decode b_F_pay 54 = .ok (.getfield 27, 3) := by decide +kernel
theorem d_F_pay_57 : decode b_F_pay 57 = .ok (.iload 6, 2) := by decide +kernel
theorem d_F_pay_59 : decode b_F_pay 59 = .ok (.invokevirtual 149, 3) := by decide +kernel
theorem d_F_pay_62 : decode b_F_pay 62 = .ok (.astore 7, 2) := by decide +kernel
theorem d_F_pay_64 : decode b_F_pay 64 = .ok (.aload 7, 2) := by decide +kernel
theorem d_F_pay_66 : decode b_F_pay 66 = .ok (.ifnull 34, 3) := by decide +kernel
theorem d_F_pay_69 : decode b_F_pay 69 = .ok (.aload 7, 2) := by decide +kernel
theorem d_F_pay_71 : decode b_F_pay 71 = .ok (.getfield 152, 3) := by decide +kernel
theorem d_F_pay_74 : decode b_F_pay 74 = .ok (.iload_n 1, 1) := by decide +kernel
theorem d_F_pay_75 : decode b_F_pay 75 = .ok (.if_icmp .ne 25, 3) := by decide +kernel
theorem d_F_pay_78 : decode b_F_pay 78 = .ok (.aload 7, 2) := by decide +kernel
theorem d_F_pay_80 : decode b_F_pay 80 = .ok (.getfield 138, 3) := by decide +kernel
theorem d_F_pay_83 : decode b_F_pay 83 = .ok (.lconst 0, 1) := by decide +kernel
theorem d_F_pay_84 : decode b_F_pay 84 = .ok (.lcmp, 1) := by decide +kernel
theorem d_F_pay_85 : decode b_F_pay 85 = .ok (.ifCond .le 15, 3) := by decide +kernel
theorem d_F_pay_88 : decode b_F_pay 88 = .ok (.lload_n 3, 1) := by decide +kernel
theorem d_F_pay_89 : decode b_F_pay 89 = .ok (.aload 7, 2) := by decide +kernel
theorem d_F_pay_91 : decode b_F_pay 91 = .ok (.lload_n 3, 1) := by decide +kernel
theorem d_F_pay_92 : decode b_F_pay 92 = .ok (.invokevirtual 153, 3) := by decide +kernel
theorem d_F_pay_95 : decode b_F_pay 95 = .ok (.lsub, 1) := by decide +kernel
theorem d_F_pay_96 : decode b_F_pay 96 = .ok (.lstore_n 3, 1) := by decide +kernel
theorem d_F_pay_97 : decode b_F_pay 97 = .ok (.iinc 5 1, 3) := by decide +kernel
theorem d_F_pay_100 : decode b_F_pay 100 = .ok (.iinc 6 1, 3) := by decide +kernel
theorem d_F_pay_103 : decode b_F_pay 103 = .ok (.goto (-68), 3) := by decide +kernel
theorem d_F_pay_106 : decode b_F_pay 106 = .ok (.aload_n 0, 1) := by decide +kernel
theorem d_F_pay_107 : decode b_F_pay 107 = .ok (.getfield 38, 3) := by decide +kernel
theorem d_F_pay_110 : decode b_F_pay 110 = .ok (.iload_n 1, 1) := by decide +kernel
theorem d_F_pay_111 : decode b_F_pay 111 = .ok (.lload_n 3, 1) := by decide +kernel
theorem d_F_pay_112 : decode b_F_pay 112 = .ok (.lastore, 1) := by decide +kernel
theorem d_F_pay_113 : decode b_F_pay 113 = .ok (.iload 5, 2) := by decide +kernel
theorem d_F_pay_115 : decode b_F_pay 115 = .ok (.ireturn, 1) := by decide +kernel
theorem d_F_waive_0 : decode b_F_waive 0 = .ok (.aload_n 0, 1) := by decide +kernel
theorem d_F_waive_1 : decode b_F_waive 1 = .ok (.getfield 27, 3) := by decide +kernel
theorem d_F_waive_4 : decode b_F_waive 4 = .ok (.iload_n 1, 1) := by decide +kernel
theorem d_F_waive_5 : decode b_F_waive 5 = .ok (.invokevirtual 124, 3) := by decide +kernel
theorem d_F_waive_8 : decode b_F_waive 8 = .ok (.astore_n 3, 1) := by decide +kernel
theorem d_F_waive_9 : decode b_F_waive 9 = .ok (.aload_n 3, 1) := by decide +kernel
theorem d_F_waive_10 : decode b_F_waive 10 = .ok (.ifnull 13, 3) := by decide +kernel
theorem d_F_waive_13 : decode b_F_waive 13 = .ok (.iload_n 2, 1) := by decide +kernel
theorem d_F_waive_14 : decode b_F_waive 14 = .ok (.iconst 0, 1) := by decide +kernel
theorem d_F_waive_15 : decode b_F_waive 15 = .ok (.ldc 46, 2) := by decide +kernel
theorem d_F_waive_17 : decode b_F_waive 17 = .ok (.invokestatic 47, 3) := by decide +kernel
theorem d_F_waive_20 : decode b_F_waive 20 = .ok (.ifCond .ne 7, 3) := by decide +kernel
theorem d_F_waive_23 : decode b_F_waive 23 = .ok (.ldc2_w 103, 3) := by decide +kernel
theorem d_F_waive_26 : decode b_F_waive 26 = .ok (.lreturn, 1) := by decide +kernel
theorem d_F_waive_27 : decode b_F_waive 27 = .ok (.aload_n 3, 1) := by decide +kernel
theorem d_F_waive_28 : decode b_F_waive 28 = .ok (.getfield 138, 3) := by decide +kernel
theorem d_F_waive_31 : decode b_F_waive 31 = .ok (.iload_n 2, 1) := by decide +kernel
theorem d_F_waive_32 : decode b_F_waive 32 = .ok (.i2l, 1) := by decide +kernel
theorem d_F_waive_33 : decode b_F_waive 33 = .ok (.lcmp, 1) := by decide +kernel
theorem d_F_waive_34 : decode b_F_waive 34 = .ok (.ifCond .le 5, 3) := by decide +kernel
theorem d_F_waive_37 : decode b_F_waive 37 = .ok (.lconst 0, 1) := by decide +kernel
theorem d_F_waive_38 : decode b_F_waive 38 = .ok (.lreturn, 1) := by decide +kernel
theorem d_F_waive_39 : decode b_F_waive 39 = .ok (.aload_n 3, 1) := by decide +kernel
theorem d_F_waive_40 : decode b_F_waive 40 = .ok (.getfield 138, 3) := by decide +kernel
theorem d_F_waive_43 : decode b_F_waive 43 = .ok (.lstore 4, 2) := by decide +kernel
theorem d_F_waive_45 : decode b_F_waive 45 = .ok (.aload_n 3, 1) := by decide +kernel
theorem d_F_waive_46 : decode b_F_waive 46 = .ok (.lconst 0, 1) := by decide +kernel
theorem d_F_waive_47 : decode b_F_waive 47 = .ok (.putfield 138, 3) := by decide +kernel
theorem d_F_waive_50 : decode b_F_waive 50 = .ok (.lload 4, 2) := by decide +kernel
theorem d_F_waive_52 : decode b_F_waive 52 = .ok (.lreturn, 1) := by decide +kernel
theorem d_F_owes_0 : decode b_F_owes 0 = .ok (.iload_n 1, 1) := by decide +kernel
theorem d_F_owes_1 : decode b_F_owes 1 = .ok (.invokestatic 90, 3) := by decide +kernel
theorem d_F_owes_4 : decode b_F_owes 4 = .ok (.ifCond .ne 7, 3) := by decide +kernel
theorem d_F_owes_7 : decode b_F_owes 7 = .ok (.ldc2_w 157, 3) := by decide +kernel
theorem d_F_owes_10 : decode b_F_owes 10 = .ok (.lreturn, 1) := by decide +kernel
theorem d_F_owes_11 : decode b_F_owes 11 = .ok (.aload_n 0, 1) := by decide +kernel
theorem d_F_owes_12 : decode b_F_owes 12 = .ok (.iload_n 1, 1) := by decide +kernel
theorem d_F_owes_13 : decode b_F_owes 13 = .ok (.invokevirtual 159, 3) := by decide +kernel
theorem d_F_owes_16 : decode b_F_owes 16 = .ok (.lstore 4, 2) := by decide +kernel
theorem d_F_owes_18 : decode b_F_owes 18 = .ok (.lload_n 2, 1) := by decide +kernel
theorem d_F_owes_19 : decode b_F_owes 19 = .ok (.lconst 0, 1) := by decide +kernel
theorem d_F_owes_20 : decode b_F_owes 20 = .ok (.lcmp, 1) := by decide +kernel
theorem d_F_owes_21 : decode b_F_owes 21 = .ok (.ifCond .lt 23, 3) := by decide +kernel
theorem d_F_owes_24 : decode b_F_owes 24 = .ok (.lload 4, 2) := by decide +kernel
theorem d_F_owes_26 : decode b_F_owes 26 = .ok (.aload_n 0, 1) := by decide +kernel
theorem d_F_owes_27 : decode b_F_owes 27 = .ok (.getfield 27, 3) := by decide +kernel
theorem d_F_owes_30 : decode b_F_owes 30 = .ok (.iload_n 1, 1) := by decide +kernel
theorem d_F_owes_31 : decode b_F_owes 31 = .ok (.lload_n 2, 1) := by decide +kernel
theorem d_F_owes_32 : decode b_F_owes 32 = .ok (.ldc2_w 163, 3) := by decide +kernel
theorem d_F_owes_35 : decode b_F_owes 35 = .ok (.invokestatic 165, 3) := by decide +kernel
theorem d_F_owes_38 : decode b_F_owes 38 = .ok (.invokevirtual 171, 3) := by decide +kernel
theorem d_F_owes_41 : decode b_F_owes 41 = .ok (.ladd, 1) := by decide +kernel
theorem d_F_owes_42 : decode b_F_owes 42 = .ok (.lstore 4, 2) := by decide +kernel
theorem d_F_owes_44 : decode b_F_owes 44 = .ok (.lload 4, 2) := by decide +kernel
theorem d_F_owes_46 : decode b_F_owes 46 = .ok (.lreturn, 1) := by decide +kernel
theorem d_F_plan_0 : decode b_F_plan 0 = .ok (.iload_n 1, 1) := by decide +kernel
theorem d_F_plan_1 : decode b_F_plan 1 = .ok (.invokestatic 90, 3) := by decide +kernel
theorem d_F_plan_4 : decode b_F_plan 4 = .ok (.ifCond .eq 24, 3) := by decide +kernel
theorem d_F_plan_7 : decode b_F_plan 7 = .ok (.iload_n 2, 1) := by decide +kernel
theorem d_F_plan_8 : decode b_F_plan 8 = .ok (.iconst 1, 1) := by decide +kernel
theorem d_F_plan_9 : decode b_F_plan 9 = .ok (.bipush 12, 2) := by decide +kernel
theorem d_F_plan_11 : decode b_F_plan 11 = .ok (.invokestatic 47, 3) := by decide +kernel
theorem d_F_plan_14 : decode b_F_plan 14 = .ok (.ifCond .eq 14, 3) := by decide +kernel
theorem d_F_plan_17 : decode b_F_plan 17 = .ok (.iload_n 3, 1) := by decide +kernel
theorem d_F_plan_18 : decode b_F_plan 18 = .ok (.iconst 0, 1) := by decide +kernel
theorem d_F_plan_19 : decode b_F_plan 19 = .ok (.iload_n 2, 1) := by decide +kernel
theorem d_F_plan_20 : decode b_F_plan 20 = .ok (.iconst 1, 1) := by decide +kernel
theorem d_F_plan_21 : decode b_F_plan 21 = .ok (.isub, 1) := by decide +kernel
theorem d_F_plan_22 : decode b_F_plan 22 = .ok (.invokestatic 47, 3) := by decide +kernel
theorem d_F_plan_25 : decode b_F_plan 25 = .ok (.ifCond .ne 5, 3) := by decide +kernel
theorem d_F_plan_28 : decode b_F_plan 28 = .ok (.lconst 0, 1) := by decide +kernel
theorem d_F_plan_29 : decode b_F_plan 29 = .ok (.lreturn, 1) := by decide +kernel
theorem d_F_plan_30 : decode b_F_plan 30 = .ok (.aload_n 0, 1) := by decide +kernel
theorem d_F_plan_31 : decode b_F_plan 31 = .ok (.getfield 27, 3) := by decide +kernel
theorem d_F_plan_34 : decode b_F_plan 34 = .ok (.iload_n 1, 1) := by decide +kernel
theorem d_F_plan_35 : decode b_F_plan 35 = .ok (.invokevirtual 175, 3) := by decide +kernel
theorem d_F_plan_38 : decode b_F_plan 38 = .ok (.lstore 4, 2) := by decide +kernel
theorem d_F_plan_40 : decode b_F_plan 40 = .ok (.lload 4, 2) := by decide +kernel
theorem d_F_plan_42 : decode b_F_plan 42 = .ok (.iload_n 2, 1) := by decide +kernel
theorem d_F_plan_43 : decode b_F_plan 43 = .ok (.i2l, 1) := by decide +kernel
theorem d_F_plan_44 : decode b_F_plan 44 = .ok (.ldiv, 1) := by decide +kernel
theorem d_F_plan_45 : decode b_F_plan 45 = .ok (.lstore 6, 2) := by decide +kernel
theorem d_F_plan_47 : decode b_F_plan 47 = .ok (.lload 4, 2) := by decide +kernel
theorem d_F_plan_49 : decode b_F_plan 49 = .ok (.iload_n 2, 1) := by decide +kernel
theorem d_F_plan_50 : decode b_F_plan 50 = .ok (.i2l, 1) := by decide +kernel
theorem d_F_plan_51 : decode b_F_plan 51 = .ok (.lrem, 1) := by decide +kernel
theorem d_F_plan_52 : decode b_F_plan 52 = .ok (.lstore 8, 2) := by decide +kernel
theorem d_F_plan_54 : decode b_F_plan 54 = .ok (.iload_n 3, 1) := by decide +kernel
theorem d_F_plan_55 : decode b_F_plan 55 = .ok (.i2l, 1) := by decide +kernel
theorem d_F_plan_56 : decode b_F_plan 56 = .ok (.lload 8, 2) := by decide +kernel
theorem d_F_plan_58 : decode b_F_plan 58 = .ok (.lcmp, 1) := by decide +kernel
theorem d_F_plan_59 : decode b_F_plan 59 = .ok (.ifCond .ge 10, 3) := by decide +kernel
theorem d_F_plan_62 : decode b_F_plan 62 = .ok (.lload 6, 2) := by decide +kernel
theorem d_F_plan_64 : decode b_F_plan 64 = .ok (.lconst 1, 1) := by decide +kernel
theorem d_F_plan_65 : decode b_F_plan 65 = .ok (.ladd, 1) := by decide +kernel
theorem d_F_plan_66 : decode b_F_plan 66 = .ok (.goto 5, 3) := by decide +kernel
theorem d_F_plan_69 : decode b_F_plan 69 = .ok (.lload 6, 2) := by decide +kernel
theorem d_F_plan_71 : decode b_F_plan 71 = .ok (.lreturn, 1) := by decide +kernel
theorem d_F_threshold_0 : decode b_F_threshold 0 = .ok (.iload_n 1, 1) := by decide +kernel
theorem d_F_threshold_1 : decode b_F_threshold 1 = .ok (.iconst 1, 1) := by decide +kernel
theorem d_F_threshold_2 : decode b_F_threshold 2 = .ok (.ldc 62, 2) := by decide +kernel
theorem d_F_threshold_4 : decode b_F_threshold 4 = .ok (.invokestatic 47, 3) := by decide +kernel
theorem d_F_threshold_7 : decode b_F_threshold 7 = .ok (.ifCond .ne 5, 3) := by decide +kernel
theorem d_F_threshold_10 : decode b_F_threshold 10 = .ok (.iconst (-1), 1) := by decide +kernel
theorem d_F_threshold_11 : decode b_F_threshold 11 = .ok (.ireturn, 1) := by decide +kernel
theorem d_F_threshold_12 : decode b_F_threshold 12 = .ok (.aload_n 0, 1) := by decide +kernel
theorem d_F_threshold_13 : decode b_F_threshold 13 = .ok (.getfield 42, 3) := by decide +kernel
theorem d_F_threshold_16 : decode b_F_threshold 16 = .ok (.istore_n 2, 1) := by decide +kernel
theorem d_F_threshold_17 : decode b_F_threshold 17 = .ok (.aload_n 0, 1) := by decide +kernel
theorem d_F_threshold_18 : decode b_F_threshold 18 = .ok (.iload_n 1, 1) := by decide +kernel
theorem d_F_threshold_19 : decode b_F_threshold 19 = .ok (.putfield 42, 3) := by decide +kernel
theorem d_F_threshold_22 : decode b_F_threshold 22 = .ok (.iload_n 2, 1) := by decide +kernel
theorem d_F_threshold_23 : decode b_F_threshold 23 = .ok (.ireturn, 1) := by decide +kernel
theorem d_F_blocked_0 : decode b_F_blocked 0 = .ok (.iload_n 1, 1) := by decide +kernel
theorem d_F_blocked_1 : decode b_F_blocked 1 = .ok (.invokestatic 90, 3) := by decide +kernel
theorem d_F_blocked_4 : decode b_F_blocked 4 = .ok (.ifCond .eq 21, 3) := by decide +kernel
theorem d_F_blocked_7 : decode b_F_blocked 7 = .ok (.aload_n 0, 1) := by decide +kernel
theorem d_F_blocked_8 : decode b_F_blocked 8 = .ok (.iload_n 1, 1) := by decide +kernel
theorem d_F_blocked_9 : decode b_F_blocked 9 = .ok (.invokevirtual 159, 3) := by decide +kernel
theorem d_F_blocked_12 : decode b_F_blocked 12 = .ok (.aload_n 0, 1) := by decide +kernel
theorem d_F_blocked_13 : decode b_F_blocked 13 = .ok (.getfield 42, 3) := by decide +kernel
theorem d_F_blocked_16 : decode b_F_blocked 16 = .ok (.i2l, 1) := by decide +kernel
theorem d_F_blocked_17 : decode b_F_blocked 17 = .ok (.lcmp, 1) := by decide +kernel
theorem d_F_blocked_18 : decode b_F_blocked 18 = .ok (.ifCond .lt 7, 3) := by decide +kernel
theorem d_F_blocked_21 : decode b_F_blocked 21 = .ok (.iconst 1, 1) := by decide +kernel
theorem d_F_blocked_22 : decode b_F_blocked 22 = .ok (.goto 4, 3) := by decide +kernel
theorem d_F_blocked_25 : decode b_F_blocked 25 = .ok (.iconst 0, 1) := by decide +kernel
theorem d_F_blocked_26 : decode b_F_blocked 26 = .ok (.ireturn, 1) := by decide +kernel
theorem d_F_debt_0 : decode b_F_debt 0 = .ok (.aload_n 0, 1) := by decide +kernel
theorem d_F_debt_1 : decode b_F_debt 1 = .ok (.getfield 27, 3) := by decide +kernel
theorem d_F_debt_4 : decode b_F_debt 4 = .ok (.iload_n 1, 1) := by decide +kernel
theorem d_F_debt_5 : decode b_F_debt 5 = .ok (.invokevirtual 124, 3) := by decide +kernel
theorem d_F_debt_8 : decode b_F_debt 8 = .ok (.astore_n 3, 1) := by decide +kernel
theorem d_F_debt_9 : decode b_F_debt 9 = .ok (.aload_n 3, 1) := by decide +kernel
theorem d_F_debt_10 : decode b_F_debt 10 = .ok (.ifnonnull 7, 3) := by decide +kernel
theorem d_F_debt_13 : decode b_F_debt 13 = .ok (.ldc2_w 103, 3) := by decide +kernel
theorem d_F_debt_16 : decode b_F_debt 16 = .ok (.lreturn, 1) := by decide +kernel
theorem d_F_debt_17 : decode b_F_debt 17 = .ok (.iload_n 2, 1) := by decide +kernel
theorem d_F_debt_18 : decode b_F_debt 18 = .ok (.tableswitch 78 0 5 #[38, 44, 49, 54, 59, 65], 38) := by decide +kernel
theorem d_F_debt_56 : decode b_F_debt 56 = .ok (.aload_n 3, 1) := by decide +kernel
theorem d_F_debt_57 : decode b_F_debt 57 = .ok (.getfield 152, 3) := by decide +kernel
theorem d_F_debt_60 : decode b_F_debt 60 = .ok (.i2l, 1) := by decide +kernel
theorem d_F_debt_61 : decode b_F_debt 61 = .ok (.lreturn, 1) := by decide +kernel
theorem d_F_debt_62 : decode b_F_debt 62 = .ok (.aload_n 3, 1) := by decide +kernel
theorem d_F_debt_63 : decode b_F_debt 63 = .ok (.getfield 178, 3) := by decide +kernel
theorem d_F_debt_66 : decode b_F_debt 66 = .ok (.lreturn, 1) := by decide +kernel
theorem d_F_debt_67 : decode b_F_debt 67 = .ok (.aload_n 3, 1) := by decide +kernel
theorem d_F_debt_68 : decode b_F_debt 68 = .ok (.getfield 138, 3) := by decide +kernel
theorem d_F_debt_71 : decode b_F_debt 71 = .ok (.lreturn, 1) := by decide +kernel
theorem d_F_debt_72 : decode b_F_debt 72 = .ok (.aload_n 3, 1) := by decide +kernel
theorem d_F_debt_73 : decode b_F_debt 73 = .ok (.getfield 181, 3) := by decide +kernel
theorem d_F_debt_76 : decode b_F_debt 76 = .ok (.lreturn, 1) := by decide +kernel
theorem d_F_debt_77 : decode b_F_debt 77 = .ok (.aload_n 3, 1) := by decide +kernel
theorem d_F_debt_78 : decode b_F_debt 78 = .ok (.getfield 184, 3) := by decide +kernel
theorem d_F_debt_81 : decode b_F_debt 81 = .ok (.i2l, 1) := by decide +kernel
theorem d_F_debt_82 : decode b_F_debt 82 = .ok (.lreturn, 1) := by decide +kernel
theorem d_F_debt_83 : decode b_F_debt 83 = .ok (.aload_n 3, 1) := by decide +kernel
theorem d_F_debt_84 : decode b_F_debt 84 = .ok (.aload_n 3, 1) := by decide +kernel
theorem d_F_debt_85 : decode b_F_debt 85 = .ok (.getfield 181, 3) := by decide +kernel
theorem d_F_debt_88 : decode b_F_debt 88 = .ok (.ldc2_w 187, 3) := by decide +kernel
theorem d_F_debt_91 : decode b_F_debt 91 = .ok (.ladd, 1) := by decide +kernel
theorem d_F_debt_92 : decode b_F_debt 92 = .ok (.invokevirtual 189, 3) := by decide +kernel
theorem d_F_debt_95 : decode b_F_debt 95 = .ok (.lreturn, 1) := by decide +kernel
theorem d_F_debt_96 : decode b_F_debt 96 = .ok (.ldc2_w 103, 3) := by decide +kernel
theorem d_F_debt_99 : decode b_F_debt 99 = .ok (.lreturn, 1) := by decide +kernel
theorem d_F_share_0 : decode b_F_share 0 = .ok (.aload_n 0, 1) := by decide +kernel
theorem d_F_share_1 : decode b_F_share 1 = .ok (.getfield 27, 3) := by decide +kernel
theorem d_F_share_4 : decode b_F_share 4 = .ok (.iload_n 1, 1) := by decide +kernel
theorem d_F_share_5 : decode b_F_share 5 = .ok (.invokevirtual 124, 3) := by decide +kernel
theorem d_F_share_8 : decode b_F_share 8 = .ok (.astore 4, 2) := by decide +kernel
theorem d_F_share_10 : decode b_F_share 10 = .ok (.aload 4, 2) := by decide +kernel
theorem d_F_share_12 : decode b_F_share 12 = .ok (.ifnull 23, 3) := by decide +kernel
theorem d_F_share_15 : decode b_F_share 15 = .ok (.iload_n 3, 1) := by decide +kernel
theorem d_F_share_16 : decode b_F_share 16 = .ok (.iconst 1, 1) := by decide +kernel
theorem d_F_share_17 : decode b_F_share 17 = .ok (.sipush 1000, 3) := by decide +kernel
theorem d_F_share_20 : decode b_F_share 20 = .ok (.invokestatic 47, 3) := by decide +kernel
theorem d_F_share_23 : decode b_F_share 23 = .ok (.ifCond .eq 12, 3) := by decide +kernel
theorem d_F_share_26 : decode b_F_share 26 = .ok (.iload_n 2, 1) := by decide +kernel
theorem d_F_share_27 : decode b_F_share 27 = .ok (.iconst 1, 1) := by decide +kernel
theorem d_F_share_28 : decode b_F_share 28 = .ok (.iload_n 3, 1) := by decide +kernel
theorem d_F_share_29 : decode b_F_share 29 = .ok (.invokestatic 47, 3) := by decide +kernel
theorem d_F_share_32 : decode b_F_share 32 = .ok (.ifCond .ne 7, 3) := by decide +kernel
theorem d_F_share_35 : decode b_F_share 35 = .ok (.ldc2_w 103, 3) := by decide +kernel
theorem d_F_share_38 : decode b_F_share 38 = .ok (.lreturn, 1) := by decide +kernel
theorem d_F_share_39 : decode b_F_share 39 = .ok (.aload 4, 2) := by decide +kernel
theorem d_F_share_41 : decode b_F_share 41 = .ok (.getfield 178, 3) := by decide +kernel
theorem d_F_share_44 : decode b_F_share 44 = .ok (.iload_n 2, 1) := by decide +kernel
theorem d_F_share_45 : decode b_F_share 45 = .ok (.i2l, 1) := by decide +kernel
theorem d_F_share_46 : decode b_F_share 46 = .ok (.lmul, 1) := by decide +kernel
theorem d_F_share_47 : decode b_F_share 47 = .ok (.iload_n 3, 1) := by decide +kernel
theorem d_F_share_48 : decode b_F_share 48 = .ok (.i2l, 1) := by decide +kernel
theorem d_F_share_49 : decode b_F_share 49 = .ok (.ldiv, 1) := by decide +kernel
theorem d_F_share_50 : decode b_F_share 50 = .ok (.lreturn, 1) := by decide +kernel
theorem d_F_isWithin_0 : decode b_F_isWithin 0 = .ok (.iload_n 0, 1) := by decide +kernel
theorem d_F_isWithin_1 : decode b_F_isWithin 1 = .ok (.iload_n 1, 1) := by decide +kernel
theorem d_F_isWithin_2 : decode b_F_isWithin 2 = .ok (.if_icmp .lt 12, 3) := by decide +kernel
theorem d_F_isWithin_5 : decode b_F_isWithin 5 = .ok (.iload_n 0, 1) := by decide +kernel
theorem d_F_isWithin_6 : decode b_F_isWithin 6 = .ok (.iload_n 2, 1) := by decide +kernel
theorem d_F_isWithin_7 : decode b_F_isWithin 7 = .ok (.if_icmp .gt 7, 3) := by decide +kernel
theorem d_F_isWithin_10 : decode b_F_isWithin 10 = .ok (.iconst 1, 1) := by decide +kernel
theorem d_F_isWithin_11 : decode b_F_isWithin 11 = .ok (.goto 4, 3) := by decide +kernel
theorem d_F_isWithin_14 : decode b_F_isWithin 14 = .ok (.iconst 0, 1) := by decide +kernel
theorem d_F_isWithin_15 : decode b_F_isWithin 15 = .ok (.ireturn, 1) := by decide +kernel
theorem d_F_isDay_0 : decode b_F_isDay 0 = .ok (.lload_n 0, 1) := by decide +kernel
theorem d_F_isDay_1 : decode b_F_isDay 1 = .ok (.lconst 0, 1) := by decide +kernel
theorem d_F_isDay_2 : decode b_F_isDay 2 = .ok (.lcmp, 1) := by decide +kernel
theorem d_F_isDay_3 : decode b_F_isDay 3 = .ok (.ifCond .lt 15, 3) := by decide +kernel
theorem d_F_isDay_6 : decode b_F_isDay 6 = .ok (.lload_n 0, 1) := by decide +kernel
theorem d_F_isDay_7 : decode b_F_isDay 7 = .ok (.ldc2_w 163, 3) := by decide +kernel
theorem d_F_isDay_10 : decode b_F_isDay 10 = .ok (.lcmp, 1) := by decide +kernel
theorem d_F_isDay_11 : decode b_F_isDay 11 = .ok (.ifCond .gt 7, 3) := by decide +kernel
theorem d_F_isDay_14 : decode b_F_isDay 14 = .ok (.iconst 1, 1) := by decide +kernel
theorem d_F_isDay_15 : decode b_F_isDay 15 = .ok (.goto 4, 3) := by decide +kernel
theorem d_F_isDay_18 : decode b_F_isDay 18 = .ok (.iconst 0, 1) := by decide +kernel
theorem d_F_isDay_19 : decode b_F_isDay 19 = .ok (.ireturn, 1) := by decide +kernel
theorem d_F_isPerson_0 : decode b_F_isPerson 0 = .ok (.iload_n 0, 1) := by decide +kernel
theorem d_F_isPerson_1 : decode b_F_isPerson 1 = .ok (.iconst 0, 1) := by decide +kernel
theorem d_F_isPerson_2 : decode b_F_isPerson 2 = .ok (.bipush 29, 2) := by decide +kernel
theorem d_F_isPerson_4 : decode b_F_isPerson 4 = .ok (.invokestatic 47, 3) := by decide +kernel
theorem d_F_isPerson_7 : decode b_F_isPerson 7 = .ok (.ireturn, 1) := by decide +kernel
theorem d_F_isItem_0 : decode b_F_isItem 0 = .ok (.iload_n 0, 1) := by decide +kernel
theorem d_F_isItem_1 : decode b_F_isItem 1 = .ok (.iconst 0, 1) := by decide +kernel
theorem d_F_isItem_2 : decode b_F_isItem 2 = .ok (.bipush 59, 2) := by decide +kernel
theorem d_F_isItem_4 : decode b_F_isItem 4 = .ok (.invokestatic 47, 3) := by decide +kernel
theorem d_F_isItem_7 : decode b_F_isItem 7 = .ok (.ireturn, 1) := by decide +kernel
theorem d_F_ruleNumbered_0 : decode b_F_ruleNumbered 0 = .ok (.iload_n 1, 1) := by decide +kernel
theorem d_F_ruleNumbered_1 : decode b_F_ruleNumbered 1 = .ok (.iconst 0, 1) := by decide +kernel
theorem d_F_ruleNumbered_2 : decode b_F_ruleNumbered 2 = .ok (.aload_n 0, 1) := by decide +kernel
theorem d_F_ruleNumbered_3 : decode b_F_ruleNumbered 3 = .ok (.getfield 52, 3) := by decide +kernel
theorem d_F_ruleNumbered_6 : decode b_F_ruleNumbered 6 = .ok (.iconst 1, 1) := by decide +kernel
theorem d_F_ruleNumbered_7 : decode b_F_ruleNumbered 7 = .ok (.isub, 1) := by decide +kernel
theorem d_F_ruleNumbered_8 : decode b_F_ruleNumbered 8 = .ok (.invokestatic 47, 3) := by decide +kernel
theorem d_F_ruleNumbered_11 : decode b_F_ruleNumbered 11 = .ok (.ifCond .eq 12, 3) := by decide +kernel
theorem d_F_ruleNumbered_14 : decode b_F_ruleNumbered 14 = .ok (.aload_n 0, 1) := by decide +kernel
theorem d_F_ruleNumbered_15 : decode b_F_ruleNumbered 15 = .ok (.getfield 11, 3) := by decide +kernel
theorem d_F_ruleNumbered_18 : decode b_F_ruleNumbered 18 = .ok (.iload_n 1, 1) := by decide +kernel
theorem d_F_ruleNumbered_19 : decode b_F_ruleNumbered 19 = .ok (.aaload, 1) := by decide +kernel
theorem d_F_ruleNumbered_20 : decode b_F_ruleNumbered 20 = .ok (.goto 4, 3) := by decide +kernel
theorem d_F_ruleNumbered_23 : decode b_F_ruleNumbered 23 = .ok (.aconst_null, 1) := by decide +kernel
theorem d_F_ruleNumbered_24 : decode b_F_ruleNumbered 24 = .ok (.areturn, 1) := by decide +kernel
theorem d_F_lentLoanNumbered_0 : decode b_F_lentLoanNumbered 0 = .ok (.iload_n 1, 1) := by decide +kernel
theorem d_F_lentLoanNumbered_1 : decode b_F_lentLoanNumbered 1 = .ok (.iconst 1, 1) := by decide +kernel
theorem d_F_lentLoanNumbered_2 : decode b_F_lentLoanNumbered 2 = .ok (.aload_n 0, 1) := by decide +kernel
theorem d_F_lentLoanNumbered_3 : decode b_F_lentLoanNumbered 3 = .ok (.getfield 93, 3) := by decide +kernel
theorem d_F_lentLoanNumbered_6 : decode b_F_lentLoanNumbered 6 = .ok (.invokestatic 47, 3) := by decide +kernel
theorem d_F_lentLoanNumbered_9 : decode b_F_lentLoanNumbered 9 = .ok (.ifCond .ne 5, 3) := by decide +kernel
theorem d_F_lentLoanNumbered_12 : decode b_F_lentLoanNumbered 12 = .ok (.aconst_null, 1) := by decide +kernel
theorem d_F_lentLoanNumbered_13 : decode b_F_lentLoanNumbered 13 = .ok (.areturn, 1) := by decide +kernel
theorem d_F_lentLoanNumbered_14 : decode b_F_lentLoanNumbered 14 = .ok (.aload_n 0, 1) := by decide +kernel
theorem d_F_lentLoanNumbered_15 : decode b_F_lentLoanNumbered 15 = .ok (.getfield 17, 3) := by decide +kernel
theorem d_F_lentLoanNumbered_18 : decode b_F_lentLoanNumbered 18 = .ok (.iload_n 1, 1) := by decide +kernel
theorem d_F_lentLoanNumbered_19 : decode b_F_lentLoanNumbered 19 = .ok (.iconst 1, 1) := by decide +kernel
theorem d_F_lentLoanNumbered_20 : decode b_F_lentLoanNumbered 20 = .ok (.isub, 1) := by decide +kernel
theorem d_F_lentLoanNumbered_21 : decode b_F_lentLoanNumbered 21 = .ok (.aaload, 1) := by decide +kernel
theorem d_F_lentLoanNumbered_22 : decode b_F_lentLoanNumbered 22 = .ok (.astore_n 2, 1) := by decide +kernel
theorem d_F_lentLoanNumbered_23 : decode b_F_lentLoanNumbered 23 = .ok (.aload_n 2, 1) := by decide +kernel
theorem d_F_lentLoanNumbered_24 : decode b_F_lentLoanNumbered 24 = .ok (.ifnull 14, 3) := by decide +kernel
theorem d_F_lentLoanNumbered_27 : decode b_F_lentLoanNumbered 27 = .ok (.aload_n 2, 1) := by decide +kernel
theorem d_F_lentLoanNumbered_28 : decode b_F_lentLoanNumbered 28 = .ok (.invokevirtual 192, 3) := by decide +kernel
theorem d_F_lentLoanNumbered_31 : decode b_F_lentLoanNumbered 31 = .ok (.ifCond .eq 7, 3) := by decide +kernel
theorem d_F_lentLoanNumbered_34 : decode b_F_lentLoanNumbered 34 = .ok (.aload_n 2, 1) := by decide +kernel
theorem d_F_lentLoanNumbered_35 : decode b_F_lentLoanNumbered 35 = .ok (.goto 4, 3) := by decide +kernel
theorem d_F_lentLoanNumbered_38 : decode b_F_lentLoanNumbered 38 = .ok (.aconst_null, 1) := by decide +kernel
theorem d_F_lentLoanNumbered_39 : decode b_F_lentLoanNumbered 39 = .ok (.areturn, 1) := by decide +kernel
theorem d_F_overdueCents_0 : decode b_F_overdueCents 0 = .ok (.aload_n 1, 1) := by decide +kernel
theorem d_F_overdueCents_1 : decode b_F_overdueCents 1 = .ok (.getfield 195, 3) := by decide +kernel
theorem d_F_overdueCents_4 : decode b_F_overdueCents 4 = .ok (.aload_n 0, 1) := by decide +kernel
theorem d_F_overdueCents_5 : decode b_F_overdueCents 5 = .ok (.getfield 34, 3) := by decide +kernel
theorem d_F_overdueCents_8 : decode b_F_overdueCents 8 = .ok (.aload_n 1, 1) := by decide +kernel
theorem d_F_overdueCents_9 : decode b_F_overdueCents 9 = .ok (.getfield 199, 3) := by decide +kernel
theorem d_F_overdueCents_12 : decode b_F_overdueCents 12 = .ok (.lload_n 2, 1) := by decide +kernel
theorem d_F_overdueCents_13 : decode b_F_overdueCents 13 = .ok (.invokevirtual 202, 3) := by decide +kernel
theorem d_F_overdueCents_16 : decode b_F_overdueCents 16 = .ok (.invokevirtual 205, 3) := by decide +kernel
theorem d_F_overdueCents_19 : decode b_F_overdueCents 19 = .ok (.lreturn, 1) := by decide +kernel
theorem d_F_endLoan_0 : decode b_F_endLoan 0 = .ok (.aload_n 1, 1) := by decide +kernel
theorem d_F_endLoan_1 : decode b_F_endLoan 1 = .ok (.iconst 1, 1) := by decide +kernel
theorem d_F_endLoan_2 : decode b_F_endLoan 2 = .ok (.putfield 208, 3) := by decide +kernel
theorem d_F_endLoan_5 : decode b_F_endLoan 5 = .ok (.aload_n 1, 1) := by decide +kernel
theorem d_F_endLoan_6 : decode b_F_endLoan 6 = .ok (.getfield 212, 3) := by decide +kernel
theorem d_F_endLoan_9 : decode b_F_endLoan 9 = .ok (.invokestatic 86, 3) := by decide +kernel
theorem d_F_endLoan_12 : decode b_F_endLoan 12 = .ok (.ifCond .eq 13, 3) := by decide +kernel
theorem d_F_endLoan_15 : decode b_F_endLoan 15 = .ok (.aload_n 0, 1) := by decide +kernel
theorem d_F_endLoan_16 : decode b_F_endLoan 16 = .ok (.getfield 21, 3) := by decide +kernel
theorem d_F_endLoan_19 : decode b_F_endLoan 19 = .ok (.aload_n 1, 1) := by decide +kernel
theorem d_F_endLoan_20 : decode b_F_endLoan 20 = .ok (.getfield 212, 3) := by decide +kernel
theorem d_F_endLoan_23 : decode b_F_endLoan 23 = .ok (.aconst_null, 1) := by decide +kernel
theorem d_F_endLoan_24 : decode b_F_endLoan 24 = .ok (.aastore, 1) := by decide +kernel
theorem d_F_endLoan_25 : decode b_F_endLoan 25 = .ok (.return_, 1) := by decide +kernel
theorem d_F_chargeOverdue_0 : decode b_F_chargeOverdue 0 = .ok (.lload_n 2, 1) := by decide +kernel
theorem d_F_chargeOverdue_1 : decode b_F_chargeOverdue 1 = .ok (.lconst 0, 1) := by decide +kernel
theorem d_F_chargeOverdue_2 : decode b_F_chargeOverdue 2 = .ok (.lcmp, 1) := by decide +kernel
theorem d_F_chargeOverdue_3 : decode b_F_chargeOverdue 3 = .ok (.ifCond .le 18, 3) := by decide +kernel
theorem d_F_chargeOverdue_6 : decode b_F_chargeOverdue 6 = .ok (.aload_n 0, 1) := by decide +kernel
theorem d_F_chargeOverdue_7 : decode b_F_chargeOverdue 7 = .ok (.getfield 27, 3) := by decide +kernel
theorem d_F_chargeOverdue_10 : decode b_F_chargeOverdue 10 = .ok (.aload_n 1, 1) := by decide +kernel
theorem d_F_chargeOverdue_11 : decode b_F_chargeOverdue 11 = .ok (.iconst 0, 1) := by decide +kernel
theorem d_F_chargeOverdue_12 : decode b_F_chargeOverdue 12 = .ok (.lload_n 2, 1) := by decide +kernel
theorem d_F_chargeOverdue_13 : decode b_F_chargeOverdue 13 = .ok (.lload 4, 2) := by decide +kernel
theorem d_F_chargeOverdue_15 : decode b_F_chargeOverdue 15 = .ok (.invokevirtual 121, 3) := by decide +kernel
theorem d_F_chargeOverdue_18 : decode b_F_chargeOverdue 18 = .ok (.goto 4, 3) := by decide +kernel
theorem d_F_chargeOverdue_21 : decode b_F_chargeOverdue 21 = .ok (.iconst 0, 1) := by decide +kernel
theorem d_F_chargeOverdue_22 : decode b_F_chargeOverdue 22 = .ok (.ireturn, 1) := by decide +kernel
theorem d_F_addCredit_0 : decode b_F_addCredit 0 = .ok (.iload_n 1, 1) := by decide +kernel
theorem d_F_addCredit_1 : decode b_F_addCredit 1 = .ok (.invokestatic 90, 3) := by decide +kernel
theorem d_F_addCredit_4 : decode b_F_addCredit 4 = .ok (.ifCond .eq 13, 3) := by decide +kernel
theorem d_F_addCredit_7 : decode b_F_addCredit 7 = .ok (.aload_n 0, 1) := by decide +kernel
theorem d_F_addCredit_8 : decode b_F_addCredit 8 = .ok (.getfield 38, 3) := by decide +kernel
theorem d_F_addCredit_11 : decode b_F_addCredit 11 = .ok (.iload_n 1, 1) := by decide +kernel
theorem d_F_addCredit_12 : decode b_F_addCredit 12 = .ok (.dup2, 1) := by decide +kernel
theorem d_F_addCredit_13 : decode b_F_addCredit 13 = .ok (.laload, 1) := by decide +kernel
theorem d_F_addCredit_14 : decode b_F_addCredit 14 = .ok (.lload_n 2, 1) := by decide +kernel
theorem d_F_addCredit_15 : decode b_F_addCredit 15 = .ok (.ladd, 1) := by decide +kernel
theorem d_F_addCredit_16 : decode b_F_addCredit 16 = .ok (.lastore, 1) := by decide +kernel
theorem d_F_addCredit_17 : decode b_F_addCredit 17 = .ok (.return_, 1) := by decide +kernel
theorem d_F_balance_0 : decode b_F_balance 0 = .ok (.iload_n 1, 1) := by decide +kernel
theorem d_F_balance_1 : decode b_F_balance 1 = .ok (.invokestatic 90, 3) := by decide +kernel
theorem d_F_balance_4 : decode b_F_balance 4 = .ok (.ifCond .eq 21, 3) := by decide +kernel
theorem d_F_balance_7 : decode b_F_balance 7 = .ok (.aload_n 0, 1) := by decide +kernel
theorem d_F_balance_8 : decode b_F_balance 8 = .ok (.getfield 27, 3) := by decide +kernel
theorem d_F_balance_11 : decode b_F_balance 11 = .ok (.iload_n 1, 1) := by decide +kernel
theorem d_F_balance_12 : decode b_F_balance 12 = .ok (.invokevirtual 175, 3) := by decide +kernel
theorem d_F_balance_15 : decode b_F_balance 15 = .ok (.aload_n 0, 1) := by decide +kernel
theorem d_F_balance_16 : decode b_F_balance 16 = .ok (.getfield 38, 3) := by decide +kernel
theorem d_F_balance_19 : decode b_F_balance 19 = .ok (.iload_n 1, 1) := by decide +kernel
theorem d_F_balance_20 : decode b_F_balance 20 = .ok (.laload, 1) := by decide +kernel
theorem d_F_balance_21 : decode b_F_balance 21 = .ok (.lsub, 1) := by decide +kernel
theorem d_F_balance_22 : decode b_F_balance 22 = .ok (.goto 4, 3) := by decide +kernel
theorem d_F_balance_25 : decode b_F_balance 25 = .ok (.lconst 0, 1) := by decide +kernel
theorem d_F_balance_26 : decode b_F_balance 26 = .ok (.lreturn, 1) := by decide +kernel
theorem d_C_init_0 : decode b_C_init 0 = .ok (.aload_n 0, 1) := by decide +kernel
theorem d_C_init_1 : decode b_C_init 1 = .ok (.invokespecial 3, 3) := by decide +kernel
theorem d_C_init_4 : decode b_C_init 4 = .ok (.aload_n 0, 1) := by decide +kernel
theorem d_C_init_5 : decode b_C_init 5 = .ok (.bipush 100, 2) := by decide +kernel
theorem d_C_init_7 : decode b_C_init 7 = .ok (.newarray .long, 2) := by decide +kernel
theorem d_C_init_9 : decode b_C_init 9 = .ok (.putfield 9, 3) := by decide +kernel
theorem d_C_init_12 : decode b_C_init 12 = .ok (.return_, 1) := by decide +kernel
theorem d_C_add_0 : decode b_C_add 0 = .ok (.aload_n 0, 1) := by decide +kernel
theorem d_C_add_1 : decode b_C_add 1 = .ok (.getfield 15, 3) := by decide +kernel
theorem d_C_add_4 : decode b_C_add 4 = .ok (.bipush 100, 2) := by decide +kernel
theorem d_C_add_6 : decode b_C_add 6 = .ok (.if_icmp .ge 14, 3) := by decide +kernel
theorem d_C_add_9 : decode b_C_add 9 = .ok (.aload_n 0, 1) := by decide +kernel
theorem d_C_add_10 : decode b_C_add 10 = .ok (.lload_n 1, 1) := by decide +kernel
theorem d_C_add_11 : decode b_C_add 11 = .ok (.lconst 1, 1) := by decide +kernel
theorem d_C_add_12 : decode b_C_add 12 = .ok (.lsub, 1) := by decide +kernel
theorem d_C_add_13 : decode b_C_add 13 = .ok (.lload_n 1, 1) := by decide +kernel
theorem d_C_add_14 : decode b_C_add 14 = .ok (.invokevirtual 19, 3) := by decide +kernel
theorem d_C_add_17 : decode b_C_add 17 = .ok (.ifCond .le 5, 3) := by decide +kernel
theorem d_C_add_20 : decode b_C_add 20 = .ok (.iconst 0, 1) := by decide +kernel
theorem d_C_add_21 : decode b_C_add 21 = .ok (.ireturn, 1) := by decide +kernel
theorem d_C_add_22 : decode b_C_add 22 = .ok (.aload_n 0, 1) := by decide +kernel
theorem d_C_add_23 : decode b_C_add 23 = .ok (.getfield 9, 3) := by decide +kernel
theorem d_C_add_26 : decode b_C_add 26 = .ok (.aload_n 0, 1) := by decide +kernel
theorem d_C_add_27 : decode b_C_add 27 = .ok (.getfield 15, 3) := by decide +kernel
theorem d_C_add_30 : decode b_C_add 30 = .ok (.lload_n 1, 1) := by decide +kernel
theorem d_C_add_31 : decode b_C_add 31 = .ok (.lastore, 1) := by decide +kernel
theorem d_C_add_32 : decode b_C_add 32 = .ok (.aload_n 0, 1) := by decide +kernel
theorem d_C_add_33 : decode b_C_add 33 = .ok (.dup, 1) := by decide +kernel
theorem d_C_add_34 : decode b_C_add 34 = .ok (.getfield 15, 3) := by decide +kernel
theorem d_C_add_37 : decode b_C_add 37 = .ok (.iconst 1, 1) := by decide +kernel
theorem d_C_add_38 : decode b_C_add 38 = .ok (.iadd, 1) := by decide +kernel
theorem d_C_add_39 : decode b_C_add 39 = .ok (.putfield 15, 3) := by decide +kernel
theorem d_C_add_42 : decode b_C_add 42 = .ok (.iconst 1, 1) := by decide +kernel
theorem d_C_add_43 : decode b_C_add 43 = .ok (.ireturn, 1) := by decide +kernel
theorem d_C_countBetween_0 : decode b_C_countBetween 0 = .ok (.iconst 0, 1) := by decide +kernel
theorem d_C_countBetween_1 : decode b_C_countBetween 1 = .ok (.istore 5, 2) := by decide +kernel
theorem d_C_countBetween_3 : decode b_C_countBetween 3 = .ok (.iconst 0, 1) := by decide +kernel
theorem d_C_countBetween_4 : decode b_C_countBetween 4 = .ok (.istore 6, 2) := by decide +kernel
theorem d_C_countBetween_6 : decode b_C_countBetween 6 = .ok (.iload 6, 2) := by decide +kernel
theorem d_C_countBetween_8 : decode b_C_countBetween 8 = .ok (.aload_n 0, 1) := by decide +kernel
theorem d_C_countBetween_9 : decode b_C_countBetween 9 = .ok (.getfield 15, 3) := by decide +kernel
theorem d_C_countBetween_12 : decode b_C_countBetween 12 = .ok (.if_icmp .ge 36, 3) := by decide +kernel
theorem d_C_countBetween_15 : decode b_C_countBetween 15 = .ok (.aload_n 0, 1) := by decide +kernel
theorem d_C_countBetween_16 : decode b_C_countBetween 16 = .ok (.getfield 9, 3) := by decide +kernel
theorem d_C_countBetween_19 : decode b_C_countBetween 19 = .ok (.iload 6, 2) := by decide +kernel
theorem d_C_countBetween_21 : decode b_C_countBetween 21 = .ok (.laload, 1) := by decide +kernel
theorem d_C_countBetween_22 : decode b_C_countBetween 22 = .ok (.lload_n 1, 1) := by decide +kernel
theorem d_C_countBetween_23 : decode b_C_countBetween 23 = .ok (.lcmp, 1) := by decide +kernel
theorem d_C_countBetween_24 : decode b_C_countBetween 24 = .ok (.ifCond .le 18, 3) := by decide +kernel
theorem d_C_countBetween_27 : decode b_C_countBetween 27 = .ok (.aload_n 0, 1) := by decide +kernel
theorem d_C_countBetween_28 : decode b_C_countBetween 28 = .ok (.getfield 9, 3) := by decide +kernel
theorem d_C_countBetween_31 : decode b_C_countBetween 31 = .ok (.iload 6, 2) := by decide +kernel
theorem d_C_countBetween_33 : decode b_C_countBetween 33 = .ok (.laload, 1) := by decide +kernel
theorem d_C_countBetween_34 : decode b_C_countBetween 34 = .ok (.lload_n 3, 1) := by decide +kernel
theorem d_C_countBetween_35 : decode b_C_countBetween 35 = .ok (.lcmp, 1) := by decide +kernel
theorem d_C_countBetween_36 : decode b_C_countBetween 36 = .ok (.ifCond .gt 6, 3) := by decide +kernel
theorem d_C_countBetween_39 : decode b_C_countBetween 39 = .ok (.iinc 5 1, 3) := by decide +kernel
theorem d_C_countBetween_42 : decode b_C_countBetween 42 = .ok (.iinc 6 1, 3) := by decide +kernel
theorem d_C_countBetween_45 : decode b_C_countBetween 45 = .ok (.goto (-39), 3) := by decide +kernel
theorem d_C_countBetween_48 : decode b_C_countBetween 48 = .ok (.iload 5, 2) := by decide +kernel
theorem d_C_countBetween_50 : decode b_C_countBetween 50 = .ok (.ireturn, 1) := by decide +kernel
theorem d_C_openDays_0 : decode b_C_openDays 0 = .ok (.lload_n 3, 1) := by decide +kernel
theorem d_C_openDays_1 : decode b_C_openDays 1 = .ok (.lload_n 1, 1) := by decide +kernel
theorem d_C_openDays_2 : decode b_C_openDays 2 = .ok (.lcmp, 1) := by decide +kernel
theorem d_C_openDays_3 : decode b_C_openDays 3 = .ok (.ifCond .le 17, 3) := by decide +kernel
theorem d_C_openDays_6 : decode b_C_openDays 6 = .ok (.lload_n 3, 1) := by decide +kernel
theorem d_C_openDays_7 : decode b_C_openDays 7 = .ok (.lload_n 1, 1) := by decide +kernel
theorem d_C_openDays_8 : decode b_C_openDays 8 = .ok (.lsub, 1) := by decide +kernel
theorem d_C_openDays_9 : decode b_C_openDays 9 = .ok (.aload_n 0, 1) := by decide +kernel
theorem d_C_openDays_10 : decode b_C_openDays 10 = .ok (.lload_n 1, 1) := by decide +kernel
theorem d_C_openDays_11 : decode b_C_openDays 11 = .ok (.lload_n 3, 1) := by decide +kernel
theorem d_C_openDays_12 : decode b_C_openDays 12 = .ok (.invokevirtual 19, 3) := by decide +kernel
theorem d_C_openDays_15 : decode b_C_openDays 15 = .ok (.i2l, 1) := by decide +kernel
theorem d_C_openDays_16 : decode b_C_openDays 16 = .ok (.lsub, 1) := by decide +kernel
theorem d_C_openDays_17 : decode b_C_openDays 17 = .ok (.goto 4, 3) := by decide +kernel
theorem d_C_openDays_20 : decode b_C_openDays 20 = .ok (.lconst 0, 1) := by decide +kernel
theorem d_C_openDays_21 : decode b_C_openDays 21 = .ok (.lreturn, 1) := by decide +kernel
theorem d_D_init_0 : decode b_D_init 0 = .ok (.aload_n 0, 1) := by decide +kernel
theorem d_D_init_1 : decode b_D_init 1 = .ok (.invokespecial 3, 3) := by decide +kernel
theorem d_D_init_4 : decode b_D_init 4 = .ok (.aload_n 0, 1) := by decide +kernel
theorem d_D_init_5 : decode b_D_init 5 = .ok (.aload_n 1, 1) := by decide +kernel
theorem d_D_init_6 : decode b_D_init 6 = .ok (.getfield 9, 3) := by decide +kernel
theorem d_D_init_9 : decode b_D_init 9 = .ok (.putfield 15, 3) := by decide +kernel
theorem d_D_init_12 : decode b_D_init 12 = .ok (.aload_n 0, 1) := by decide +kernel
theorem d_D_init_13 : decode b_D_init 13 = .ok (.aload_n 1, 1) := by decide +kernel
theorem d_D_init_14 : decode b_D_init 14 = .ok (.getfield 18, 3) := by decide +kernel
theorem d_D_init_17 : decode b_D_init 17 = .ok (.putfield 22, 3) := by decide +kernel
theorem d_D_init_20 : decode b_D_init 20 = .ok (.aload_n 0, 1) := by decide +kernel
theorem d_D_init_21 : decode b_D_init 21 = .ok (.iload_n 2, 1) := by decide +kernel
theorem d_D_init_22 : decode b_D_init 22 = .ok (.putfield 23, 3) := by decide +kernel
theorem d_D_init_25 : decode b_D_init 25 = .ok (.aload_n 0, 1) := by decide +kernel
theorem d_D_init_26 : decode b_D_init 26 = .ok (.lload_n 3, 1) := by decide +kernel
theorem d_D_init_27 : decode b_D_init 27 = .ok (.putfield 26, 3) := by decide +kernel
theorem d_D_init_30 : decode b_D_init 30 = .ok (.aload_n 0, 1) := by decide +kernel
theorem d_D_init_31 : decode b_D_init 31 = .ok (.lload 5, 2) := by decide +kernel
theorem d_D_init_33 : decode b_D_init 33 = .ok (.putfield 30, 3) := by decide +kernel
theorem d_D_init_36 : decode b_D_init 36 = .ok (.aload_n 0, 1) := by decide +kernel
theorem d_D_init_37 : decode b_D_init 37 = .ok (.lload_n 3, 1) := by decide +kernel
theorem d_D_init_38 : decode b_D_init 38 = .ok (.putfield 33, 3) := by decide +kernel
theorem d_D_init_41 : decode b_D_init 41 = .ok (.return_, 1) := by decide +kernel
theorem d_D_take_0 : decode b_D_take 0 = .ok (.lload_n 1, 1) := by decide +kernel
theorem d_D_take_1 : decode b_D_take 1 = .ok (.aload_n 0, 1) := by decide +kernel
theorem d_D_take_2 : decode b_D_take 2 = .ok (.getfield 33, 3) := by decide +kernel
theorem d_D_take_5 : decode b_D_take 5 = .ok (.invokestatic 36, 3) := by decide +kernel
theorem d_D_take_8 : decode b_D_take 8 = .ok (.lstore_n 3, 1) := by decide +kernel
theorem d_D_take_9 : decode b_D_take 9 = .ok (.aload_n 0, 1) := by decide +kernel
theorem d_D_take_10 : decode b_D_take 10 = .ok (.dup, 1) := by decide +kernel
theorem d_D_take_11 : decode b_D_take 11 = .ok (.getfield 33, 3) := by decide +kernel
theorem d_D_take_14 : decode b_D_take 14 = .ok (.lload_n 3, 1) := by decide +kernel
theorem d_D_take_15 : decode b_D_take 15 = .ok (.lsub, 1) := by decide +kernel
theorem d_D_take_16 : decode b_D_take 16 = .ok (.putfield 33, 3) := by decide +kernel
theorem d_D_take_19 : decode b_D_take 19 = .ok (.aload_n 0, 1) := by decide +kernel
theorem d_D_take_20 : decode b_D_take 20 = .ok (.dup, 1) := by decide +kernel
theorem d_D_take_21 : decode b_D_take 21 = .ok (.getfield 42, 3) := by decide +kernel
theorem d_D_take_24 : decode b_D_take 24 = .ok (.lload_n 3, 1) := by decide +kernel
theorem d_D_take_25 : decode b_D_take 25 = .ok (.ladd, 1) := by decide +kernel
theorem d_D_take_26 : decode b_D_take 26 = .ok (.putfield 42, 3) := by decide +kernel
theorem d_D_take_29 : decode b_D_take 29 = .ok (.lload_n 3, 1) := by decide +kernel
theorem d_D_take_30 : decode b_D_take 30 = .ok (.lreturn, 1) := by decide +kernel
theorem d_D_interestAt_0 : decode b_D_interestAt 0 = .ok (.lload_n 1, 1) := by decide +kernel
theorem d_D_interestAt_1 : decode b_D_interestAt 1 = .ok (.aload_n 0, 1) := by decide +kernel
theorem d_D_interestAt_2 : decode b_D_interestAt 2 = .ok (.getfield 30, 3) := by decide +kernel
theorem d_D_interestAt_5 : decode b_D_interestAt 5 = .ok (.lcmp, 1) := by decide +kernel
theorem d_D_interestAt_6 : decode b_D_interestAt 6 = .ok (.ifCond .le 27, 3) := by decide +kernel
theorem d_D_interestAt_9 : decode b_D_interestAt 9 = .ok (.aload_n 0, 1) := by decide +kernel
theorem d_D_interestAt_10 : decode b_D_interestAt 10 = .ok (.getfield 22, 3) := by decide +kernel
theorem d_D_interestAt_13 : decode b_D_interestAt 13 = .ok (.aload_n 0, 1) := by decide +kernel
theorem d_D_interestAt_14 : decode b_D_interestAt 14 = .ok (.getfield 33, 3) := by decide +kernel
theorem d_D_interestAt_17 : decode b_D_interestAt 17 = .ok (.lload_n 1, 1) := by decide +kernel
theorem d_D_interestAt_18 : decode b_D_interestAt 18 = .ok (.aload_n 0, 1) := by decide +kernel
theorem d_D_interestAt_19 : decode b_D_interestAt 19 = .ok (.getfield 30, 3) := by decide +kernel
theorem d_D_interestAt_22 : decode b_D_interestAt 22 = .ok (.lsub, 1) := by decide +kernel
theorem d_D_interestAt_23 : decode b_D_interestAt 23 = .ok (.ldc2_w 45, 3) := by decide +kernel
theorem d_D_interestAt_26 : decode b_D_interestAt 26 = .ok (.ldiv, 1) := by decide +kernel
theorem d_D_interestAt_27 : decode b_D_interestAt 27 = .ok (.invokevirtual 47, 3) := by decide +kernel
theorem d_D_interestAt_30 : decode b_D_interestAt 30 = .ok (.goto 4, 3) := by decide +kernel
theorem d_D_interestAt_33 : decode b_D_interestAt 33 = .ok (.lconst 0, 1) := by decide +kernel
theorem d_D_interestAt_34 : decode b_D_interestAt 34 = .ok (.lreturn, 1) := by decide +kernel
theorem d_B_init_0 : decode b_B_init 0 = .ok (.aload_n 0, 1) := by decide +kernel
theorem d_B_init_1 : decode b_B_init 1 = .ok (.invokespecial 3, 3) := by decide +kernel
theorem d_B_init_4 : decode b_B_init 4 = .ok (.aload_n 0, 1) := by decide +kernel
theorem d_B_init_5 : decode b_B_init 5 = .ok (.sipush 200, 3) := by decide +kernel
theorem d_B_init_8 : decode b_B_init 8 = .ok (.anewarray 9, 3) := by decide +kernel
theorem d_B_init_11 : decode b_B_init 11 = .ok (.putfield 11, 3) := by decide +kernel
theorem d_B_init_14 : decode b_B_init 14 = .ok (.aload_n 0, 1) := by decide +kernel
theorem d_B_init_15 : decode b_B_init 15 = .ok (.sipush 200, 3) := by decide +kernel
theorem d_B_init_18 : decode b_B_init 18 = .ok (.anewarray 9, 3) := by decide +kernel
theorem d_B_init_21 : decode b_B_init 21 = .ok (.putfield 17, 3) := by decide +kernel
theorem d_B_init_24 : decode b_B_init 24 = .ok (.return_, 1) := by decide +kernel
theorem d_B_isFull_0 : decode b_B_isFull 0 = .ok (.aload_n 0, 1) := by decide +kernel
theorem d_B_isFull_1 : decode b_B_isFull 1 = .ok (.getfield 20, 3) := by decide +kernel
theorem d_B_isFull_4 : decode b_B_isFull 4 = .ok (.sipush 200, 3) := by decide +kernel
theorem d_B_isFull_7 : decode b_B_isFull 7 = .ok (.if_icmp .lt 7, 3) := by decide +kernel
theorem d_B_isFull_10 : decode b_B_isFull 10 = .ok (.iconst 1, 1) := by decide +kernel
theorem d_B_isFull_11 : decode b_B_isFull 11 = .ok (.goto 4, 3) := by decide +kernel
theorem d_B_isFull_14 : decode b_B_isFull 14 = .ok (.iconst 0, 1) := by decide +kernel
theorem d_B_isFull_15 : decode b_B_isFull 15 = .ok (.ireturn, 1) := by decide +kernel
theorem d_B_numbered_0 : decode b_B_numbered 0 = .ok (.iload_n 1, 1) := by decide +kernel
theorem d_B_numbered_1 : decode b_B_numbered 1 = .ok (.iconst 1, 1) := by decide +kernel
theorem d_B_numbered_2 : decode b_B_numbered 2 = .ok (.aload_n 0, 1) := by decide +kernel
theorem d_B_numbered_3 : decode b_B_numbered 3 = .ok (.getfield 20, 3) := by decide +kernel
theorem d_B_numbered_6 : decode b_B_numbered 6 = .ok (.invokestatic 24, 3) := by decide +kernel
theorem d_B_numbered_9 : decode b_B_numbered 9 = .ok (.ifCond .eq 14, 3) := by decide +kernel
theorem d_B_numbered_12 : decode b_B_numbered 12 = .ok (.aload_n 0, 1) := by decide +kernel
theorem d_B_numbered_13 : decode b_B_numbered 13 = .ok (.getfield 11, 3) := by decide +kernel
theorem d_B_numbered_16 : decode b_B_numbered 16 = .ok (.iload_n 1, 1) := by decide +kernel
theorem d_B_numbered_17 : decode b_B_numbered 17 = .ok (.iconst 1, 1) := by decide +kernel
theorem d_B_numbered_18 : decode b_B_numbered 18 = .ok (.isub, 1) := by decide +kernel
theorem d_B_numbered_19 : decode b_B_numbered 19 = .ok (.aaload, 1) := by decide +kernel
theorem d_B_numbered_20 : decode b_B_numbered 20 = .ok (.goto 4, 3) := by decide +kernel
theorem d_B_numbered_23 : decode b_B_numbered 23 = .ok (.aconst_null, 1) := by decide +kernel
theorem d_B_numbered_24 : decode b_B_numbered 24 = .ok (.areturn, 1) := by decide +kernel
theorem d_B_inOrder_0 : decode b_B_inOrder 0 = .ok (.iload_n 1, 1) := by decide +kernel
theorem d_B_inOrder_1 : decode b_B_inOrder 1 = .ok (.iconst 0, 1) := by decide +kernel
theorem d_B_inOrder_2 : decode b_B_inOrder 2 = .ok (.aload_n 0, 1) := by decide +kernel
theorem d_B_inOrder_3 : decode b_B_inOrder 3 = .ok (.getfield 20, 3) := by decide +kernel
theorem d_B_inOrder_6 : decode b_B_inOrder 6 = .ok (.iconst 1, 1) := by decide +kernel
theorem d_B_inOrder_7 : decode b_B_inOrder 7 = .ok (.isub, 1) := by decide +kernel
theorem d_B_inOrder_8 : decode b_B_inOrder 8 = .ok (.invokestatic 24, 3) := by decide +kernel
theorem d_B_inOrder_11 : decode b_B_inOrder 11 = .ok (.ifCond .eq 12, 3) := by decide +kernel
theorem d_B_inOrder_14 : decode b_B_inOrder 14 = .ok (.aload_n 0, 1) := by decide +kernel
theorem d_B_inOrder_15 : decode b_B_inOrder 15 = .ok (.getfield 17, 3) := by decide +kernel
theorem d_B_inOrder_18 : decode b_B_inOrder 18 = .ok (.iload_n 1, 1) := by decide +kernel
theorem d_B_inOrder_19 : decode b_B_inOrder 19 = .ok (.aaload, 1) := by decide +kernel
theorem d_B_inOrder_20 : decode b_B_inOrder 20 = .ok (.goto 4, 3) := by decide +kernel
theorem d_B_inOrder_23 : decode b_B_inOrder 23 = .ok (.aconst_null, 1) := by decide +kernel
theorem d_B_inOrder_24 : decode b_B_inOrder 24 = .ok (.areturn, 1) := by decide +kernel
theorem d_B_add_0 : decode b_B_add 0 = .ok (.aload_n 0, 1) := by decide +kernel
theorem d_B_add_1 : decode b_B_add 1 = .ok (.invokevirtual 28, 3) := by decide +kernel
theorem d_B_add_4 : decode b_B_add 4 = .ok (.ifCond .eq 5, 3) := by decide +kernel
theorem d_B_add_7 : decode b_B_add 7 = .ok (.iconst (-1), 1) := by decide +kernel
theorem d_B_add_8 : decode b_B_add 8 = .ok (.ireturn, 1) := by decide +kernel
theorem d_B_add_9 : decode b_B_add 9 = .ok (.new 9, 3) := by decide +kernel
theorem d_B_add_12 : decode b_B_add 12 = .ok (.dup, 1) := by decide +kernel
theorem d_B_add_13 : decode b_B_add 13 = .ok (.aload_n 1, 1) := by decide +kernel
theorem d_B_add_14 : decode b_B_add 14 = .ok (.iload_n 2, 1) := by decide +kernel
theorem d_B_add_15 : decode b_B_add 15 = .ok (.lload_n 3, 1) := by decide +kernel
theorem d_B_add_16 : decode b_B_add 16 = .ok (.lload 5, 2) := by decide +kernel
theorem d_B_add_18 : decode b_B_add 18 = .ok (.invokespecial 32, 3) := by decide +kernel
theorem d_B_add_21 : decode b_B_add 21 = .ok (.astore 7, 2) := by decide +kernel
theorem d_B_add_23 : decode b_B_add 23 = .ok (.aload_n 0, 1) := by decide +kernel
theorem d_B_add_24 : decode b_B_add 24 = .ok (.getfield 20, 3) := by decide +kernel
theorem d_B_add_27 : decode b_B_add 27 = .ok (.istore 8, 2) := by decide +kernel
theorem d_B_add_29 : decode b_B_add 29 = .ok (.iload 8, 2) := by decide +kernel
theorem d_B_add_31 : decode b_B_add 31 = .ok (.ifCond .le 42, 3) := by decide +kernel
theorem d_B_add_34 : decode b_B_add 34 = .ok (.aload_n 0, 1) := by decide +kernel
theorem d_B_add_35 : decode b_B_add 35 = .ok (.getfield 17, 3) := by decide +kernel
theorem d_B_add_38 : decode b_B_add 38 = .ok (.iload 8, 2) := by decide +kernel
theorem d_B_add_40 : decode b_B_add 40 = .ok (.iconst 1, 1) := by decide +kernel
theorem d_B_add_41 : decode b_B_add 41 = .ok (.isub, 1) := by decide +kernel
theorem d_B_add_42 : decode b_B_add 42 = .ok (.aaload, 1) := by decide +kernel
theorem d_B_add_43 : decode b_B_add 43 = .ok (.lload 5, 2) := by decide +kernel
theorem d_B_add_45 : decode b_B_add 45 = .ok (.invokestatic 35, 3) := by decide +kernel
theorem d_B_add_48 : decode b_B_add 48 = .ok (.ifCond .eq 25, 3) := by decide +kernel
theorem d_B_add_51 : decode b_B_add 51 = .ok (.aload_n 0, 1) := by decide +kernel
theorem d_B_add_52 : decode b_B_add 52 = .ok (.getfield 17, 3) := by decide +kernel
theorem d_B_add_55 : decode b_B_add 55 = .ok (.iload 8, 2) := by decide +kernel
theorem d_B_add_57 : decode b_B_add 57 = .ok (.aload_n 0, 1) := by decide +kernel
theorem d_B_add_58 : decode b_B_add 58 = .ok (.getfield 17, 3) := by decide +kernel
theorem d_B_add_61 : decode b_B_add 61 = .ok (.iload 8, 2) := by decide +kernel
theorem d_B_add_63 : decode b_B_add 63 = .ok (.iconst 1, 1) := by decide +kernel
theorem d_B_add_64 : decode b_B_add 64 = .ok (.isub, 1) := by decide +kernel
theorem d_B_add_65 : decode b_B_add 65 = .ok (.aaload, 1) := by decide +kernel
theorem d_B_add_66 : decode b_B_add 66 = .ok (.aastore, 1) := by decide +kernel
theorem d_B_add_67 : decode b_B_add 67 = .ok (.iinc 8 (-1), 3) := by decide +kernel
theorem d_B_add_70 : decode b_B_add 70 = .ok (.goto (-41), 3) := by decide +kernel
theorem d_B_add_73 : decode b_B_add 73 = .ok (.aload_n 0, 1) := by decide +kernel
theorem d_B_add_74 : decode b_B_add 74 = .ok (.getfield 17, 3) := by decide +kernel
theorem d_B_add_77 : decode b_B_add 77 = .ok (.iload 8, 2) := by decide +kernel
theorem d_B_add_79 : decode b_B_add 79 = .ok (.aload 7, 2) := by decide +kernel
theorem d_B_add_81 : decode b_B_add 81 = .ok (.aastore, 1) := by decide +kernel
theorem d_B_add_82 : decode b_B_add 82 = .ok (.aload_n 0, 1) := by decide +kernel
theorem d_B_add_83 : decode b_B_add 83 = .ok (.getfield 11, 3) := by decide +kernel
theorem d_B_add_86 : decode b_B_add 86 = .ok (.aload_n 0, 1) := by decide +kernel
theorem d_B_add_87 : decode b_B_add 87 = .ok (.getfield 20, 3) := by decide +kernel
theorem d_B_add_90 : decode b_B_add 90 = .ok (.aload 7, 2) := by decide +kernel
theorem d_B_add_92 : decode b_B_add 92 = .ok (.aastore, 1) := by decide +kernel
theorem d_B_add_93 : decode b_B_add 93 = .ok (.aload_n 0, 1) := by decide +kernel
theorem d_B_add_94 : decode b_B_add 94 = .ok (.dup, 1) := by decide +kernel
theorem d_B_add_95 : decode b_B_add 95 = .ok (.getfield 20, 3) := by decide +kernel
theorem d_B_add_98 : decode b_B_add 98 = .ok (.iconst 1, 1) := by decide +kernel
theorem d_B_add_99 : decode b_B_add 99 = .ok (.iadd, 1) := by decide +kernel
theorem d_B_add_100 : decode b_B_add 100 = .ok (.putfield 20, 3) := by decide +kernel
theorem d_B_add_103 : decode b_B_add 103 = .ok (.aload_n 0, 1) := by decide +kernel
theorem d_B_add_104 : decode b_B_add 104 = .ok (.getfield 20, 3) := by decide +kernel
theorem d_B_add_107 : decode b_B_add 107 = .ok (.ireturn, 1) := by decide +kernel
theorem d_B_cameBehind_0 : decode b_B_cameBehind 0 = .ok (.aload_n 0, 1) := by decide +kernel
theorem d_B_cameBehind_1 : decode b_B_cameBehind 1 = .ok (.ifnull 16, 3) := by decide +kernel
theorem d_B_cameBehind_4 : decode b_B_cameBehind 4 = .ok (.aload_n 0, 1) := by decide +kernel
theorem d_B_cameBehind_5 : decode b_B_cameBehind 5 = .ok (.getfield 39, 3) := by decide +kernel
theorem d_B_cameBehind_8 : decode b_B_cameBehind 8 = .ok (.lload_n 1, 1) := by decide +kernel
theorem d_B_cameBehind_9 : decode b_B_cameBehind 9 = .ok (.lcmp, 1) := by decide +kernel
theorem d_B_cameBehind_10 : decode b_B_cameBehind 10 = .ok (.ifCond .le 7, 3) := by decide +kernel
theorem d_B_cameBehind_13 : decode b_B_cameBehind 13 = .ok (.iconst 1, 1) := by decide +kernel
theorem d_B_cameBehind_14 : decode b_B_cameBehind 14 = .ok (.goto 4, 3) := by decide +kernel
theorem d_B_cameBehind_17 : decode b_B_cameBehind 17 = .ok (.iconst 0, 1) := by decide +kernel
theorem d_B_cameBehind_18 : decode b_B_cameBehind 18 = .ok (.ireturn, 1) := by decide +kernel
theorem d_B_leftOf_0 : decode b_B_leftOf 0 = .ok (.lconst 0, 1) := by decide +kernel
theorem d_B_leftOf_1 : decode b_B_leftOf 1 = .ok (.lstore_n 2, 1) := by decide +kernel
theorem d_B_leftOf_2 : decode b_B_leftOf 2 = .ok (.iconst 0, 1) := by decide +kernel
theorem d_B_leftOf_3 : decode b_B_leftOf 3 = .ok (.istore 4, 2) := by decide +kernel
theorem d_B_leftOf_5 : decode b_B_leftOf 5 = .ok (.iload 4, 2) := by decide +kernel
theorem d_B_leftOf_7 : decode b_B_leftOf 7 = .ok (.aload_n 0, 1) := by decide +kernel
theorem d_B_leftOf_8 : decode b_B_leftOf 8 = .ok (.getfield 20, 3) := by decide +kernel
theorem d_B_leftOf_11 : decode b_B_leftOf 11 = .ok (.if_icmp .ge 40, 3) := by decide +kernel
theorem d_B_leftOf_14 : decode b_B_leftOf 14 = .ok (.aload_n 0, 1) := by decide +kernel
theorem d_B_leftOf_15 : decode b_B_leftOf 15 = .ok (.getfield 11, 3) := by decide +kernel
theorem d_B_leftOf_18 : decode b_B_leftOf 18 = .ok (.iload 4, 2) := by decide +kernel
theorem d_B_leftOf_20 : decode b_B_leftOf 20 = .ok (.aaload, 1) := by decide +kernel
theorem d_B_leftOf_21 : decode b_B_leftOf 21 = .ok (.astore 5, 2) := by decide +kernel
theorem d_B_leftOf_23 : decode b_B_leftOf 23 = .ok (.aload 5, 2) := by decide +kernel
theorem d_B_leftOf_25 : decode b_B_leftOf 25 = .ok (.ifnull 20, 3) := by decide +kernel
theorem d_B_leftOf_28 : decode b_B_leftOf 28 = .ok (.aload 5, 2) := by decide +kernel
theorem d_B_leftOf_30 : decode b_B_leftOf 30 = .ok (.getfield 43, 3) := by decide +kernel
theorem d_B_leftOf_33 : decode b_B_leftOf 33 = .ok (.iload_n 1, 1) := by decide +kernel
theorem d_B_leftOf_34 : decode b_B_leftOf 34 = .ok (.if_icmp .ne 11, 3) := by decide +kernel
theorem d_B_leftOf_37 : decode b_B_leftOf 37 = .ok (.lload_n 2, 1) := by decide +kernel
theorem d_B_leftOf_38 : decode b_B_leftOf 38 = .ok (.aload 5, 2) := by decide +kernel
theorem d_B_leftOf_40 : decode b_B_leftOf 40 = .ok (.getfield 46, 3) := by decide +kernel
theorem d_B_leftOf_43 : decode b_B_leftOf 43 = .ok (.ladd, 1) := by decide +kernel
theorem d_B_leftOf_44 : decode b_B_leftOf 44 = .ok (.lstore_n 2, 1) := by decide +kernel
theorem d_B_leftOf_45 : decode b_B_leftOf 45 = .ok (.iinc 4 1, 3) := by decide +kernel
theorem d_B_leftOf_48 : decode b_B_leftOf 48 = .ok (.goto (-43), 3) := by decide +kernel
theorem d_B_leftOf_51 : decode b_B_leftOf 51 = .ok (.lload_n 2, 1) := by decide +kernel
theorem d_B_leftOf_52 : decode b_B_leftOf 52 = .ok (.lreturn, 1) := by decide +kernel
theorem d_B_interestOf_0 : decode b_B_interestOf 0 = .ok (.lconst 0, 1) := by decide +kernel
theorem d_B_interestOf_1 : decode b_B_interestOf 1 = .ok (.lstore 4, 2) := by decide +kernel
theorem d_B_interestOf_3 : decode b_B_interestOf 3 = .ok (.iconst 0, 1) := by decide +kernel
theorem d_B_interestOf_4 : decode b_B_interestOf 4 = .ok (.istore 6, 2) := by decide +kernel
theorem d_B_interestOf_6 : decode b_B_interestOf 6 = .ok (.iload 6, 2) := by decide +kernel
theorem d_B_interestOf_8 : decode b_B_interestOf 8 = .ok (.aload_n 0, 1) := by decide +kernel
theorem d_B_interestOf_9 : decode b_B_interestOf 9 = .ok (.getfield 20, 3) := by decide +kernel
theorem d_B_interestOf_12 : decode b_B_interestOf 12 = .ok (.if_icmp .ge 43, 3) := by decide +kernel
theorem d_B_interestOf_15 : decode b_B_interestOf 15 = .ok (.aload_n 0, 1) := by decide +kernel
theorem d_B_interestOf_16 : decode b_B_interestOf 16 = .ok (.getfield 11, 3) := by decide +kernel
theorem d_B_interestOf_19 : decode b_B_interestOf 19 = .ok (.iload 6, 2) := by decide +kernel
theorem d_B_interestOf_21 : decode b_B_interestOf 21 = .ok (.aaload, 1) := by decide +kernel
theorem d_B_interestOf_22 : decode b_B_interestOf 22 = .ok (.astore 7, 2) := by decide +kernel
theorem d_B_interestOf_24 : decode b_B_interestOf 24 = .ok (.aload 7, 2) := by decide +kernel
theorem d_B_interestOf_26 : decode b_B_interestOf 26 = .ok (.ifnull 23, 3) := by decide +kernel
theorem d_B_interestOf_29 : decode b_B_interestOf 29 = .ok (.aload 7, 2) := by decide +kernel
theorem d_B_interestOf_31 : decode b_B_interestOf 31 = .ok (.getfield 43, 3) := by decide +kernel
theorem d_B_interestOf_34 : decode b_B_interestOf 34 = .ok (.iload_n 1, 1) := by decide +kernel
theorem d_B_interestOf_35 : decode b_B_interestOf 35 = .ok (.if_icmp .ne 14, 3) := by decide +kernel
theorem d_B_interestOf_38 : decode b_B_interestOf 38 = .ok (.lload 4, 2) := by decide +kernel
theorem d_B_interestOf_40 : decode b_B_interestOf 40 = .ok (.aload 7, 2) := by decide +kernel
theorem d_B_interestOf_42 : decode b_B_interestOf 42 = .ok (.lload_n 2, 1) := by decide +kernel
theorem d_B_interestOf_43 : decode b_B_interestOf 43 = .ok (.invokevirtual 49, 3) := by decide +kernel
theorem d_B_interestOf_46 : decode b_B_interestOf 46 = .ok (.ladd, 1) := by decide +kernel
theorem d_B_interestOf_47 : decode b_B_interestOf 47 = .ok (.lstore 4, 2) := by decide +kernel
theorem d_B_interestOf_49 : decode b_B_interestOf 49 = .ok (.iinc 6 1, 3) := by decide +kernel
theorem d_B_interestOf_52 : decode b_B_interestOf 52 = .ok (.goto (-46), 3) := by decide +kernel
theorem d_B_interestOf_55 : decode b_B_interestOf 55 = .ok (.lload 4, 2) := by decide +kernel
theorem d_B_interestOf_57 : decode b_B_interestOf 57 = .ok (.lreturn, 1) := by decide +kernel
theorem d_L_init_0 : decode b_L_init 0 = .ok (.aload_n 0, 1) := by decide +kernel
theorem d_L_init_1 : decode b_L_init 1 = .ok (.invokespecial 1, 3) := by decide +kernel
theorem d_L_init_4 : decode b_L_init 4 = .ok (.aload_n 0, 1) := by decide +kernel
theorem d_L_init_5 : decode b_L_init 5 = .ok (.iload_n 1, 1) := by decide +kernel
theorem d_L_init_6 : decode b_L_init 6 = .ok (.putfield 7, 3) := by decide +kernel
theorem d_L_init_9 : decode b_L_init 9 = .ok (.aload_n 0, 1) := by decide +kernel
theorem d_L_init_10 : decode b_L_init 10 = .ok (.iload_n 2, 1) := by decide +kernel
theorem d_L_init_11 : decode b_L_init 11 = .ok (.putfield 13, 3) := by decide +kernel
theorem d_L_init_14 : decode b_L_init 14 = .ok (.aload_n 0, 1) := by decide +kernel
theorem d_L_init_15 : decode b_L_init 15 = .ok (.aload_n 3, 1) := by decide +kernel
theorem d_L_init_16 : decode b_L_init 16 = .ok (.putfield 16, 3) := by decide +kernel
theorem d_L_init_19 : decode b_L_init 19 = .ok (.aload_n 0, 1) := by decide +kernel
theorem d_L_init_20 : decode b_L_init 20 = .ok (.lload 4, 2) := by decide +kernel
theorem d_L_init_22 : decode b_L_init 22 = .ok (.putfield 20, 3) := by decide +kernel
theorem d_L_init_25 : decode b_L_init 25 = .ok (.return_, 1) := by decide +kernel
theorem d_L_isLent_0 : decode b_L_isLent 0 = .ok (.aload_n 0, 1) := by decide +kernel
theorem d_L_isLent_1 : decode b_L_isLent 1 = .ok (.getfield 24, 3) := by decide +kernel
theorem d_L_isLent_4 : decode b_L_isLent 4 = .ok (.ifCond .ne 14, 3) := by decide +kernel
theorem d_L_isLent_7 : decode b_L_isLent 7 = .ok (.aload_n 0, 1) := by decide +kernel
theorem d_L_isLent_8 : decode b_L_isLent 8 = .ok (.getfield 28, 3) := by decide +kernel
theorem d_L_isLent_11 : decode b_L_isLent 11 = .ok (.ifnonnull 7, 3) := by decide +kernel
theorem d_L_isLent_14 : decode b_L_isLent 14 = .ok (.iconst 1, 1) := by decide +kernel
theorem d_L_isLent_15 : decode b_L_isLent 15 = .ok (.goto 4, 3) := by decide +kernel
theorem d_L_isLent_18 : decode b_L_isLent 18 = .ok (.iconst 0, 1) := by decide +kernel
theorem d_L_isLent_19 : decode b_L_isLent 19 = .ok (.ireturn, 1) := by decide +kernel
theorem d_R_init_0 : decode b_R_init 0 = .ok (.aload_n 0, 1) := by decide +kernel
theorem d_R_init_1 : decode b_R_init 1 = .ok (.invokespecial 1, 3) := by decide +kernel
theorem d_R_init_4 : decode b_R_init 4 = .ok (.aload_n 0, 1) := by decide +kernel
theorem d_R_init_5 : decode b_R_init 5 = .ok (.iload_n 1, 1) := by decide +kernel
theorem d_R_init_6 : decode b_R_init 6 = .ok (.putfield 7, 3) := by decide +kernel
theorem d_R_init_9 : decode b_R_init 9 = .ok (.aload_n 0, 1) := by decide +kernel
theorem d_R_init_10 : decode b_R_init 10 = .ok (.iload_n 2, 1) := by decide +kernel
theorem d_R_init_11 : decode b_R_init 11 = .ok (.putfield 13, 3) := by decide +kernel
theorem d_R_init_14 : decode b_R_init 14 = .ok (.aload_n 0, 1) := by decide +kernel
theorem d_R_init_15 : decode b_R_init 15 = .ok (.iload_n 3, 1) := by decide +kernel
theorem d_R_init_16 : decode b_R_init 16 = .ok (.putfield 16, 3) := by decide +kernel
theorem d_R_init_19 : decode b_R_init 19 = .ok (.return_, 1) := by decide +kernel
theorem d_R_centsFor_0 : decode b_R_centsFor 0 = .ok (.lload_n 1, 1) := by decide +kernel
theorem d_R_centsFor_1 : decode b_R_centsFor 1 = .ok (.aload_n 0, 1) := by decide +kernel
theorem d_R_centsFor_2 : decode b_R_centsFor 2 = .ok (.getfield 16, 3) := by decide +kernel
theorem d_R_centsFor_5 : decode b_R_centsFor 5 = .ok (.i2l, 1) := by decide +kernel
theorem d_R_centsFor_6 : decode b_R_centsFor 6 = .ok (.lcmp, 1) := by decide +kernel
theorem d_R_centsFor_7 : decode b_R_centsFor 7 = .ok (.ifCond .le 21, 3) := by decide +kernel
theorem d_R_centsFor_10 : decode b_R_centsFor 10 = .ok (.lload_n 1, 1) := by decide +kernel
theorem d_R_centsFor_11 : decode b_R_centsFor 11 = .ok (.aload_n 0, 1) := by decide +kernel
theorem d_R_centsFor_12 : decode b_R_centsFor 12 = .ok (.getfield 7, 3) := by decide +kernel
theorem d_R_centsFor_15 : decode b_R_centsFor 15 = .ok (.i2l, 1) := by decide +kernel
theorem d_R_centsFor_16 : decode b_R_centsFor 16 = .ok (.lmul, 1) := by decide +kernel
theorem d_R_centsFor_17 : decode b_R_centsFor 17 = .ok (.aload_n 0, 1) := by decide +kernel
theorem d_R_centsFor_18 : decode b_R_centsFor 18 = .ok (.getfield 13, 3) := by decide +kernel
theorem d_R_centsFor_21 : decode b_R_centsFor 21 = .ok (.i2l, 1) := by decide +kernel
theorem d_R_centsFor_22 : decode b_R_centsFor 22 = .ok (.invokestatic 19, 3) := by decide +kernel
theorem d_R_centsFor_25 : decode b_R_centsFor 25 = .ok (.goto 4, 3) := by decide +kernel
theorem d_R_centsFor_28 : decode b_R_centsFor 28 = .ok (.lconst 0, 1) := by decide +kernel
theorem d_R_centsFor_29 : decode b_R_centsFor 29 = .ok (.lreturn, 1) := by decide +kernel
theorem d_R_interestFor_0 : decode b_R_interestFor 0 = .ok (.aload_n 0, 1) := by decide +kernel
theorem d_R_interestFor_1 : decode b_R_interestFor 1 = .ok (.getfield 25, 3) := by decide +kernel
theorem d_R_interestFor_4 : decode b_R_interestFor 4 = .ok (.ifCond .le 21, 3) := by decide +kernel
theorem d_R_interestFor_7 : decode b_R_interestFor 7 = .ok (.lload_n 1, 1) := by decide +kernel
theorem d_R_interestFor_8 : decode b_R_interestFor 8 = .ok (.aload_n 0, 1) := by decide +kernel
theorem d_R_interestFor_9 : decode b_R_interestFor 9 = .ok (.getfield 28, 3) := by decide +kernel
theorem d_R_interestFor_12 : decode b_R_interestFor 12 = .ok (.i2l, 1) := by decide +kernel
theorem d_R_interestFor_13 : decode b_R_interestFor 13 = .ok (.lmul, 1) := by decide +kernel
theorem d_R_interestFor_14 : decode b_R_interestFor 14 = .ok (.lload_n 3, 1) := by decide +kernel
theorem d_R_interestFor_15 : decode b_R_interestFor 15 = .ok (.lmul, 1) := by decide +kernel
theorem d_R_interestFor_16 : decode b_R_interestFor 16 = .ok (.aload_n 0, 1) := by decide +kernel
theorem d_R_interestFor_17 : decode b_R_interestFor 17 = .ok (.getfield 25, 3) := by decide +kernel
theorem d_R_interestFor_20 : decode b_R_interestFor 20 = .ok (.i2l, 1) := by decide +kernel
theorem d_R_interestFor_21 : decode b_R_interestFor 21 = .ok (.ldiv, 1) := by decide +kernel
theorem d_R_interestFor_22 : decode b_R_interestFor 22 = .ok (.goto 4, 3) := by decide +kernel
theorem d_R_interestFor_25 : decode b_R_interestFor 25 = .ok (.lconst 0, 1) := by decide +kernel
theorem d_R_interestFor_26 : decode b_R_interestFor 26 = .ok (.lreturn, 1) := by decide +kernel
