theorem dX2_init_0 : decode cX2_init 0 = .ok (.aload_n 0, 1) := by decide +kernel
theorem dX2_init_1 : decode cX2_init 1 = .ok (.invokespecial 3, 3) := by decide +kernel
theorem dX2_init_4 : decode cX2_init 4 = .ok (.aload_n 0, 1) := by decide +kernel
theorem dX2_init_5 : decode cX2_init 5 = .ok (.new 9, 3) := by decide +kernel
theorem dX2_init_8 : decode cX2_init 8 = .ok (.dup, 1) := by decide +kernel
theorem dX2_init_9 : decode cX2_init 9 = .ok (.invokespecial 11, 3) := by decide +kernel
theorem dX2_init_12 : decode cX2_init 12 = .ok (.putfield 12, 3) := by decide +kernel
theorem dX2_init_15 : decode cX2_init 15 = .ok (.aload_n 0, 1) := by decide +kernel
theorem dX2_init_16 : decode cX2_init 16 = .ok (.new 16, 3) := by decide +kernel
theorem dX2_init_19 : decode cX2_init 19 = .ok (.dup, 1) := by decide +kernel
theorem dX2_init_20 : decode cX2_init 20 = .ok (.aload_n 0, 1) := by decide +kernel
theorem dX2_init_21 : decode cX2_init 21 = .ok (.getfield 12, 3) := by decide +kernel
theorem dX2_init_24 : decode cX2_init 24 = .ok (.invokespecial 18, 3) := by decide +kernel
theorem dX2_init_27 : decode cX2_init 27 = .ok (.putfield 21, 3) := by decide +kernel
theorem dX2_init_30 : decode cX2_init 30 = .ok (.aload_n 0, 1) := by decide +kernel
theorem dX2_init_31 : decode cX2_init 31 = .ok (.iconst 0, 1) := by decide +kernel
theorem dX2_init_32 : decode cX2_init 32 = .ok (.putfield 25, 3) := by decide +kernel
theorem dX2_init_35 : decode cX2_init 35 = .ok (.return_, 1) := by decide +kernel
theorem dX2_concept_0 : decode cX2_concept 0 = .ok (.aload_n 0, 1) := by decide +kernel
theorem dX2_concept_1 : decode cX2_concept 1 = .ok (.iload_n 1, 1) := by decide +kernel
theorem dX2_concept_2 : decode cX2_concept 2 = .ok (.invokevirtual 29, 3) := by decide +kernel
theorem dX2_concept_5 : decode cX2_concept 5 = .ok (.aload_n 0, 1) := by decide +kernel
theorem dX2_concept_6 : decode cX2_concept 6 = .ok (.invokevirtual 33, 3) := by decide +kernel
theorem dX2_concept_9 : decode cX2_concept 9 = .ok (.aload_n 0, 1) := by decide +kernel
theorem dX2_concept_10 : decode cX2_concept 10 = .ok (.getfield 12, 3) := by decide +kernel
theorem dX2_concept_13 : decode cX2_concept 13 = .ok (.iload_n 1, 1) := by decide +kernel
theorem dX2_concept_14 : decode cX2_concept 14 = .ok (.invokevirtual 36, 3) := by decide +kernel
theorem dX2_concept_17 : decode cX2_concept 17 = .ok (.ireturn, 1) := by decide +kernel
theorem dX2_term_0 : decode cX2_term 0 = .ok (.aload_n 0, 1) := by decide +kernel
theorem dX2_term_1 : decode cX2_term 1 = .ok (.iload_n 1, 1) := by decide +kernel
theorem dX2_term_2 : decode cX2_term 2 = .ok (.invokevirtual 40, 3) := by decide +kernel
theorem dX2_term_5 : decode cX2_term 5 = .ok (.aload_n 0, 1) := by decide +kernel
theorem dX2_term_6 : decode cX2_term 6 = .ok (.iload_n 2, 1) := by decide +kernel
theorem dX2_term_7 : decode cX2_term 7 = .ok (.invokevirtual 43, 3) := by decide +kernel
theorem dX2_term_10 : decode cX2_term 10 = .ok (.iload_n 3, 1) := by decide +kernel
theorem dX2_term_11 : decode cX2_term 11 = .ok (.ifCond .lt 9, 3) := by decide +kernel
theorem dX2_term_14 : decode cX2_term 14 = .ok (.iload_n 3, 1) := by decide +kernel
theorem dX2_term_15 : decode cX2_term 15 = .ok (.bipush 20, 2) := by decide +kernel
theorem dX2_term_17 : decode cX2_term 17 = .ok (.if_icmp .lt 13, 3) := by decide +kernel
theorem dX2_term_20 : decode cX2_term 20 = .ok (.new 46, 3) := by decide +kernel
theorem dX2_term_23 : decode cX2_term 23 = .ok (.dup, 1) := by decide +kernel
theorem dX2_term_24 : decode cX2_term 24 = .ok (.ldc 48, 2) := by decide +kernel
theorem dX2_term_26 : decode cX2_term 26 = .ok (.invokespecial 50, 3) := by decide +kernel
theorem dX2_term_29 : decode cX2_term 29 = .ok (.athrow, 1) := by decide +kernel
theorem dX2_term_30 : decode cX2_term 30 = .ok (.aload_n 0, 1) := by decide +kernel
theorem dX2_term_31 : decode cX2_term 31 = .ok (.getfield 12, 3) := by decide +kernel
theorem dX2_term_34 : decode cX2_term 34 = .ok (.getfield 53, 3) := by decide +kernel
theorem dX2_term_37 : decode cX2_term 37 = .ok (.bipush 24, 2) := by decide +kernel
theorem dX2_term_39 : decode cX2_term 39 = .ok (.if_icmp .ge 16, 3) := by decide +kernel
theorem dX2_term_42 : decode cX2_term 42 = .ok (.aload_n 0, 1) := by decide +kernel
theorem dX2_term_43 : decode cX2_term 43 = .ok (.getfield 12, 3) := by decide +kernel
theorem dX2_term_46 : decode cX2_term 46 = .ok (.iload_n 1, 1) := by decide +kernel
theorem dX2_term_47 : decode cX2_term 47 = .ok (.iload_n 2, 1) := by decide +kernel
theorem dX2_term_48 : decode cX2_term 48 = .ok (.iload_n 3, 1) := by decide +kernel
theorem dX2_term_49 : decode cX2_term 49 = .ok (.invokevirtual 56, 3) := by decide +kernel
theorem dX2_term_52 : decode cX2_term 52 = .ok (.ifCond .eq 13, 3) := by decide +kernel
theorem dX2_term_55 : decode cX2_term 55 = .ok (.new 60, 3) := by decide +kernel
theorem dX2_term_58 : decode cX2_term 58 = .ok (.dup, 1) := by decide +kernel
theorem dX2_term_59 : decode cX2_term 59 = .ok (.ldc 62, 2) := by decide +kernel
theorem dX2_term_61 : decode cX2_term 61 = .ok (.invokespecial 64, 3) := by decide +kernel
theorem dX2_term_64 : decode cX2_term 64 = .ok (.athrow, 1) := by decide +kernel
theorem dX2_term_65 : decode cX2_term 65 = .ok (.aload_n 0, 1) := by decide +kernel
theorem dX2_term_66 : decode cX2_term 66 = .ok (.getfield 12, 3) := by decide +kernel
theorem dX2_term_69 : decode cX2_term 69 = .ok (.iload_n 1, 1) := by decide +kernel
theorem dX2_term_70 : decode cX2_term 70 = .ok (.iload_n 2, 1) := by decide +kernel
theorem dX2_term_71 : decode cX2_term 71 = .ok (.iload_n 3, 1) := by decide +kernel
theorem dX2_term_72 : decode cX2_term 72 = .ok (.invokevirtual 65, 3) := by decide +kernel
theorem dX2_term_75 : decode cX2_term 75 = .ok (.ireturn, 1) := by decide +kernel
theorem dX2_vote_0 : decode cX2_vote 0 = .ok (.aload_n 0, 1) := by decide +kernel
theorem dX2_vote_1 : decode cX2_vote 1 = .ok (.iload_n 1, 1) := by decide +kernel
theorem dX2_vote_2 : decode cX2_vote 2 = .ok (.invokevirtual 69, 3) := by decide +kernel
theorem dX2_vote_5 : decode cX2_vote 5 = .ok (.iload_n 2, 1) := by decide +kernel
theorem dX2_vote_6 : decode cX2_vote 6 = .ok (.ifCond .lt 8, 3) := by decide +kernel
theorem dX2_vote_9 : decode cX2_vote 9 = .ok (.iload_n 2, 1) := by decide +kernel
theorem dX2_vote_10 : decode cX2_vote 10 = .ok (.iconst 5, 1) := by decide +kernel
theorem dX2_vote_11 : decode cX2_vote 11 = .ok (.if_icmp .lt 13, 3) := by decide +kernel
theorem dX2_vote_14 : decode cX2_vote 14 = .ok (.new 72, 3) := by decide +kernel
theorem dX2_vote_17 : decode cX2_vote 17 = .ok (.dup, 1) := by decide +kernel
theorem dX2_vote_18 : decode cX2_vote 18 = .ok (.ldc 74, 2) := by decide +kernel
theorem dX2_vote_20 : decode cX2_vote 20 = .ok (.invokespecial 76, 3) := by decide +kernel
theorem dX2_vote_23 : decode cX2_vote 23 = .ok (.athrow, 1) := by decide +kernel
theorem dX2_vote_24 : decode cX2_vote 24 = .ok (.aload_n 0, 1) := by decide +kernel
theorem dX2_vote_25 : decode cX2_vote 25 = .ok (.getfield 12, 3) := by decide +kernel
theorem dX2_vote_28 : decode cX2_vote 28 = .ok (.getfield 77, 3) := by decide +kernel
theorem dX2_vote_31 : decode cX2_vote 31 = .ok (.iload_n 1, 1) := by decide +kernel
theorem dX2_vote_32 : decode cX2_vote 32 = .ok (.iaload, 1) := by decide +kernel
theorem dX2_vote_33 : decode cX2_vote 33 = .ok (.ifCond .ne 15, 3) := by decide +kernel
theorem dX2_vote_36 : decode cX2_vote 36 = .ok (.aload_n 0, 1) := by decide +kernel
theorem dX2_vote_37 : decode cX2_vote 37 = .ok (.getfield 12, 3) := by decide +kernel
theorem dX2_vote_40 : decode cX2_vote 40 = .ok (.iload_n 1, 1) := by decide +kernel
theorem dX2_vote_41 : decode cX2_vote 41 = .ok (.iload_n 2, 1) := by decide +kernel
theorem dX2_vote_42 : decode cX2_vote 42 = .ok (.invokevirtual 81, 3) := by decide +kernel
theorem dX2_vote_45 : decode cX2_vote 45 = .ok (.ifCond .eq 13, 3) := by decide +kernel
theorem dX2_vote_48 : decode cX2_vote 48 = .ok (.new 60, 3) := by decide +kernel
theorem dX2_vote_51 : decode cX2_vote 51 = .ok (.dup, 1) := by decide +kernel
theorem dX2_vote_52 : decode cX2_vote 52 = .ok (.ldc 85, 2) := by decide +kernel
theorem dX2_vote_54 : decode cX2_vote 54 = .ok (.invokespecial 64, 3) := by decide +kernel
theorem dX2_vote_57 : decode cX2_vote 57 = .ok (.athrow, 1) := by decide +kernel
theorem dX2_vote_58 : decode cX2_vote 58 = .ok (.aload_n 0, 1) := by decide +kernel
theorem dX2_vote_59 : decode cX2_vote 59 = .ok (.getfield 12, 3) := by decide +kernel
theorem dX2_vote_62 : decode cX2_vote 62 = .ok (.iload_n 1, 1) := by decide +kernel
theorem dX2_vote_63 : decode cX2_vote 63 = .ok (.iload_n 2, 1) := by decide +kernel
theorem dX2_vote_64 : decode cX2_vote 64 = .ok (.iload_n 3, 1) := by decide +kernel
theorem dX2_vote_65 : decode cX2_vote 65 = .ok (.invokevirtual 87, 3) := by decide +kernel
theorem dX2_vote_68 : decode cX2_vote 68 = .ok (.istore 4, 2) := by decide +kernel
theorem dX2_vote_70 : decode cX2_vote 70 = .ok (.iload 4, 2) := by decide +kernel
theorem dX2_vote_72 : decode cX2_vote 72 = .ok (.iconst 1, 1) := by decide +kernel
theorem dX2_vote_73 : decode cX2_vote 73 = .ok (.if_icmp .ne 7, 3) := by decide +kernel
theorem dX2_vote_76 : decode cX2_vote 76 = .ok (.aload_n 0, 1) := by decide +kernel
theorem dX2_vote_77 : decode cX2_vote 77 = .ok (.invokevirtual 91, 3) := by decide +kernel
theorem dX2_vote_80 : decode cX2_vote 80 = .ok (.iload 4, 2) := by decide +kernel
theorem dX2_vote_82 : decode cX2_vote 82 = .ok (.ireturn, 1) := by decide +kernel
theorem dX2_prefer_0 : decode cX2_prefer 0 = .ok (.aload_n 0, 1) := by decide +kernel
theorem dX2_prefer_1 : decode cX2_prefer 1 = .ok (.iload_n 1, 1) := by decide +kernel
theorem dX2_prefer_2 : decode cX2_prefer 2 = .ok (.invokevirtual 69, 3) := by decide +kernel
theorem dX2_prefer_5 : decode cX2_prefer 5 = .ok (.aload_n 0, 1) := by decide +kernel
theorem dX2_prefer_6 : decode cX2_prefer 6 = .ok (.getfield 12, 3) := by decide +kernel
theorem dX2_prefer_9 : decode cX2_prefer 9 = .ok (.getfield 77, 3) := by decide +kernel
theorem dX2_prefer_12 : decode cX2_prefer 12 = .ok (.iload_n 1, 1) := by decide +kernel
theorem dX2_prefer_13 : decode cX2_prefer 13 = .ok (.iaload, 1) := by decide +kernel
theorem dX2_prefer_14 : decode cX2_prefer 14 = .ok (.iconst 1, 1) := by decide +kernel
theorem dX2_prefer_15 : decode cX2_prefer 15 = .ok (.if_icmp .eq 13, 3) := by decide +kernel
theorem dX2_prefer_18 : decode cX2_prefer 18 = .ok (.new 60, 3) := by decide +kernel
theorem dX2_prefer_21 : decode cX2_prefer 21 = .ok (.dup, 1) := by decide +kernel
theorem dX2_prefer_22 : decode cX2_prefer 22 = .ok (.ldc 94, 2) := by decide +kernel
theorem dX2_prefer_24 : decode cX2_prefer 24 = .ok (.invokespecial 64, 3) := by decide +kernel
theorem dX2_prefer_27 : decode cX2_prefer 27 = .ok (.athrow, 1) := by decide +kernel
theorem dX2_prefer_28 : decode cX2_prefer 28 = .ok (.aload_n 0, 1) := by decide +kernel
theorem dX2_prefer_29 : decode cX2_prefer 29 = .ok (.getfield 12, 3) := by decide +kernel
theorem dX2_prefer_32 : decode cX2_prefer 32 = .ok (.iload_n 1, 1) := by decide +kernel
theorem dX2_prefer_33 : decode cX2_prefer 33 = .ok (.invokevirtual 96, 3) := by decide +kernel
theorem dX2_prefer_36 : decode cX2_prefer 36 = .ok (.ireturn, 1) := by decide +kernel
theorem dX2_ban_0 : decode cX2_ban 0 = .ok (.aload_n 0, 1) := by decide +kernel
theorem dX2_ban_1 : decode cX2_ban 1 = .ok (.iload_n 1, 1) := by decide +kernel
theorem dX2_ban_2 : decode cX2_ban 2 = .ok (.invokevirtual 69, 3) := by decide +kernel
theorem dX2_ban_5 : decode cX2_ban 5 = .ok (.iload_n 2, 1) := by decide +kernel
theorem dX2_ban_6 : decode cX2_ban 6 = .ok (.ifCond .lt 9, 3) := by decide +kernel
theorem dX2_ban_9 : decode cX2_ban 9 = .ok (.iload_n 2, 1) := by decide +kernel
theorem dX2_ban_10 : decode cX2_ban 10 = .ok (.bipush 30, 2) := by decide +kernel
theorem dX2_ban_12 : decode cX2_ban 12 = .ok (.if_icmp .le 13, 3) := by decide +kernel
theorem dX2_ban_15 : decode cX2_ban 15 = .ok (.new 46, 3) := by decide +kernel
theorem dX2_ban_18 : decode cX2_ban 18 = .ok (.dup, 1) := by decide +kernel
theorem dX2_ban_19 : decode cX2_ban 19 = .ok (.ldc 99, 2) := by decide +kernel
theorem dX2_ban_21 : decode cX2_ban 21 = .ok (.invokespecial 50, 3) := by decide +kernel
theorem dX2_ban_24 : decode cX2_ban 24 = .ok (.athrow, 1) := by decide +kernel
theorem dX2_ban_25 : decode cX2_ban 25 = .ok (.aload_n 0, 1) := by decide +kernel
theorem dX2_ban_26 : decode cX2_ban 26 = .ok (.getfield 12, 3) := by decide +kernel
theorem dX2_ban_29 : decode cX2_ban 29 = .ok (.iload_n 1, 1) := by decide +kernel
theorem dX2_ban_30 : decode cX2_ban 30 = .ok (.invokevirtual 101, 3) := by decide +kernel
theorem dX2_ban_33 : decode cX2_ban 33 = .ok (.ifCond .ne 13, 3) := by decide +kernel
theorem dX2_ban_36 : decode cX2_ban 36 = .ok (.new 60, 3) := by decide +kernel
theorem dX2_ban_39 : decode cX2_ban 39 = .ok (.dup, 1) := by decide +kernel
theorem dX2_ban_40 : decode cX2_ban 40 = .ok (.ldc 105, 2) := by decide +kernel
theorem dX2_ban_42 : decode cX2_ban 42 = .ok (.invokespecial 64, 3) := by decide +kernel
theorem dX2_ban_45 : decode cX2_ban 45 = .ok (.athrow, 1) := by decide +kernel
theorem dX2_ban_46 : decode cX2_ban 46 = .ok (.aload_n 0, 1) := by decide +kernel
theorem dX2_ban_47 : decode cX2_ban 47 = .ok (.getfield 12, 3) := by decide +kernel
theorem dX2_ban_50 : decode cX2_ban 50 = .ok (.iload_n 1, 1) := by decide +kernel
theorem dX2_ban_51 : decode cX2_ban 51 = .ok (.aload_n 0, 1) := by decide +kernel
theorem dX2_ban_52 : decode cX2_ban 52 = .ok (.getfield 25, 3) := by decide +kernel
theorem dX2_ban_55 : decode cX2_ban 55 = .ok (.iload_n 2, 1) := by decide +kernel
theorem dX2_ban_56 : decode cX2_ban 56 = .ok (.invokevirtual 107, 3) := by decide +kernel
theorem dX2_ban_59 : decode cX2_ban 59 = .ok (.aload_n 0, 1) := by decide +kernel
theorem dX2_ban_60 : decode cX2_ban 60 = .ok (.getfield 21, 3) := by decide +kernel
theorem dX2_ban_63 : decode cX2_ban 63 = .ok (.aload_n 0, 1) := by decide +kernel
theorem dX2_ban_64 : decode cX2_ban 64 = .ok (.getfield 25, 3) := by decide +kernel
theorem dX2_ban_67 : decode cX2_ban 67 = .ok (.invokevirtual 111, 3) := by decide +kernel
theorem dX2_ban_70 : decode cX2_ban 70 = .ok (.ireturn, 1) := by decide +kernel
theorem dX2_allow_0 : decode cX2_allow 0 = .ok (.aload_n 0, 1) := by decide +kernel
theorem dX2_allow_1 : decode cX2_allow 1 = .ok (.iload_n 1, 1) := by decide +kernel
theorem dX2_allow_2 : decode cX2_allow 2 = .ok (.invokevirtual 69, 3) := by decide +kernel
theorem dX2_allow_5 : decode cX2_allow 5 = .ok (.aload_n 0, 1) := by decide +kernel
theorem dX2_allow_6 : decode cX2_allow 6 = .ok (.getfield 12, 3) := by decide +kernel
theorem dX2_allow_9 : decode cX2_allow 9 = .ok (.getfield 77, 3) := by decide +kernel
theorem dX2_allow_12 : decode cX2_allow 12 = .ok (.iload_n 1, 1) := by decide +kernel
theorem dX2_allow_13 : decode cX2_allow 13 = .ok (.iaload, 1) := by decide +kernel
theorem dX2_allow_14 : decode cX2_allow 14 = .ok (.iconst 3, 1) := by decide +kernel
theorem dX2_allow_15 : decode cX2_allow 15 = .ok (.if_icmp .eq 13, 3) := by decide +kernel
theorem dX2_allow_18 : decode cX2_allow 18 = .ok (.new 60, 3) := by decide +kernel
theorem dX2_allow_21 : decode cX2_allow 21 = .ok (.dup, 1) := by decide +kernel
theorem dX2_allow_22 : decode cX2_allow 22 = .ok (.ldc 114, 2) := by decide +kernel
theorem dX2_allow_24 : decode cX2_allow 24 = .ok (.invokespecial 64, 3) := by decide +kernel
theorem dX2_allow_27 : decode cX2_allow 27 = .ok (.athrow, 1) := by decide +kernel
theorem dX2_allow_28 : decode cX2_allow 28 = .ok (.aload_n 0, 1) := by decide +kernel
theorem dX2_allow_29 : decode cX2_allow 29 = .ok (.getfield 12, 3) := by decide +kernel
theorem dX2_allow_32 : decode cX2_allow 32 = .ok (.iload_n 1, 1) := by decide +kernel
theorem dX2_allow_33 : decode cX2_allow 33 = .ok (.aload_n 0, 1) := by decide +kernel
theorem dX2_allow_34 : decode cX2_allow 34 = .ok (.getfield 25, 3) := by decide +kernel
theorem dX2_allow_37 : decode cX2_allow 37 = .ok (.invokevirtual 116, 3) := by decide +kernel
theorem dX2_allow_40 : decode cX2_allow 40 = .ok (.ireturn, 1) := by decide +kernel
theorem dX2_ofTerm_0 : decode cX2_ofTerm 0 = .ok (.aload_n 0, 1) := by decide +kernel
theorem dX2_ofTerm_1 : decode cX2_ofTerm 1 = .ok (.iload_n 1, 1) := by decide +kernel
theorem dX2_ofTerm_2 : decode cX2_ofTerm 2 = .ok (.invokevirtual 69, 3) := by decide +kernel
theorem dX2_ofTerm_5 : decode cX2_ofTerm 5 = .ok (.aload_n 0, 1) := by decide +kernel
theorem dX2_ofTerm_6 : decode cX2_ofTerm 6 = .ok (.iload_n 2, 1) := by decide +kernel
theorem dX2_ofTerm_7 : decode cX2_ofTerm 7 = .ok (.bipush 7, 2) := by decide +kernel
theorem dX2_ofTerm_9 : decode cX2_ofTerm 9 = .ok (.invokevirtual 120, 3) := by decide +kernel
theorem dX2_ofTerm_12 : decode cX2_ofTerm 12 = .ok (.iload_n 2, 1) := by decide +kernel
theorem dX2_ofTerm_13 : decode cX2_ofTerm 13 = .ok (.tableswitch 136 0 6 #[43, 53, 63, 73, 83, 96, 109], 43) := by decide +kernel
theorem dX2_ofTerm_56 : decode cX2_ofTerm 56 = .ok (.aload_n 0, 1) := by decide +kernel
theorem dX2_ofTerm_57 : decode cX2_ofTerm 57 = .ok (.getfield 12, 3) := by decide +kernel
theorem dX2_ofTerm_60 : decode cX2_ofTerm 60 = .ok (.getfield 124, 3) := by decide +kernel
theorem dX2_ofTerm_63 : decode cX2_ofTerm 63 = .ok (.iload_n 1, 1) := by decide +kernel
theorem dX2_ofTerm_64 : decode cX2_ofTerm 64 = .ok (.iaload, 1) := by decide +kernel
theorem dX2_ofTerm_65 : decode cX2_ofTerm 65 = .ok (.ireturn, 1) := by decide +kernel
theorem dX2_ofTerm_66 : decode cX2_ofTerm 66 = .ok (.aload_n 0, 1) := by decide +kernel
theorem dX2_ofTerm_67 : decode cX2_ofTerm 67 = .ok (.getfield 12, 3) := by decide +kernel
theorem dX2_ofTerm_70 : decode cX2_ofTerm 70 = .ok (.getfield 127, 3) := by decide +kernel
theorem dX2_ofTerm_73 : decode cX2_ofTerm 73 = .ok (.iload_n 1, 1) := by decide +kernel
theorem dX2_ofTerm_74 : decode cX2_ofTerm 74 = .ok (.iaload, 1) := by decide +kernel
theorem dX2_ofTerm_75 : decode cX2_ofTerm 75 = .ok (.ireturn, 1) := by decide +kernel
theorem dX2_ofTerm_76 : decode cX2_ofTerm 76 = .ok (.aload_n 0, 1) := by decide +kernel
theorem dX2_ofTerm_77 : decode cX2_ofTerm 77 = .ok (.getfield 12, 3) := by decide +kernel
theorem dX2_ofTerm_80 : decode cX2_ofTerm 80 = .ok (.getfield 130, 3) := by decide +kernel
theorem dX2_ofTerm_83 : decode cX2_ofTerm 83 = .ok (.iload_n 1, 1) := by decide +kernel
theorem dX2_ofTerm_84 : decode cX2_ofTerm 84 = .ok (.iaload, 1) := by decide +kernel
theorem dX2_ofTerm_85 : decode cX2_ofTerm 85 = .ok (.ireturn, 1) := by decide +kernel
theorem dX2_ofTerm_86 : decode cX2_ofTerm 86 = .ok (.aload_n 0, 1) := by decide +kernel
theorem dX2_ofTerm_87 : decode cX2_ofTerm 87 = .ok (.getfield 12, 3) := by decide +kernel
theorem dX2_ofTerm_90 : decode cX2_ofTerm 90 = .ok (.getfield 77, 3) := by decide +kernel
theorem dX2_ofTerm_93 : decode cX2_ofTerm 93 = .ok (.iload_n 1, 1) := by decide +kernel
theorem dX2_ofTerm_94 : decode cX2_ofTerm 94 = .ok (.iaload, 1) := by decide +kernel
theorem dX2_ofTerm_95 : decode cX2_ofTerm 95 = .ok (.ireturn, 1) := by decide +kernel
theorem dX2_ofTerm_96 : decode cX2_ofTerm 96 = .ok (.aload_n 0, 1) := by decide +kernel
theorem dX2_ofTerm_97 : decode cX2_ofTerm 97 = .ok (.getfield 12, 3) := by decide +kernel
theorem dX2_ofTerm_100 : decode cX2_ofTerm 100 = .ok (.getfield 133, 3) := by decide +kernel
theorem dX2_ofTerm_103 : decode cX2_ofTerm 103 = .ok (.iload_n 1, 1) := by decide +kernel
theorem dX2_ofTerm_104 : decode cX2_ofTerm 104 = .ok (.iaload, 1) := by decide +kernel
theorem dX2_ofTerm_105 : decode cX2_ofTerm 105 = .ok (.invokestatic 136, 3) := by decide +kernel
theorem dX2_ofTerm_108 : decode cX2_ofTerm 108 = .ok (.ireturn, 1) := by decide +kernel
theorem dX2_ofTerm_109 : decode cX2_ofTerm 109 = .ok (.aload_n 0, 1) := by decide +kernel
theorem dX2_ofTerm_110 : decode cX2_ofTerm 110 = .ok (.getfield 12, 3) := by decide +kernel
theorem dX2_ofTerm_113 : decode cX2_ofTerm 113 = .ok (.getfield 141, 3) := by decide +kernel
theorem dX2_ofTerm_116 : decode cX2_ofTerm 116 = .ok (.iload_n 1, 1) := by decide +kernel
theorem dX2_ofTerm_117 : decode cX2_ofTerm 117 = .ok (.iaload, 1) := by decide +kernel
theorem dX2_ofTerm_118 : decode cX2_ofTerm 118 = .ok (.invokestatic 136, 3) := by decide +kernel
theorem dX2_ofTerm_121 : decode cX2_ofTerm 121 = .ok (.ireturn, 1) := by decide +kernel
theorem dX2_ofTerm_122 : decode cX2_ofTerm 122 = .ok (.aload_n 0, 1) := by decide +kernel
theorem dX2_ofTerm_123 : decode cX2_ofTerm 123 = .ok (.getfield 12, 3) := by decide +kernel
theorem dX2_ofTerm_126 : decode cX2_ofTerm 126 = .ok (.getfield 77, 3) := by decide +kernel
theorem dX2_ofTerm_129 : decode cX2_ofTerm 129 = .ok (.iload_n 1, 1) := by decide +kernel
theorem dX2_ofTerm_130 : decode cX2_ofTerm 130 = .ok (.iaload, 1) := by decide +kernel
theorem dX2_ofTerm_131 : decode cX2_ofTerm 131 = .ok (.iconst 3, 1) := by decide +kernel
theorem dX2_ofTerm_132 : decode cX2_ofTerm 132 = .ok (.if_icmp .ne 15, 3) := by decide +kernel
theorem dX2_ofTerm_135 : decode cX2_ofTerm 135 = .ok (.aload_n 0, 1) := by decide +kernel
theorem dX2_ofTerm_136 : decode cX2_ofTerm 136 = .ok (.getfield 12, 3) := by decide +kernel
theorem dX2_ofTerm_139 : decode cX2_ofTerm 139 = .ok (.getfield 144, 3) := by decide +kernel
theorem dX2_ofTerm_142 : decode cX2_ofTerm 142 = .ok (.iload_n 1, 1) := by decide +kernel
theorem dX2_ofTerm_143 : decode cX2_ofTerm 143 = .ok (.iaload, 1) := by decide +kernel
theorem dX2_ofTerm_144 : decode cX2_ofTerm 144 = .ok (.goto 4, 3) := by decide +kernel
theorem dX2_ofTerm_147 : decode cX2_ofTerm 147 = .ok (.iconst (-1), 1) := by decide +kernel
theorem dX2_ofTerm_148 : decode cX2_ofTerm 148 = .ok (.ireturn, 1) := by decide +kernel
theorem dX2_ofTerm_149 : decode cX2_ofTerm 149 = .ok (.aload_n 0, 1) := by decide +kernel
theorem dX2_ofTerm_150 : decode cX2_ofTerm 150 = .ok (.getfield 21, 3) := by decide +kernel
theorem dX2_ofTerm_153 : decode cX2_ofTerm 153 = .ok (.iconst 1, 1) := by decide +kernel
theorem dX2_ofTerm_154 : decode cX2_ofTerm 154 = .ok (.iload_n 1, 1) := by decide +kernel
theorem dX2_ofTerm_155 : decode cX2_ofTerm 155 = .ok (.ishl, 1) := by decide +kernel
theorem dX2_ofTerm_156 : decode cX2_ofTerm 156 = .ok (.invokevirtual 147, 3) := by decide +kernel
theorem dX2_ofTerm_159 : decode cX2_ofTerm 159 = .ok (.ireturn, 1) := by decide +kernel
theorem dX2_ofConcept_0 : decode cX2_ofConcept 0 = .ok (.aload_n 0, 1) := by decide +kernel
theorem dX2_ofConcept_1 : decode cX2_ofConcept 1 = .ok (.iload_n 1, 1) := by decide +kernel
theorem dX2_ofConcept_2 : decode cX2_ofConcept 2 = .ok (.invokevirtual 40, 3) := by decide +kernel
theorem dX2_ofConcept_5 : decode cX2_ofConcept 5 = .ok (.aload_n 0, 1) := by decide +kernel
theorem dX2_ofConcept_6 : decode cX2_ofConcept 6 = .ok (.iload_n 2, 1) := by decide +kernel
theorem dX2_ofConcept_7 : decode cX2_ofConcept 7 = .ok (.bipush 6, 2) := by decide +kernel
theorem dX2_ofConcept_9 : decode cX2_ofConcept 9 = .ok (.invokevirtual 120, 3) := by decide +kernel
theorem dX2_ofConcept_12 : decode cX2_ofConcept 12 = .ok (.aload_n 0, 1) := by decide +kernel
theorem dX2_ofConcept_13 : decode cX2_ofConcept 13 = .ok (.getfield 12, 3) := by decide +kernel
theorem dX2_ofConcept_16 : decode cX2_ofConcept 16 = .ok (.iload_n 1, 1) := by decide +kernel
theorem dX2_ofConcept_17 : decode cX2_ofConcept 17 = .ok (.invokevirtual 150, 3) := by decide +kernel
theorem dX2_ofConcept_20 : decode cX2_ofConcept 20 = .ok (.istore_n 3, 1) := by decide +kernel
theorem dX2_ofConcept_21 : decode cX2_ofConcept 21 = .ok (.iload_n 2, 1) := by decide +kernel
theorem dX2_ofConcept_22 : decode cX2_ofConcept 22 = .ok (.tableswitch 75 0 6 #[42, 52, 75, 75, 75, 57, 66], 42) := by decide +kernel
theorem dX2_ofConcept_64 : decode cX2_ofConcept 64 = .ok (.aload_n 0, 1) := by decide +kernel
theorem dX2_ofConcept_65 : decode cX2_ofConcept 65 = .ok (.getfield 12, 3) := by decide +kernel
theorem dX2_ofConcept_68 : decode cX2_ofConcept 68 = .ok (.getfield 153, 3) := by decide +kernel
theorem dX2_ofConcept_71 : decode cX2_ofConcept 71 = .ok (.iload_n 1, 1) := by decide +kernel
theorem dX2_ofConcept_72 : decode cX2_ofConcept 72 = .ok (.iaload, 1) := by decide +kernel
theorem dX2_ofConcept_73 : decode cX2_ofConcept 73 = .ok (.ireturn, 1) := by decide +kernel
theorem dX2_ofConcept_74 : decode cX2_ofConcept 74 = .ok (.iload_n 3, 1) := by decide +kernel
theorem dX2_ofConcept_75 : decode cX2_ofConcept 75 = .ok (.invokestatic 136, 3) := by decide +kernel
theorem dX2_ofConcept_78 : decode cX2_ofConcept 78 = .ok (.ireturn, 1) := by decide +kernel
theorem dX2_ofConcept_79 : decode cX2_ofConcept 79 = .ok (.aload_n 0, 1) := by decide +kernel
theorem dX2_ofConcept_80 : decode cX2_ofConcept 80 = .ok (.getfield 21, 3) := by decide +kernel
theorem dX2_ofConcept_83 : decode cX2_ofConcept 83 = .ok (.iload_n 3, 1) := by decide +kernel
theorem dX2_ofConcept_84 : decode cX2_ofConcept 84 = .ok (.invokevirtual 147, 3) := by decide +kernel
theorem dX2_ofConcept_87 : decode cX2_ofConcept 87 = .ok (.ireturn, 1) := by decide +kernel
theorem dX2_ofConcept_88 : decode cX2_ofConcept 88 = .ok (.aload_n 0, 1) := by decide +kernel
theorem dX2_ofConcept_89 : decode cX2_ofConcept 89 = .ok (.getfield 21, 3) := by decide +kernel
theorem dX2_ofConcept_92 : decode cX2_ofConcept 92 = .ok (.iload_n 3, 1) := by decide +kernel
theorem dX2_ofConcept_93 : decode cX2_ofConcept 93 = .ok (.invokevirtual 156, 3) := by decide +kernel
theorem dX2_ofConcept_96 : decode cX2_ofConcept 96 = .ok (.ireturn, 1) := by decide +kernel
theorem dX2_ofConcept_97 : decode cX2_ofConcept 97 = .ok (.aload_n 0, 1) := by decide +kernel
theorem dX2_ofConcept_98 : decode cX2_ofConcept 98 = .ok (.getfield 12, 3) := by decide +kernel
theorem dX2_ofConcept_101 : decode cX2_ofConcept 101 = .ok (.iload_n 1, 1) := by decide +kernel
theorem dX2_ofConcept_102 : decode cX2_ofConcept 102 = .ok (.iload_n 2, 1) := by decide +kernel
theorem dX2_ofConcept_103 : decode cX2_ofConcept 103 = .ok (.iconst 2, 1) := by decide +kernel
theorem dX2_ofConcept_104 : decode cX2_ofConcept 104 = .ok (.isub, 1) := by decide +kernel
theorem dX2_ofConcept_105 : decode cX2_ofConcept 105 = .ok (.invokevirtual 159, 3) := by decide +kernel
theorem dX2_ofConcept_108 : decode cX2_ofConcept 108 = .ok (.ireturn, 1) := by decide +kernel
theorem dX2_split_0 : decode cX2_split 0 = .ok (.aload_n 0, 1) := by decide +kernel
theorem dX2_split_1 : decode cX2_split 1 = .ok (.iload_n 1, 1) := by decide +kernel
theorem dX2_split_2 : decode cX2_split 2 = .ok (.invokevirtual 40, 3) := by decide +kernel
theorem dX2_split_5 : decode cX2_split 5 = .ok (.aload_n 0, 1) := by decide +kernel
theorem dX2_split_6 : decode cX2_split 6 = .ok (.getfield 12, 3) := by decide +kernel
theorem dX2_split_9 : decode cX2_split 9 = .ok (.iload_n 1, 1) := by decide +kernel
theorem dX2_split_10 : decode cX2_split 10 = .ok (.invokevirtual 150, 3) := by decide +kernel
theorem dX2_split_13 : decode cX2_split 13 = .ok (.istore 4, 2) := by decide +kernel
theorem dX2_split_15 : decode cX2_split 15 = .ok (.iload_n 2, 1) := by decide +kernel
theorem dX2_split_16 : decode cX2_split 16 = .ok (.iconst 1, 1) := by decide +kernel
theorem dX2_split_17 : decode cX2_split 17 = .ok (.if_icmp .lt 18, 3) := by decide +kernel
theorem dX2_split_20 : decode cX2_split 20 = .ok (.iload_n 2, 1) := by decide +kernel
theorem dX2_split_21 : decode cX2_split 21 = .ok (.iload 4, 2) := by decide +kernel
theorem dX2_split_23 : decode cX2_split 23 = .ok (.iconst (-1), 1) := by decide +kernel
theorem dX2_split_24 : decode cX2_split 24 = .ok (.ixor, 1) := by decide +kernel
theorem dX2_split_25 : decode cX2_split 25 = .ok (.iand, 1) := by decide +kernel
theorem dX2_split_26 : decode cX2_split 26 = .ok (.ifCond .ne 9, 3) := by decide +kernel
theorem dX2_split_29 : decode cX2_split 29 = .ok (.iload_n 2, 1) := by decide +kernel
theorem dX2_split_30 : decode cX2_split 30 = .ok (.iload 4, 2) := by decide +kernel
theorem dX2_split_32 : decode cX2_split 32 = .ok (.if_icmp .ne 13, 3) := by decide +kernel
theorem dX2_split_35 : decode cX2_split 35 = .ok (.new 46, 3) := by decide +kernel
theorem dX2_split_38 : decode cX2_split 38 = .ok (.dup, 1) := by decide +kernel
theorem dX2_split_39 : decode cX2_split 39 = .ok (.ldc 162, 2) := by decide +kernel
theorem dX2_split_41 : decode cX2_split 41 = .ok (.invokespecial 50, 3) := by decide +kernel
theorem dX2_split_44 : decode cX2_split 44 = .ok (.athrow, 1) := by decide +kernel
theorem dX2_split_45 : decode cX2_split 45 = .ok (.aload_n 0, 1) := by decide +kernel
theorem dX2_split_46 : decode cX2_split 46 = .ok (.iload_n 3, 1) := by decide +kernel
theorem dX2_split_47 : decode cX2_split 47 = .ok (.invokevirtual 29, 3) := by decide +kernel
theorem dX2_split_50 : decode cX2_split 50 = .ok (.aload_n 0, 1) := by decide +kernel
theorem dX2_split_51 : decode cX2_split 51 = .ok (.invokevirtual 33, 3) := by decide +kernel
theorem dX2_split_54 : decode cX2_split 54 = .ok (.aload_n 0, 1) := by decide +kernel
theorem dX2_split_55 : decode cX2_split 55 = .ok (.getfield 12, 3) := by decide +kernel
theorem dX2_split_58 : decode cX2_split 58 = .ok (.iload_n 3, 1) := by decide +kernel
theorem dX2_split_59 : decode cX2_split 59 = .ok (.invokevirtual 36, 3) := by decide +kernel
theorem dX2_split_62 : decode cX2_split 62 = .ok (.istore 5, 2) := by decide +kernel
theorem dX2_split_64 : decode cX2_split 64 = .ok (.aload_n 0, 1) := by decide +kernel
theorem dX2_split_65 : decode cX2_split 65 = .ok (.getfield 12, 3) := by decide +kernel
theorem dX2_split_68 : decode cX2_split 68 = .ok (.iload_n 2, 1) := by decide +kernel
theorem dX2_split_69 : decode cX2_split 69 = .ok (.iload 5, 2) := by decide +kernel
theorem dX2_split_71 : decode cX2_split 71 = .ok (.invokevirtual 164, 3) := by decide +kernel
theorem dX2_split_74 : decode cX2_split 74 = .ok (.aload_n 0, 1) := by decide +kernel
theorem dX2_split_75 : decode cX2_split 75 = .ok (.invokevirtual 91, 3) := by decide +kernel
theorem dX2_split_78 : decode cX2_split 78 = .ok (.iload 5, 2) := by decide +kernel
theorem dX2_split_80 : decode cX2_split 80 = .ok (.ireturn, 1) := by decide +kernel
theorem dX2_join_0 : decode cX2_join 0 = .ok (.aload_n 0, 1) := by decide +kernel
theorem dX2_join_1 : decode cX2_join 1 = .ok (.iload_n 1, 1) := by decide +kernel
theorem dX2_join_2 : decode cX2_join 2 = .ok (.iload_n 2, 1) := by decide +kernel
theorem dX2_join_3 : decode cX2_join 3 = .ok (.invokevirtual 167, 3) := by decide +kernel
theorem dX2_join_6 : decode cX2_join 6 = .ok (.aload_n 0, 1) := by decide +kernel
theorem dX2_join_7 : decode cX2_join 7 = .ok (.getfield 12, 3) := by decide +kernel
theorem dX2_join_10 : decode cX2_join 10 = .ok (.iload_n 1, 1) := by decide +kernel
theorem dX2_join_11 : decode cX2_join 11 = .ok (.iload_n 2, 1) := by decide +kernel
theorem dX2_join_12 : decode cX2_join 12 = .ok (.invokevirtual 170, 3) := by decide +kernel
theorem dX2_join_15 : decode cX2_join 15 = .ok (.ifCond .ne 13, 3) := by decide +kernel
theorem dX2_join_18 : decode cX2_join 18 = .ok (.new 60, 3) := by decide +kernel
theorem dX2_join_21 : decode cX2_join 21 = .ok (.dup, 1) := by decide +kernel
theorem dX2_join_22 : decode cX2_join 22 = .ok (.ldc 173, 2) := by decide +kernel
theorem dX2_join_24 : decode cX2_join 24 = .ok (.invokespecial 64, 3) := by decide +kernel
theorem dX2_join_27 : decode cX2_join 27 = .ok (.athrow, 1) := by decide +kernel
theorem dX2_join_28 : decode cX2_join 28 = .ok (.iload_n 1, 1) := by decide +kernel
theorem dX2_join_29 : decode cX2_join 29 = .ok (.iload_n 2, 1) := by decide +kernel
theorem dX2_join_30 : decode cX2_join 30 = .ok (.invokestatic 175, 3) := by decide +kernel
theorem dX2_join_33 : decode cX2_join 33 = .ok (.istore_n 3, 1) := by decide +kernel
theorem dX2_join_34 : decode cX2_join 34 = .ok (.aload_n 0, 1) := by decide +kernel
theorem dX2_join_35 : decode cX2_join 35 = .ok (.getfield 12, 3) := by decide +kernel
theorem dX2_join_38 : decode cX2_join 38 = .ok (.iload_n 3, 1) := by decide +kernel
theorem dX2_join_39 : decode cX2_join 39 = .ok (.iload_n 1, 1) := by decide +kernel
theorem dX2_join_40 : decode cX2_join 40 = .ok (.iload_n 2, 1) := by decide +kernel
theorem dX2_join_41 : decode cX2_join 41 = .ok (.invokestatic 180, 3) := by decide +kernel
theorem dX2_join_44 : decode cX2_join 44 = .ok (.invokevirtual 183, 3) := by decide +kernel
theorem dX2_join_47 : decode cX2_join 47 = .ok (.aload_n 0, 1) := by decide +kernel
theorem dX2_join_48 : decode cX2_join 48 = .ok (.invokevirtual 91, 3) := by decide +kernel
theorem dX2_join_51 : decode cX2_join 51 = .ok (.aload_n 0, 1) := by decide +kernel
theorem dX2_join_52 : decode cX2_join 52 = .ok (.getfield 12, 3) := by decide +kernel
theorem dX2_join_55 : decode cX2_join 55 = .ok (.iload_n 3, 1) := by decide +kernel
theorem dX2_join_56 : decode cX2_join 56 = .ok (.invokevirtual 150, 3) := by decide +kernel
theorem dX2_join_59 : decode cX2_join 59 = .ok (.invokestatic 136, 3) := by decide +kernel
theorem dX2_join_62 : decode cX2_join 62 = .ok (.ireturn, 1) := by decide +kernel
theorem dX2_document_0 : decode cX2_document 0 = .ok (.aload_n 0, 1) := by decide +kernel
theorem dX2_document_1 : decode cX2_document 1 = .ok (.getfield 21, 3) := by decide +kernel
theorem dX2_document_4 : decode cX2_document 4 = .ok (.getfield 186, 3) := by decide +kernel
theorem dX2_document_7 : decode cX2_document 7 = .ok (.bipush 6, 2) := by decide +kernel
theorem dX2_document_9 : decode cX2_document 9 = .ok (.if_icmp .lt 13, 3) := by decide +kernel
theorem dX2_document_12 : decode cX2_document 12 = .ok (.new 60, 3) := by decide +kernel
theorem dX2_document_15 : decode cX2_document 15 = .ok (.dup, 1) := by decide +kernel
theorem dX2_document_16 : decode cX2_document 16 = .ok (.ldc 189, 2) := by decide +kernel
theorem dX2_document_18 : decode cX2_document 18 = .ok (.invokespecial 64, 3) := by decide +kernel
theorem dX2_document_21 : decode cX2_document 21 = .ok (.athrow, 1) := by decide +kernel
theorem dX2_document_22 : decode cX2_document 22 = .ok (.aload_n 0, 1) := by decide +kernel
theorem dX2_document_23 : decode cX2_document 23 = .ok (.getfield 21, 3) := by decide +kernel
theorem dX2_document_26 : decode cX2_document 26 = .ok (.invokevirtual 191, 3) := by decide +kernel
theorem dX2_document_29 : decode cX2_document 29 = .ok (.ireturn, 1) := by decide +kernel
theorem dX2_write_0 : decode cX2_write 0 = .ok (.aload_n 0, 1) := by decide +kernel
theorem dX2_write_1 : decode cX2_write 1 = .ok (.iload_n 1, 1) := by decide +kernel
theorem dX2_write_2 : decode cX2_write 2 = .ok (.iload_n 2, 1) := by decide +kernel
theorem dX2_write_3 : decode cX2_write 3 = .ok (.invokevirtual 195, 3) := by decide +kernel
theorem dX2_write_6 : decode cX2_write 6 = .ok (.istore 5, 2) := by decide +kernel
theorem dX2_write_8 : decode cX2_write 8 = .ok (.aload_n 0, 1) := by decide +kernel
theorem dX2_write_9 : decode cX2_write 9 = .ok (.iload_n 3, 1) := by decide +kernel
theorem dX2_write_10 : decode cX2_write 10 = .ok (.aload_n 0, 1) := by decide +kernel
theorem dX2_write_11 : decode cX2_write 11 = .ok (.getfield 21, 3) := by decide +kernel
theorem dX2_write_14 : decode cX2_write 14 = .ok (.iload 5, 2) := by decide +kernel
theorem dX2_write_16 : decode cX2_write 16 = .ok (.invokevirtual 198, 3) := by decide +kernel
theorem dX2_write_19 : decode cX2_write 19 = .ok (.invokevirtual 201, 3) := by decide +kernel
theorem dX2_write_22 : decode cX2_write 22 = .ok (.iload 4, 2) := by decide +kernel
theorem dX2_write_24 : decode cX2_write 24 = .ok (.ifCond .lt 10, 3) := by decide +kernel
theorem dX2_write_27 : decode cX2_write 27 = .ok (.iload 4, 2) := by decide +kernel
theorem dX2_write_29 : decode cX2_write 29 = .ok (.bipush 80, 2) := by decide +kernel
theorem dX2_write_31 : decode cX2_write 31 = .ok (.if_icmp .lt 13, 3) := by decide +kernel
theorem dX2_write_34 : decode cX2_write 34 = .ok (.new 46, 3) := by decide +kernel
theorem dX2_write_37 : decode cX2_write 37 = .ok (.dup, 1) := by decide +kernel
theorem dX2_write_38 : decode cX2_write 38 = .ok (.ldc 204, 2) := by decide +kernel
theorem dX2_write_40 : decode cX2_write 40 = .ok (.invokespecial 50, 3) := by decide +kernel
theorem dX2_write_43 : decode cX2_write 43 = .ok (.athrow, 1) := by decide +kernel
theorem dX2_write_44 : decode cX2_write 44 = .ok (.aload_n 0, 1) := by decide +kernel
theorem dX2_write_45 : decode cX2_write 45 = .ok (.getfield 21, 3) := by decide +kernel
theorem dX2_write_48 : decode cX2_write 48 = .ok (.getfield 206, 3) := by decide +kernel
theorem dX2_write_51 : decode cX2_write 51 = .ok (.iload 5, 2) := by decide +kernel
theorem dX2_write_53 : decode cX2_write 53 = .ok (.iaload, 1) := by decide +kernel
theorem dX2_write_54 : decode cX2_write 54 = .ok (.iconst 1, 1) := by decide +kernel
theorem dX2_write_55 : decode cX2_write 55 = .ok (.if_icmp .ne 13, 3) := by decide +kernel
theorem dX2_write_58 : decode cX2_write 58 = .ok (.new 60, 3) := by decide +kernel
theorem dX2_write_61 : decode cX2_write 61 = .ok (.dup, 1) := by decide +kernel
theorem dX2_write_62 : decode cX2_write 62 = .ok (.ldc 207, 2) := by decide +kernel
theorem dX2_write_64 : decode cX2_write 64 = .ok (.invokespecial 64, 3) := by decide +kernel
theorem dX2_write_67 : decode cX2_write 67 = .ok (.athrow, 1) := by decide +kernel
theorem dX2_write_68 : decode cX2_write 68 = .ok (.aload_n 0, 1) := by decide +kernel
theorem dX2_write_69 : decode cX2_write 69 = .ok (.getfield 21, 3) := by decide +kernel
theorem dX2_write_72 : decode cX2_write 72 = .ok (.iload 5, 2) := by decide +kernel
theorem dX2_write_74 : decode cX2_write 74 = .ok (.iload_n 3, 1) := by decide +kernel
theorem dX2_write_75 : decode cX2_write 75 = .ok (.iload 4, 2) := by decide +kernel
theorem dX2_write_77 : decode cX2_write 77 = .ok (.invokevirtual 209, 3) := by decide +kernel
theorem dX2_write_80 : decode cX2_write 80 = .ok (.ireturn, 1) := by decide +kernel
theorem dX2_cut_0 : decode cX2_cut 0 = .ok (.aload_n 0, 1) := by decide +kernel
theorem dX2_cut_1 : decode cX2_cut 1 = .ok (.iload_n 1, 1) := by decide +kernel
theorem dX2_cut_2 : decode cX2_cut 2 = .ok (.iload_n 2, 1) := by decide +kernel
theorem dX2_cut_3 : decode cX2_cut 3 = .ok (.invokevirtual 195, 3) := by decide +kernel
theorem dX2_cut_6 : decode cX2_cut 6 = .ok (.istore_n 3, 1) := by decide +kernel
theorem dX2_cut_7 : decode cX2_cut 7 = .ok (.aload_n 0, 1) := by decide +kernel
theorem dX2_cut_8 : decode cX2_cut 8 = .ok (.getfield 21, 3) := by decide +kernel
theorem dX2_cut_11 : decode cX2_cut 11 = .ok (.getfield 206, 3) := by decide +kernel
theorem dX2_cut_14 : decode cX2_cut 14 = .ok (.iload_n 3, 1) := by decide +kernel
theorem dX2_cut_15 : decode cX2_cut 15 = .ok (.iaload, 1) := by decide +kernel
theorem dX2_cut_16 : decode cX2_cut 16 = .ok (.iconst 1, 1) := by decide +kernel
theorem dX2_cut_17 : decode cX2_cut 17 = .ok (.if_icmp .eq 16, 3) := by decide +kernel
theorem dX2_cut_20 : decode cX2_cut 20 = .ok (.aload_n 0, 1) := by decide +kernel
theorem dX2_cut_21 : decode cX2_cut 21 = .ok (.getfield 21, 3) := by decide +kernel
theorem dX2_cut_24 : decode cX2_cut 24 = .ok (.getfield 212, 3) := by decide +kernel
theorem dX2_cut_27 : decode cX2_cut 27 = .ok (.iload_n 3, 1) := by decide +kernel
theorem dX2_cut_28 : decode cX2_cut 28 = .ok (.iaload, 1) := by decide +kernel
theorem dX2_cut_29 : decode cX2_cut 29 = .ok (.iconst 1, 1) := by decide +kernel
theorem dX2_cut_30 : decode cX2_cut 30 = .ok (.if_icmp .ge 13, 3) := by decide +kernel
theorem dX2_cut_33 : decode cX2_cut 33 = .ok (.new 60, 3) := by decide +kernel
theorem dX2_cut_36 : decode cX2_cut 36 = .ok (.dup, 1) := by decide +kernel
theorem dX2_cut_37 : decode cX2_cut 37 = .ok (.ldc 215, 2) := by decide +kernel
theorem dX2_cut_39 : decode cX2_cut 39 = .ok (.invokespecial 64, 3) := by decide +kernel
theorem dX2_cut_42 : decode cX2_cut 42 = .ok (.athrow, 1) := by decide +kernel
theorem dX2_cut_43 : decode cX2_cut 43 = .ok (.aload_n 0, 1) := by decide +kernel
theorem dX2_cut_44 : decode cX2_cut 44 = .ok (.getfield 21, 3) := by decide +kernel
theorem dX2_cut_47 : decode cX2_cut 47 = .ok (.iload_n 3, 1) := by decide +kernel
theorem dX2_cut_48 : decode cX2_cut 48 = .ok (.invokevirtual 217, 3) := by decide +kernel
theorem dX2_cut_51 : decode cX2_cut 51 = .ok (.ireturn, 1) := by decide +kernel
theorem dX2_approve_0 : decode cX2_approve 0 = .ok (.aload_n 0, 1) := by decide +kernel
theorem dX2_approve_1 : decode cX2_approve 1 = .ok (.iload_n 1, 1) := by decide +kernel
theorem dX2_approve_2 : decode cX2_approve 2 = .ok (.iload_n 2, 1) := by decide +kernel
theorem dX2_approve_3 : decode cX2_approve 3 = .ok (.invokevirtual 195, 3) := by decide +kernel
theorem dX2_approve_6 : decode cX2_approve 6 = .ok (.istore_n 3, 1) := by decide +kernel
theorem dX2_approve_7 : decode cX2_approve 7 = .ok (.aload_n 0, 1) := by decide +kernel
theorem dX2_approve_8 : decode cX2_approve 8 = .ok (.getfield 21, 3) := by decide +kernel
theorem dX2_approve_11 : decode cX2_approve 11 = .ok (.iload_n 3, 1) := by decide +kernel
theorem dX2_approve_12 : decode cX2_approve 12 = .ok (.invokevirtual 220, 3) := by decide +kernel
theorem dX2_approve_15 : decode cX2_approve 15 = .ok (.ifCond .ne 13, 3) := by decide +kernel
theorem dX2_approve_18 : decode cX2_approve 18 = .ok (.new 60, 3) := by decide +kernel
theorem dX2_approve_21 : decode cX2_approve 21 = .ok (.dup, 1) := by decide +kernel
theorem dX2_approve_22 : decode cX2_approve 22 = .ok (.ldc 223, 2) := by decide +kernel
theorem dX2_approve_24 : decode cX2_approve 24 = .ok (.invokespecial 64, 3) := by decide +kernel
theorem dX2_approve_27 : decode cX2_approve 27 = .ok (.athrow, 1) := by decide +kernel
theorem dX2_approve_28 : decode cX2_approve 28 = .ok (.aload_n 0, 1) := by decide +kernel
theorem dX2_approve_29 : decode cX2_approve 29 = .ok (.getfield 21, 3) := by decide +kernel
theorem dX2_approve_32 : decode cX2_approve 32 = .ok (.getfield 206, 3) := by decide +kernel
theorem dX2_approve_35 : decode cX2_approve 35 = .ok (.iload_n 3, 1) := by decide +kernel
theorem dX2_approve_36 : decode cX2_approve 36 = .ok (.iconst 1, 1) := by decide +kernel
theorem dX2_approve_37 : decode cX2_approve 37 = .ok (.iastore, 1) := by decide +kernel
theorem dX2_approve_38 : decode cX2_approve 38 = .ok (.aload_n 0, 1) := by decide +kernel
theorem dX2_approve_39 : decode cX2_approve 39 = .ok (.getfield 21, 3) := by decide +kernel
theorem dX2_approve_42 : decode cX2_approve 42 = .ok (.iload_n 3, 1) := by decide +kernel
theorem dX2_approve_43 : decode cX2_approve 43 = .ok (.invokevirtual 225, 3) := by decide +kernel
theorem dX2_approve_46 : decode cX2_approve 46 = .ok (.ireturn, 1) := by decide +kernel
theorem dX2_use_0 : decode cX2_use 0 = .ok (.aload_n 0, 1) := by decide +kernel
theorem dX2_use_1 : decode cX2_use 1 = .ok (.iload_n 1, 1) := by decide +kernel
theorem dX2_use_2 : decode cX2_use 2 = .ok (.iload_n 2, 1) := by decide +kernel
theorem dX2_use_3 : decode cX2_use 3 = .ok (.invokevirtual 195, 3) := by decide +kernel
theorem dX2_use_6 : decode cX2_use 6 = .ok (.istore 4, 2) := by decide +kernel
theorem dX2_use_8 : decode cX2_use 8 = .ok (.aload_n 0, 1) := by decide +kernel
theorem dX2_use_9 : decode cX2_use 9 = .ok (.iload_n 3, 1) := by decide +kernel
theorem dX2_use_10 : decode cX2_use 10 = .ok (.aload_n 0, 1) := by decide +kernel
theorem dX2_use_11 : decode cX2_use 11 = .ok (.getfield 21, 3) := by decide +kernel
theorem dX2_use_14 : decode cX2_use 14 = .ok (.getfield 212, 3) := by decide +kernel
theorem dX2_use_17 : decode cX2_use 17 = .ok (.iload 4, 2) := by decide +kernel
theorem dX2_use_19 : decode cX2_use 19 = .ok (.iaload, 1) := by decide +kernel
theorem dX2_use_20 : decode cX2_use 20 = .ok (.invokevirtual 201, 3) := by decide +kernel
theorem dX2_use_23 : decode cX2_use 23 = .ok (.aload_n 0, 1) := by decide +kernel
theorem dX2_use_24 : decode cX2_use 24 = .ok (.getfield 21, 3) := by decide +kernel
theorem dX2_use_27 : decode cX2_use 27 = .ok (.getfield 228, 3) := by decide +kernel
theorem dX2_use_30 : decode cX2_use 30 = .ok (.iload 4, 2) := by decide +kernel
theorem dX2_use_32 : decode cX2_use 32 = .ok (.aaload, 1) := by decide +kernel
theorem dX2_use_33 : decode cX2_use 33 = .ok (.iload_n 3, 1) := by decide +kernel
theorem dX2_use_34 : decode cX2_use 34 = .ok (.iaload, 1) := by decide +kernel
theorem dX2_use_35 : decode cX2_use 35 = .ok (.ireturn, 1) := by decide +kernel
theorem dX2_ofText_0 : decode cX2_ofText 0 = .ok (.aload_n 0, 1) := by decide +kernel
theorem dX2_ofText_1 : decode cX2_ofText 1 = .ok (.iload_n 1, 1) := by decide +kernel
theorem dX2_ofText_2 : decode cX2_ofText 2 = .ok (.iload_n 2, 1) := by decide +kernel
theorem dX2_ofText_3 : decode cX2_ofText 3 = .ok (.invokevirtual 195, 3) := by decide +kernel
theorem dX2_ofText_6 : decode cX2_ofText 6 = .ok (.istore 4, 2) := by decide +kernel
theorem dX2_ofText_8 : decode cX2_ofText 8 = .ok (.aload_n 0, 1) := by decide +kernel
theorem dX2_ofText_9 : decode cX2_ofText 9 = .ok (.iload_n 3, 1) := by decide +kernel
theorem dX2_ofText_10 : decode cX2_ofText 10 = .ok (.bipush 6, 2) := by decide +kernel
theorem dX2_ofText_12 : decode cX2_ofText 12 = .ok (.invokevirtual 120, 3) := by decide +kernel
theorem dX2_ofText_15 : decode cX2_ofText 15 = .ok (.iload_n 3, 1) := by decide +kernel
theorem dX2_ofText_16 : decode cX2_ofText 16 = .ok (.tableswitch 104 0 5 #[40, 51, 62, 73, 84, 94], 40) := by decide +kernel
theorem dX2_ofText_56 : decode cX2_ofText 56 = .ok (.aload_n 0, 1) := by decide +kernel
theorem dX2_ofText_57 : decode cX2_ofText 57 = .ok (.getfield 21, 3) := by decide +kernel
theorem dX2_ofText_60 : decode cX2_ofText 60 = .ok (.getfield 212, 3) := by decide +kernel
theorem dX2_ofText_63 : decode cX2_ofText 63 = .ok (.iload 4, 2) := by decide +kernel
theorem dX2_ofText_65 : decode cX2_ofText 65 = .ok (.iaload, 1) := by decide +kernel
theorem dX2_ofText_66 : decode cX2_ofText 66 = .ok (.ireturn, 1) := by decide +kernel
theorem dX2_ofText_67 : decode cX2_ofText 67 = .ok (.aload_n 0, 1) := by decide +kernel
theorem dX2_ofText_68 : decode cX2_ofText 68 = .ok (.getfield 21, 3) := by decide +kernel
theorem dX2_ofText_71 : decode cX2_ofText 71 = .ok (.getfield 206, 3) := by decide +kernel
theorem dX2_ofText_74 : decode cX2_ofText 74 = .ok (.iload 4, 2) := by decide +kernel
theorem dX2_ofText_76 : decode cX2_ofText 76 = .ok (.iaload, 1) := by decide +kernel
theorem dX2_ofText_77 : decode cX2_ofText 77 = .ok (.ireturn, 1) := by decide +kernel
theorem dX2_ofText_78 : decode cX2_ofText 78 = .ok (.aload_n 0, 1) := by decide +kernel
theorem dX2_ofText_79 : decode cX2_ofText 79 = .ok (.getfield 21, 3) := by decide +kernel
theorem dX2_ofText_82 : decode cX2_ofText 82 = .ok (.iload 4, 2) := by decide +kernel
theorem dX2_ofText_84 : decode cX2_ofText 84 = .ok (.iconst (-1), 1) := by decide +kernel
theorem dX2_ofText_85 : decode cX2_ofText 85 = .ok (.invokevirtual 232, 3) := by decide +kernel
theorem dX2_ofText_88 : decode cX2_ofText 88 = .ok (.ireturn, 1) := by decide +kernel
theorem dX2_ofText_89 : decode cX2_ofText 89 = .ok (.aload_n 0, 1) := by decide +kernel
theorem dX2_ofText_90 : decode cX2_ofText 90 = .ok (.getfield 21, 3) := by decide +kernel
theorem dX2_ofText_93 : decode cX2_ofText 93 = .ok (.iload 4, 2) := by decide +kernel
theorem dX2_ofText_95 : decode cX2_ofText 95 = .ok (.iconst 3, 1) := by decide +kernel
theorem dX2_ofText_96 : decode cX2_ofText 96 = .ok (.invokevirtual 235, 3) := by decide +kernel
theorem dX2_ofText_99 : decode cX2_ofText 99 = .ok (.ireturn, 1) := by decide +kernel
theorem dX2_ofText_100 : decode cX2_ofText 100 = .ok (.aload_n 0, 1) := by decide +kernel
theorem dX2_ofText_101 : decode cX2_ofText 101 = .ok (.getfield 21, 3) := by decide +kernel
theorem dX2_ofText_104 : decode cX2_ofText 104 = .ok (.iload 4, 2) := by decide +kernel
theorem dX2_ofText_106 : decode cX2_ofText 106 = .ok (.invokevirtual 238, 3) := by decide +kernel
theorem dX2_ofText_109 : decode cX2_ofText 109 = .ok (.ireturn, 1) := by decide +kernel
theorem dX2_ofText_110 : decode cX2_ofText 110 = .ok (.aload_n 0, 1) := by decide +kernel
theorem dX2_ofText_111 : decode cX2_ofText 111 = .ok (.getfield 21, 3) := by decide +kernel
theorem dX2_ofText_114 : decode cX2_ofText 114 = .ok (.iload 4, 2) := by decide +kernel
theorem dX2_ofText_116 : decode cX2_ofText 116 = .ok (.invokevirtual 225, 3) := by decide +kernel
theorem dX2_ofText_119 : decode cX2_ofText 119 = .ok (.ireturn, 1) := by decide +kernel
theorem dX2_ofText_120 : decode cX2_ofText 120 = .ok (.aload_n 0, 1) := by decide +kernel
theorem dX2_ofText_121 : decode cX2_ofText 121 = .ok (.getfield 21, 3) := by decide +kernel
theorem dX2_ofText_124 : decode cX2_ofText 124 = .ok (.iload 4, 2) := by decide +kernel
theorem dX2_ofText_126 : decode cX2_ofText 126 = .ok (.invokevirtual 241, 3) := by decide +kernel
theorem dX2_ofText_129 : decode cX2_ofText 129 = .ok (.ireturn, 1) := by decide +kernel
theorem dX2_agreement_0 : decode cX2_agreement 0 = .ok (.aload_n 0, 1) := by decide +kernel
theorem dX2_agreement_1 : decode cX2_agreement 1 = .ok (.iload_n 1, 1) := by decide +kernel
theorem dX2_agreement_2 : decode cX2_agreement 2 = .ok (.invokevirtual 244, 3) := by decide +kernel
theorem dX2_agreement_5 : decode cX2_agreement 5 = .ok (.aload_n 0, 1) := by decide +kernel
theorem dX2_agreement_6 : decode cX2_agreement 6 = .ok (.getfield 21, 3) := by decide +kernel
theorem dX2_agreement_9 : decode cX2_agreement 9 = .ok (.iload_n 1, 1) := by decide +kernel
theorem dX2_agreement_10 : decode cX2_agreement 10 = .ok (.invokevirtual 247, 3) := by decide +kernel
theorem dX2_agreement_13 : decode cX2_agreement 13 = .ok (.ireturn, 1) := by decide +kernel
theorem dX2_pass_0 : decode cX2_pass 0 = .ok (.aload_n 0, 1) := by decide +kernel
theorem dX2_pass_1 : decode cX2_pass 1 = .ok (.iload_n 1, 1) := by decide +kernel
theorem dX2_pass_2 : decode cX2_pass 2 = .ok (.invokevirtual 250, 3) := by decide +kernel
theorem dX2_pass_5 : decode cX2_pass 5 = .ok (.aload_n 0, 1) := by decide +kernel
theorem dX2_pass_6 : decode cX2_pass 6 = .ok (.getfield 25, 3) := by decide +kernel
theorem dX2_pass_9 : decode cX2_pass 9 = .ok (.iload_n 1, 1) := by decide +kernel
theorem dX2_pass_10 : decode cX2_pass 10 = .ok (.iadd, 1) := by decide +kernel
theorem dX2_pass_11 : decode cX2_pass 11 = .ok (.sipush 199, 3) := by decide +kernel
theorem dX2_pass_14 : decode cX2_pass 14 = .ok (.if_icmp .le 13, 3) := by decide +kernel
theorem dX2_pass_17 : decode cX2_pass 17 = .ok (.new 60, 3) := by decide +kernel
theorem dX2_pass_20 : decode cX2_pass 20 = .ok (.dup, 1) := by decide +kernel
theorem dX2_pass_21 : decode cX2_pass 21 = .ok (.ldc 253, 2) := by decide +kernel
theorem dX2_pass_23 : decode cX2_pass 23 = .ok (.invokespecial 64, 3) := by decide +kernel
theorem dX2_pass_26 : decode cX2_pass 26 = .ok (.athrow, 1) := by decide +kernel
theorem dX2_pass_27 : decode cX2_pass 27 = .ok (.iconst 0, 1) := by decide +kernel
theorem dX2_pass_28 : decode cX2_pass 28 = .ok (.istore_n 2, 1) := by decide +kernel
theorem dX2_pass_29 : decode cX2_pass 29 = .ok (.iconst 0, 1) := by decide +kernel
theorem dX2_pass_30 : decode cX2_pass 30 = .ok (.istore_n 3, 1) := by decide +kernel
theorem dX2_pass_31 : decode cX2_pass 31 = .ok (.iload_n 3, 1) := by decide +kernel
theorem dX2_pass_32 : decode cX2_pass 32 = .ok (.iload_n 1, 1) := by decide +kernel
theorem dX2_pass_33 : decode cX2_pass 33 = .ok (.if_icmp .ge 33, 3) := by decide +kernel
theorem dX2_pass_36 : decode cX2_pass 36 = .ok (.aload_n 0, 1) := by decide +kernel
theorem dX2_pass_37 : decode cX2_pass 37 = .ok (.dup, 1) := by decide +kernel
theorem dX2_pass_38 : decode cX2_pass 38 = .ok (.getfield 25, 3) := by decide +kernel
theorem dX2_pass_41 : decode cX2_pass 41 = .ok (.iconst 1, 1) := by decide +kernel
theorem dX2_pass_42 : decode cX2_pass 42 = .ok (.iadd, 1) := by decide +kernel
theorem dX2_pass_43 : decode cX2_pass 43 = .ok (.putfield 25, 3) := by decide +kernel
theorem dX2_pass_46 : decode cX2_pass 46 = .ok (.iload_n 2, 1) := by decide +kernel
theorem dX2_pass_47 : decode cX2_pass 47 = .ok (.aload_n 0, 1) := by decide +kernel
theorem dX2_pass_48 : decode cX2_pass 48 = .ok (.getfield 21, 3) := by decide +kernel
theorem dX2_pass_51 : decode cX2_pass 51 = .ok (.aload_n 0, 1) := by decide +kernel
theorem dX2_pass_52 : decode cX2_pass 52 = .ok (.getfield 25, 3) := by decide +kernel
theorem dX2_pass_55 : decode cX2_pass 55 = .ok (.invokevirtual 111, 3) := by decide +kernel
theorem dX2_pass_58 : decode cX2_pass 58 = .ok (.iadd, 1) := by decide +kernel
theorem dX2_pass_59 : decode cX2_pass 59 = .ok (.istore_n 2, 1) := by decide +kernel
theorem dX2_pass_60 : decode cX2_pass 60 = .ok (.iinc 3 1, 3) := by decide +kernel
theorem dX2_pass_63 : decode cX2_pass 63 = .ok (.goto (-32), 3) := by decide +kernel
theorem dX2_pass_66 : decode cX2_pass 66 = .ok (.iload_n 2, 1) := by decide +kernel
theorem dX2_pass_67 : decode cX2_pass 67 = .ok (.ireturn, 1) := by decide +kernel
theorem dX2_many_0 : decode cX2_many 0 = .ok (.aload_n 0, 1) := by decide +kernel
theorem dX2_many_1 : decode cX2_many 1 = .ok (.iload_n 1, 1) := by decide +kernel
theorem dX2_many_2 : decode cX2_many 2 = .ok (.bipush 12, 2) := by decide +kernel
theorem dX2_many_4 : decode cX2_many 4 = .ok (.invokevirtual 120, 3) := by decide +kernel
theorem dX2_many_7 : decode cX2_many 7 = .ok (.iload_n 1, 1) := by decide +kernel
theorem dX2_many_8 : decode cX2_many 8 = .ok (.tableswitch 128 0 11 #[64, 72, 80, 88, 88, 88, 88, 99, 107, 107, 107, 119], 64) := by decide +kernel
theorem dX2_many_72 : decode cX2_many 72 = .ok (.aload_n 0, 1) := by decide +kernel
theorem dX2_many_73 : decode cX2_many 73 = .ok (.getfield 12, 3) := by decide +kernel
theorem dX2_many_76 : decode cX2_many 76 = .ok (.getfield 255, 3) := by decide +kernel
theorem dX2_many_79 : decode cX2_many 79 = .ok (.ireturn, 1) := by decide +kernel
theorem dX2_many_80 : decode cX2_many 80 = .ok (.aload_n 0, 1) := by decide +kernel
theorem dX2_many_81 : decode cX2_many 81 = .ok (.getfield 12, 3) := by decide +kernel
theorem dX2_many_84 : decode cX2_many 84 = .ok (.invokevirtual 258, 3) := by decide +kernel
theorem dX2_many_87 : decode cX2_many 87 = .ok (.ireturn, 1) := by decide +kernel
theorem dX2_many_88 : decode cX2_many 88 = .ok (.aload_n 0, 1) := by decide +kernel
theorem dX2_many_89 : decode cX2_many 89 = .ok (.getfield 12, 3) := by decide +kernel
theorem dX2_many_92 : decode cX2_many 92 = .ok (.getfield 53, 3) := by decide +kernel
theorem dX2_many_95 : decode cX2_many 95 = .ok (.ireturn, 1) := by decide +kernel
theorem dX2_many_96 : decode cX2_many 96 = .ok (.aload_n 0, 1) := by decide +kernel
theorem dX2_many_97 : decode cX2_many 97 = .ok (.getfield 12, 3) := by decide +kernel
theorem dX2_many_100 : decode cX2_many 100 = .ok (.iload_n 1, 1) := by decide +kernel
theorem dX2_many_101 : decode cX2_many 101 = .ok (.iconst 3, 1) := by decide +kernel
theorem dX2_many_102 : decode cX2_many 102 = .ok (.isub, 1) := by decide +kernel
theorem dX2_many_103 : decode cX2_many 103 = .ok (.invokevirtual 261, 3) := by decide +kernel
theorem dX2_many_106 : decode cX2_many 106 = .ok (.ireturn, 1) := by decide +kernel
theorem dX2_many_107 : decode cX2_many 107 = .ok (.aload_n 0, 1) := by decide +kernel
theorem dX2_many_108 : decode cX2_many 108 = .ok (.getfield 21, 3) := by decide +kernel
theorem dX2_many_111 : decode cX2_many 111 = .ok (.getfield 186, 3) := by decide +kernel
theorem dX2_many_114 : decode cX2_many 114 = .ok (.ireturn, 1) := by decide +kernel
theorem dX2_many_115 : decode cX2_many 115 = .ok (.aload_n 0, 1) := by decide +kernel
theorem dX2_many_116 : decode cX2_many 116 = .ok (.getfield 21, 3) := by decide +kernel
theorem dX2_many_119 : decode cX2_many 119 = .ok (.iload_n 1, 1) := by decide +kernel
theorem dX2_many_120 : decode cX2_many 120 = .ok (.bipush 8, 2) := by decide +kernel
theorem dX2_many_122 : decode cX2_many 122 = .ok (.isub, 1) := by decide +kernel
theorem dX2_many_123 : decode cX2_many 123 = .ok (.invokevirtual 264, 3) := by decide +kernel
theorem dX2_many_126 : decode cX2_many 126 = .ok (.ireturn, 1) := by decide +kernel
theorem dX2_many_127 : decode cX2_many 127 = .ok (.aload_n 0, 1) := by decide +kernel
theorem dX2_many_128 : decode cX2_many 128 = .ok (.getfield 21, 3) := by decide +kernel
theorem dX2_many_131 : decode cX2_many 131 = .ok (.iconst (-1), 1) := by decide +kernel
theorem dX2_many_132 : decode cX2_many 132 = .ok (.invokevirtual 147, 3) := by decide +kernel
theorem dX2_many_135 : decode cX2_many 135 = .ok (.ireturn, 1) := by decide +kernel
theorem dX2_many_136 : decode cX2_many 136 = .ok (.aload_n 0, 1) := by decide +kernel
theorem dX2_many_137 : decode cX2_many 137 = .ok (.getfield 25, 3) := by decide +kernel
theorem dX2_many_140 : decode cX2_many 140 = .ok (.ireturn, 1) := by decide +kernel
theorem dX2_meanConsistency_0 : decode cX2_meanConsistency 0 = .ok (.aload_n 0, 1) := by decide +kernel
theorem dX2_meanConsistency_1 : decode cX2_meanConsistency 1 = .ok (.getfield 21, 3) := by decide +kernel
theorem dX2_meanConsistency_4 : decode cX2_meanConsistency 4 = .ok (.invokevirtual 267, 3) := by decide +kernel
theorem dX2_meanConsistency_7 : decode cX2_meanConsistency 7 = .ok (.istore_n 1, 1) := by decide +kernel
theorem dX2_meanConsistency_8 : decode cX2_meanConsistency 8 = .ok (.iload_n 1, 1) := by decide +kernel
theorem dX2_meanConsistency_9 : decode cX2_meanConsistency 9 = .ok (.ifCond .ne 7, 3) := by decide +kernel
theorem dX2_meanConsistency_12 : decode cX2_meanConsistency 12 = .ok (.dconst 0, 1) := by decide +kernel
theorem dX2_meanConsistency_13 : decode cX2_meanConsistency 13 = .ok (.goto 14, 3) := by decide +kernel
theorem dX2_meanConsistency_16 : decode cX2_meanConsistency 16 = .ok (.aload_n 0, 1) := by decide +kernel
theorem dX2_meanConsistency_17 : decode cX2_meanConsistency 17 = .ok (.getfield 21, 3) := by decide +kernel
theorem dX2_meanConsistency_20 : decode cX2_meanConsistency 20 = .ok (.invokevirtual 270, 3) := by decide +kernel
theorem dX2_meanConsistency_23 : decode cX2_meanConsistency 23 = .ok (.i2d, 1) := by decide +kernel
theorem dX2_meanConsistency_24 : decode cX2_meanConsistency 24 = .ok (.iload_n 1, 1) := by decide +kernel
theorem dX2_meanConsistency_25 : decode cX2_meanConsistency 25 = .ok (.i2d, 1) := by decide +kernel
theorem dX2_meanConsistency_26 : decode cX2_meanConsistency 26 = .ok (.ddiv, 1) := by decide +kernel
theorem dX2_meanConsistency_27 : decode cX2_meanConsistency 27 = .ok (.dreturn, 1) := by decide +kernel
theorem dX2_reopenedBy_0 : decode cX2_reopenedBy 0 = .ok (.aload_n 0, 1) := by decide +kernel
theorem dX2_reopenedBy_1 : decode cX2_reopenedBy 1 = .ok (.iload_n 1, 1) := by decide +kernel
theorem dX2_reopenedBy_2 : decode cX2_reopenedBy 2 = .ok (.invokevirtual 69, 3) := by decide +kernel
theorem dX2_reopenedBy_5 : decode cX2_reopenedBy 5 = .ok (.aload_n 0, 1) := by decide +kernel
theorem dX2_reopenedBy_6 : decode cX2_reopenedBy 6 = .ok (.getfield 12, 3) := by decide +kernel
theorem dX2_reopenedBy_9 : decode cX2_reopenedBy 9 = .ok (.iload_n 1, 1) := by decide +kernel
theorem dX2_reopenedBy_10 : decode cX2_reopenedBy 10 = .ok (.invokevirtual 101, 3) := by decide +kernel
theorem dX2_reopenedBy_13 : decode cX2_reopenedBy 13 = .ok (.ifCond .eq 16, 3) := by decide +kernel
theorem dX2_reopenedBy_16 : decode cX2_reopenedBy 16 = .ok (.aload_n 0, 1) := by decide +kernel
theorem dX2_reopenedBy_17 : decode cX2_reopenedBy 17 = .ok (.getfield 21, 3) := by decide +kernel
theorem dX2_reopenedBy_20 : decode cX2_reopenedBy 20 = .ok (.iconst 1, 1) := by decide +kernel
theorem dX2_reopenedBy_21 : decode cX2_reopenedBy 21 = .ok (.iload_n 1, 1) := by decide +kernel
theorem dX2_reopenedBy_22 : decode cX2_reopenedBy 22 = .ok (.ishl, 1) := by decide +kernel
theorem dX2_reopenedBy_23 : decode cX2_reopenedBy 23 = .ok (.invokevirtual 273, 3) := by decide +kernel
theorem dX2_reopenedBy_26 : decode cX2_reopenedBy 26 = .ok (.goto 4, 3) := by decide +kernel
theorem dX2_reopenedBy_29 : decode cX2_reopenedBy 29 = .ok (.iconst 0, 1) := by decide +kernel
theorem dX2_reopenedBy_30 : decode cX2_reopenedBy 30 = .ok (.ireturn, 1) := by decide +kernel
theorem dX2_reopenedIn_0 : decode cX2_reopenedIn 0 = .ok (.aload_n 0, 1) := by decide +kernel
theorem dX2_reopenedIn_1 : decode cX2_reopenedIn 1 = .ok (.iload_n 1, 1) := by decide +kernel
theorem dX2_reopenedIn_2 : decode cX2_reopenedIn 2 = .ok (.invokevirtual 250, 3) := by decide +kernel
theorem dX2_reopenedIn_5 : decode cX2_reopenedIn 5 = .ok (.aload_n 0, 1) := by decide +kernel
theorem dX2_reopenedIn_6 : decode cX2_reopenedIn 6 = .ok (.getfield 21, 3) := by decide +kernel
theorem dX2_reopenedIn_9 : decode cX2_reopenedIn 9 = .ok (.aload_n 0, 1) := by decide +kernel
theorem dX2_reopenedIn_10 : decode cX2_reopenedIn 10 = .ok (.getfield 12, 3) := by decide +kernel
theorem dX2_reopenedIn_13 : decode cX2_reopenedIn 13 = .ok (.aload_n 0, 1) := by decide +kernel
theorem dX2_reopenedIn_14 : decode cX2_reopenedIn 14 = .ok (.getfield 25, 3) := by decide +kernel
theorem dX2_reopenedIn_17 : decode cX2_reopenedIn 17 = .ok (.iload_n 1, 1) := by decide +kernel
theorem dX2_reopenedIn_18 : decode cX2_reopenedIn 18 = .ok (.iadd, 1) := by decide +kernel
theorem dX2_reopenedIn_19 : decode cX2_reopenedIn 19 = .ok (.invokevirtual 276, 3) := by decide +kernel
theorem dX2_reopenedIn_22 : decode cX2_reopenedIn 22 = .ok (.invokevirtual 273, 3) := by decide +kernel
theorem dX2_reopenedIn_25 : decode cX2_reopenedIn 25 = .ok (.ireturn, 1) := by decide +kernel
theorem dX2_changedBy_0 : decode cX2_changedBy 0 = .ok (.aload_n 0, 1) := by decide +kernel
theorem dX2_changedBy_1 : decode cX2_changedBy 1 = .ok (.iload_n 1, 1) := by decide +kernel
theorem dX2_changedBy_2 : decode cX2_changedBy 2 = .ok (.iload_n 2, 1) := by decide +kernel
theorem dX2_changedBy_3 : decode cX2_changedBy 3 = .ok (.invokevirtual 167, 3) := by decide +kernel
theorem dX2_changedBy_6 : decode cX2_changedBy 6 = .ok (.aload_n 0, 1) := by decide +kernel
theorem dX2_changedBy_7 : decode cX2_changedBy 7 = .ok (.getfield 12, 3) := by decide +kernel
theorem dX2_changedBy_10 : decode cX2_changedBy 10 = .ok (.iload_n 1, 1) := by decide +kernel
theorem dX2_changedBy_11 : decode cX2_changedBy 11 = .ok (.iload_n 2, 1) := by decide +kernel
theorem dX2_changedBy_12 : decode cX2_changedBy 12 = .ok (.invokevirtual 170, 3) := by decide +kernel
theorem dX2_changedBy_15 : decode cX2_changedBy 15 = .ok (.ifCond .ne 5, 3) := by decide +kernel
theorem dX2_changedBy_18 : decode cX2_changedBy 18 = .ok (.iconst (-1), 1) := by decide +kernel
theorem dX2_changedBy_19 : decode cX2_changedBy 19 = .ok (.ireturn, 1) := by decide +kernel
theorem dX2_changedBy_20 : decode cX2_changedBy 20 = .ok (.aload_n 0, 1) := by decide +kernel
theorem dX2_changedBy_21 : decode cX2_changedBy 21 = .ok (.getfield 21, 3) := by decide +kernel
theorem dX2_changedBy_24 : decode cX2_changedBy 24 = .ok (.iload_n 1, 1) := by decide +kernel
theorem dX2_changedBy_25 : decode cX2_changedBy 25 = .ok (.iload_n 2, 1) := by decide +kernel
theorem dX2_changedBy_26 : decode cX2_changedBy 26 = .ok (.invokestatic 180, 3) := by decide +kernel
theorem dX2_changedBy_29 : decode cX2_changedBy 29 = .ok (.iload_n 1, 1) := by decide +kernel
theorem dX2_changedBy_30 : decode cX2_changedBy 30 = .ok (.iload_n 2, 1) := by decide +kernel
theorem dX2_changedBy_31 : decode cX2_changedBy 31 = .ok (.invokestatic 175, 3) := by decide +kernel
theorem dX2_changedBy_34 : decode cX2_changedBy 34 = .ok (.invokevirtual 279, 3) := by decide +kernel
theorem dX2_changedBy_37 : decode cX2_changedBy 37 = .ok (.ireturn, 1) := by decide +kernel
theorem dX2_formFor_0 : decode cX2_formFor 0 = .ok (.aload_n 0, 1) := by decide +kernel
theorem dX2_formFor_1 : decode cX2_formFor 1 = .ok (.iload_n 1, 1) := by decide +kernel
theorem dX2_formFor_2 : decode cX2_formFor 2 = .ok (.iload_n 2, 1) := by decide +kernel
theorem dX2_formFor_3 : decode cX2_formFor 3 = .ok (.invokevirtual 195, 3) := by decide +kernel
theorem dX2_formFor_6 : decode cX2_formFor 6 = .ok (.istore 5, 2) := by decide +kernel
theorem dX2_formFor_8 : decode cX2_formFor 8 = .ok (.aload_n 0, 1) := by decide +kernel
theorem dX2_formFor_9 : decode cX2_formFor 9 = .ok (.iload_n 3, 1) := by decide +kernel
theorem dX2_formFor_10 : decode cX2_formFor 10 = .ok (.aload_n 0, 1) := by decide +kernel
theorem dX2_formFor_11 : decode cX2_formFor 11 = .ok (.getfield 21, 3) := by decide +kernel
theorem dX2_formFor_14 : decode cX2_formFor 14 = .ok (.iload 5, 2) := by decide +kernel
theorem dX2_formFor_16 : decode cX2_formFor 16 = .ok (.invokevirtual 198, 3) := by decide +kernel
theorem dX2_formFor_19 : decode cX2_formFor 19 = .ok (.invokevirtual 201, 3) := by decide +kernel
theorem dX2_formFor_22 : decode cX2_formFor 22 = .ok (.aload_n 0, 1) := by decide +kernel
theorem dX2_formFor_23 : decode cX2_formFor 23 = .ok (.iload 4, 2) := by decide +kernel
theorem dX2_formFor_25 : decode cX2_formFor 25 = .ok (.invokevirtual 69, 3) := by decide +kernel
theorem dX2_formFor_28 : decode cX2_formFor 28 = .ok (.aload_n 0, 1) := by decide +kernel
theorem dX2_formFor_29 : decode cX2_formFor 29 = .ok (.getfield 12, 3) := by decide +kernel
theorem dX2_formFor_32 : decode cX2_formFor 32 = .ok (.getfield 130, 3) := by decide +kernel
theorem dX2_formFor_35 : decode cX2_formFor 35 = .ok (.iload 4, 2) := by decide +kernel
theorem dX2_formFor_37 : decode cX2_formFor 37 = .ok (.iaload, 1) := by decide +kernel
theorem dX2_formFor_38 : decode cX2_formFor 38 = .ok (.iconst 4, 1) := by decide +kernel
theorem dX2_formFor_39 : decode cX2_formFor 39 = .ok (.imul, 1) := by decide +kernel
theorem dX2_formFor_40 : decode cX2_formFor 40 = .ok (.istore 6, 2) := by decide +kernel
theorem dX2_formFor_42 : decode cX2_formFor 42 = .ok (.aload_n 0, 1) := by decide +kernel
theorem dX2_formFor_43 : decode cX2_formFor 43 = .ok (.getfield 21, 3) := by decide +kernel
theorem dX2_formFor_46 : decode cX2_formFor 46 = .ok (.iload 5, 2) := by decide +kernel
theorem dX2_formFor_48 : decode cX2_formFor 48 = .ok (.iload_n 3, 1) := by decide +kernel
theorem dX2_formFor_49 : decode cX2_formFor 49 = .ok (.iload 6, 2) := by decide +kernel
theorem dX2_formFor_51 : decode cX2_formFor 51 = .ok (.iconst (-1), 1) := by decide +kernel
theorem dX2_formFor_52 : decode cX2_formFor 52 = .ok (.iconst (-1), 1) := by decide +kernel
theorem dX2_formFor_53 : decode cX2_formFor 53 = .ok (.invokevirtual 282, 3) := by decide +kernel
theorem dX2_formFor_56 : decode cX2_formFor 56 = .ok (.iload 4, 2) := by decide +kernel
theorem dX2_formFor_58 : decode cX2_formFor 58 = .ok (.if_icmp .ne 8, 3) := by decide +kernel
theorem dX2_formFor_61 : decode cX2_formFor 61 = .ok (.iload 6, 2) := by decide +kernel
theorem dX2_formFor_63 : decode cX2_formFor 63 = .ok (.goto 4, 3) := by decide +kernel
theorem dX2_formFor_66 : decode cX2_formFor 66 = .ok (.iconst (-1), 1) := by decide +kernel
theorem dX2_formFor_67 : decode cX2_formFor 67 = .ok (.ireturn, 1) := by decide +kernel
theorem dX2_digest_0 : decode cX2_digest 0 = .ok (.ldc2_w 286, 3) := by decide +kernel
theorem dX2_digest_3 : decode cX2_digest 3 = .ok (.lstore_n 1, 1) := by decide +kernel
theorem dX2_digest_4 : decode cX2_digest 4 = .ok (.iconst 0, 1) := by decide +kernel
theorem dX2_digest_5 : decode cX2_digest 5 = .ok (.istore_n 3, 1) := by decide +kernel
theorem dX2_digest_6 : decode cX2_digest 6 = .ok (.iload_n 3, 1) := by decide +kernel
theorem dX2_digest_7 : decode cX2_digest 7 = .ok (.bipush 12, 2) := by decide +kernel
theorem dX2_digest_9 : decode cX2_digest 9 = .ok (.if_icmp .gt 22, 3) := by decide +kernel
theorem dX2_digest_12 : decode cX2_digest 12 = .ok (.lload_n 1, 1) := by decide +kernel
theorem dX2_digest_13 : decode cX2_digest 13 = .ok (.ldc2_w 288, 3) := by decide +kernel
theorem dX2_digest_16 : decode cX2_digest 16 = .ok (.lmul, 1) := by decide +kernel
theorem dX2_digest_17 : decode cX2_digest 17 = .ok (.aload_n 0, 1) := by decide +kernel
theorem dX2_digest_18 : decode cX2_digest 18 = .ok (.iload_n 3, 1) := by decide +kernel
theorem dX2_digest_19 : decode cX2_digest 19 = .ok (.invokevirtual 290, 3) := by decide +kernel
theorem dX2_digest_22 : decode cX2_digest 22 = .ok (.i2l, 1) := by decide +kernel
theorem dX2_digest_23 : decode cX2_digest 23 = .ok (.ladd, 1) := by decide +kernel
theorem dX2_digest_24 : decode cX2_digest 24 = .ok (.lstore_n 1, 1) := by decide +kernel
theorem dX2_digest_25 : decode cX2_digest 25 = .ok (.iinc 3 1, 3) := by decide +kernel
theorem dX2_digest_28 : decode cX2_digest 28 = .ok (.goto (-22), 3) := by decide +kernel
theorem dX2_digest_31 : decode cX2_digest 31 = .ok (.aload_n 0, 1) := by decide +kernel
theorem dX2_digest_32 : decode cX2_digest 32 = .ok (.lload_n 1, 1) := by decide +kernel
theorem dX2_digest_33 : decode cX2_digest 33 = .ok (.invokevirtual 293, 3) := by decide +kernel
theorem dX2_digest_36 : decode cX2_digest 36 = .ok (.lstore_n 1, 1) := by decide +kernel
theorem dX2_digest_37 : decode cX2_digest 37 = .ok (.aload_n 0, 1) := by decide +kernel
theorem dX2_digest_38 : decode cX2_digest 38 = .ok (.lload_n 1, 1) := by decide +kernel
theorem dX2_digest_39 : decode cX2_digest 39 = .ok (.invokevirtual 297, 3) := by decide +kernel
theorem dX2_digest_42 : decode cX2_digest 42 = .ok (.lstore_n 1, 1) := by decide +kernel
theorem dX2_digest_43 : decode cX2_digest 43 = .ok (.aload_n 0, 1) := by decide +kernel
theorem dX2_digest_44 : decode cX2_digest 44 = .ok (.lload_n 1, 1) := by decide +kernel
theorem dX2_digest_45 : decode cX2_digest 45 = .ok (.invokevirtual 300, 3) := by decide +kernel
theorem dX2_digest_48 : decode cX2_digest 48 = .ok (.lstore_n 1, 1) := by decide +kernel
theorem dX2_digest_49 : decode cX2_digest 49 = .ok (.iconst 0, 1) := by decide +kernel
theorem dX2_digest_50 : decode cX2_digest 50 = .ok (.istore_n 3, 1) := by decide +kernel
theorem dX2_digest_51 : decode cX2_digest 51 = .ok (.iload_n 3, 1) := by decide +kernel
theorem dX2_digest_52 : decode cX2_digest 52 = .ok (.aload_n 0, 1) := by decide +kernel
theorem dX2_digest_53 : decode cX2_digest 53 = .ok (.getfield 21, 3) := by decide +kernel
theorem dX2_digest_56 : decode cX2_digest 56 = .ok (.getfield 186, 3) := by decide +kernel
theorem dX2_digest_59 : decode cX2_digest 59 = .ok (.if_icmp .ge 22, 3) := by decide +kernel
theorem dX2_digest_62 : decode cX2_digest 62 = .ok (.lload_n 1, 1) := by decide +kernel
theorem dX2_digest_63 : decode cX2_digest 63 = .ok (.ldc2_w 288, 3) := by decide +kernel
theorem dX2_digest_66 : decode cX2_digest 66 = .ok (.lmul, 1) := by decide +kernel
theorem dX2_digest_67 : decode cX2_digest 67 = .ok (.aload_n 0, 1) := by decide +kernel
theorem dX2_digest_68 : decode cX2_digest 68 = .ok (.iload_n 3, 1) := by decide +kernel
theorem dX2_digest_69 : decode cX2_digest 69 = .ok (.invokevirtual 303, 3) := by decide +kernel
theorem dX2_digest_72 : decode cX2_digest 72 = .ok (.i2l, 1) := by decide +kernel
theorem dX2_digest_73 : decode cX2_digest 73 = .ok (.ladd, 1) := by decide +kernel
theorem dX2_digest_74 : decode cX2_digest 74 = .ok (.lstore_n 1, 1) := by decide +kernel
theorem dX2_digest_75 : decode cX2_digest 75 = .ok (.iinc 3 1, 3) := by decide +kernel
theorem dX2_digest_78 : decode cX2_digest 78 = .ok (.goto (-27), 3) := by decide +kernel
theorem dX2_digest_81 : decode cX2_digest 81 = .ok (.lload_n 1, 1) := by decide +kernel
theorem dX2_digest_82 : decode cX2_digest 82 = .ok (.ldc2_w 288, 3) := by decide +kernel
theorem dX2_digest_85 : decode cX2_digest 85 = .ok (.lmul, 1) := by decide +kernel
theorem dX2_digest_86 : decode cX2_digest 86 = .ok (.aload_n 0, 1) := by decide +kernel
theorem dX2_digest_87 : decode cX2_digest 87 = .ok (.bipush 10, 2) := by decide +kernel
theorem dX2_digest_89 : decode cX2_digest 89 = .ok (.invokevirtual 306, 3) := by decide +kernel
theorem dX2_digest_92 : decode cX2_digest 92 = .ok (.i2l, 1) := by decide +kernel
theorem dX2_digest_93 : decode cX2_digest 93 = .ok (.ladd, 1) := by decide +kernel
theorem dX2_digest_94 : decode cX2_digest 94 = .ok (.lreturn, 1) := by decide +kernel
theorem dX2_digestTerms_0 : decode cX2_digestTerms 0 = .ok (.lload_n 1, 1) := by decide +kernel
theorem dX2_digestTerms_1 : decode cX2_digestTerms 1 = .ok (.lstore_n 3, 1) := by decide +kernel
theorem dX2_digestTerms_2 : decode cX2_digestTerms 2 = .ok (.iconst 0, 1) := by decide +kernel
theorem dX2_digestTerms_3 : decode cX2_digestTerms 3 = .ok (.istore 5, 2) := by decide +kernel
theorem dX2_digestTerms_5 : decode cX2_digestTerms 5 = .ok (.iload 5, 2) := by decide +kernel
theorem dX2_digestTerms_7 : decode cX2_digestTerms 7 = .ok (.aload_n 0, 1) := by decide +kernel
theorem dX2_digestTerms_8 : decode cX2_digestTerms 8 = .ok (.getfield 12, 3) := by decide +kernel
theorem dX2_digestTerms_11 : decode cX2_digestTerms 11 = .ok (.getfield 53, 3) := by decide +kernel
theorem dX2_digestTerms_14 : decode cX2_digestTerms 14 = .ok (.if_icmp .ge 55, 3) := by decide +kernel
theorem dX2_digestTerms_17 : decode cX2_digestTerms 17 = .ok (.iconst 0, 1) := by decide +kernel
theorem dX2_digestTerms_18 : decode cX2_digestTerms 18 = .ok (.istore 6, 2) := by decide +kernel
theorem dX2_digestTerms_20 : decode cX2_digestTerms 20 = .ok (.iload 6, 2) := by decide +kernel
theorem dX2_digestTerms_22 : decode cX2_digestTerms 22 = .ok (.bipush 7, 2) := by decide +kernel
theorem dX2_digestTerms_24 : decode cX2_digestTerms 24 = .ok (.if_icmp .gt 25, 3) := by decide +kernel
theorem dX2_digestTerms_27 : decode cX2_digestTerms 27 = .ok (.lload_n 3, 1) := by decide +kernel
theorem dX2_digestTerms_28 : decode cX2_digestTerms 28 = .ok (.ldc2_w 288, 3) := by decide +kernel
theorem dX2_digestTerms_31 : decode cX2_digestTerms 31 = .ok (.lmul, 1) := by decide +kernel
theorem dX2_digestTerms_32 : decode cX2_digestTerms 32 = .ok (.aload_n 0, 1) := by decide +kernel
theorem dX2_digestTerms_33 : decode cX2_digestTerms 33 = .ok (.iload 5, 2) := by decide +kernel
theorem dX2_digestTerms_35 : decode cX2_digestTerms 35 = .ok (.iload 6, 2) := by decide +kernel
theorem dX2_digestTerms_37 : decode cX2_digestTerms 37 = .ok (.invokevirtual 309, 3) := by decide +kernel
theorem dX2_digestTerms_40 : decode cX2_digestTerms 40 = .ok (.i2l, 1) := by decide +kernel
theorem dX2_digestTerms_41 : decode cX2_digestTerms 41 = .ok (.ladd, 1) := by decide +kernel
theorem dX2_digestTerms_42 : decode cX2_digestTerms 42 = .ok (.lstore_n 3, 1) := by decide +kernel
theorem dX2_digestTerms_43 : decode cX2_digestTerms 43 = .ok (.iinc 6 1, 3) := by decide +kernel
theorem dX2_digestTerms_46 : decode cX2_digestTerms 46 = .ok (.goto (-26), 3) := by decide +kernel
theorem dX2_digestTerms_49 : decode cX2_digestTerms 49 = .ok (.lload_n 3, 1) := by decide +kernel
theorem dX2_digestTerms_50 : decode cX2_digestTerms 50 = .ok (.ldc2_w 288, 3) := by decide +kernel
theorem dX2_digestTerms_53 : decode cX2_digestTerms 53 = .ok (.lmul, 1) := by decide +kernel
theorem dX2_digestTerms_54 : decode cX2_digestTerms 54 = .ok (.aload_n 0, 1) := by decide +kernel
theorem dX2_digestTerms_55 : decode cX2_digestTerms 55 = .ok (.iload 5, 2) := by decide +kernel
theorem dX2_digestTerms_57 : decode cX2_digestTerms 57 = .ok (.invokevirtual 312, 3) := by decide +kernel
theorem dX2_digestTerms_60 : decode cX2_digestTerms 60 = .ok (.i2l, 1) := by decide +kernel
theorem dX2_digestTerms_61 : decode cX2_digestTerms 61 = .ok (.ladd, 1) := by decide +kernel
theorem dX2_digestTerms_62 : decode cX2_digestTerms 62 = .ok (.lstore_n 3, 1) := by decide +kernel
theorem dX2_digestTerms_63 : decode cX2_digestTerms 63 = .ok (.iinc 5 1, 3) := by decide +kernel
theorem dX2_digestTerms_66 : decode cX2_digestTerms 66 = .ok (.goto (-61), 3) := by decide +kernel
theorem dX2_digestTerms_69 : decode cX2_digestTerms 69 = .ok (.lload_n 3, 1) := by decide +kernel
theorem dX2_digestTerms_70 : decode cX2_digestTerms 70 = .ok (.lreturn, 1) := by decide +kernel
theorem dX2_digestConcepts_0 : decode cX2_digestConcepts 0 = .ok (.lload_n 1, 1) := by decide +kernel
theorem dX2_digestConcepts_1 : decode cX2_digestConcepts 1 = .ok (.lstore_n 3, 1) := by decide +kernel
theorem dX2_digestConcepts_2 : decode cX2_digestConcepts 2 = .ok (.iconst 0, 1) := by decide +kernel
theorem dX2_digestConcepts_3 : decode cX2_digestConcepts 3 = .ok (.istore 5, 2) := by decide +kernel
theorem dX2_digestConcepts_5 : decode cX2_digestConcepts 5 = .ok (.iload 5, 2) := by decide +kernel
theorem dX2_digestConcepts_7 : decode cX2_digestConcepts 7 = .ok (.aload_n 0, 1) := by decide +kernel
theorem dX2_digestConcepts_8 : decode cX2_digestConcepts 8 = .ok (.getfield 12, 3) := by decide +kernel
theorem dX2_digestConcepts_11 : decode cX2_digestConcepts 11 = .ok (.getfield 255, 3) := by decide +kernel
theorem dX2_digestConcepts_14 : decode cX2_digestConcepts 14 = .ok (.if_icmp .ge 41, 3) := by decide +kernel
theorem dX2_digestConcepts_17 : decode cX2_digestConcepts 17 = .ok (.iconst 0, 1) := by decide +kernel
theorem dX2_digestConcepts_18 : decode cX2_digestConcepts 18 = .ok (.istore 6, 2) := by decide +kernel
theorem dX2_digestConcepts_20 : decode cX2_digestConcepts 20 = .ok (.iload 6, 2) := by decide +kernel
theorem dX2_digestConcepts_22 : decode cX2_digestConcepts 22 = .ok (.bipush 6, 2) := by decide +kernel
theorem dX2_digestConcepts_24 : decode cX2_digestConcepts 24 = .ok (.if_icmp .gt 25, 3) := by decide +kernel
theorem dX2_digestConcepts_27 : decode cX2_digestConcepts 27 = .ok (.lload_n 3, 1) := by decide +kernel
theorem dX2_digestConcepts_28 : decode cX2_digestConcepts 28 = .ok (.ldc2_w 288, 3) := by decide +kernel
theorem dX2_digestConcepts_31 : decode cX2_digestConcepts 31 = .ok (.lmul, 1) := by decide +kernel
theorem dX2_digestConcepts_32 : decode cX2_digestConcepts 32 = .ok (.aload_n 0, 1) := by decide +kernel
theorem dX2_digestConcepts_33 : decode cX2_digestConcepts 33 = .ok (.iload 5, 2) := by decide +kernel
theorem dX2_digestConcepts_35 : decode cX2_digestConcepts 35 = .ok (.iload 6, 2) := by decide +kernel
theorem dX2_digestConcepts_37 : decode cX2_digestConcepts 37 = .ok (.invokevirtual 315, 3) := by decide +kernel
theorem dX2_digestConcepts_40 : decode cX2_digestConcepts 40 = .ok (.i2l, 1) := by decide +kernel
theorem dX2_digestConcepts_41 : decode cX2_digestConcepts 41 = .ok (.ladd, 1) := by decide +kernel
theorem dX2_digestConcepts_42 : decode cX2_digestConcepts 42 = .ok (.lstore_n 3, 1) := by decide +kernel
theorem dX2_digestConcepts_43 : decode cX2_digestConcepts 43 = .ok (.iinc 6 1, 3) := by decide +kernel
theorem dX2_digestConcepts_46 : decode cX2_digestConcepts 46 = .ok (.goto (-26), 3) := by decide +kernel
theorem dX2_digestConcepts_49 : decode cX2_digestConcepts 49 = .ok (.iinc 5 1, 3) := by decide +kernel
theorem dX2_digestConcepts_52 : decode cX2_digestConcepts 52 = .ok (.goto (-47), 3) := by decide +kernel
theorem dX2_digestConcepts_55 : decode cX2_digestConcepts 55 = .ok (.lload_n 3, 1) := by decide +kernel
theorem dX2_digestConcepts_56 : decode cX2_digestConcepts 56 = .ok (.lreturn, 1) := by decide +kernel
theorem dX2_digestTexts_0 : decode cX2_digestTexts 0 = .ok (.lload_n 1, 1) := by decide +kernel
theorem dX2_digestTexts_1 : decode cX2_digestTexts 1 = .ok (.lstore_n 3, 1) := by decide +kernel
theorem dX2_digestTexts_2 : decode cX2_digestTexts 2 = .ok (.iconst 0, 1) := by decide +kernel
theorem dX2_digestTexts_3 : decode cX2_digestTexts 3 = .ok (.istore 5, 2) := by decide +kernel
theorem dX2_digestTexts_5 : decode cX2_digestTexts 5 = .ok (.iload 5, 2) := by decide +kernel
theorem dX2_digestTexts_7 : decode cX2_digestTexts 7 = .ok (.aload_n 0, 1) := by decide +kernel
theorem dX2_digestTexts_8 : decode cX2_digestTexts 8 = .ok (.getfield 21, 3) := by decide +kernel
theorem dX2_digestTexts_11 : decode cX2_digestTexts 11 = .ok (.invokevirtual 318, 3) := by decide +kernel
theorem dX2_digestTexts_14 : decode cX2_digestTexts 14 = .ok (.if_icmp .ge 97, 3) := by decide +kernel
theorem dX2_digestTexts_17 : decode cX2_digestTexts 17 = .ok (.iload 5, 2) := by decide +kernel
theorem dX2_digestTexts_19 : decode cX2_digestTexts 19 = .ok (.iconst 3, 1) := by decide +kernel
theorem dX2_digestTexts_20 : decode cX2_digestTexts 20 = .ok (.idiv, 1) := by decide +kernel
theorem dX2_digestTexts_21 : decode cX2_digestTexts 21 = .ok (.istore 6, 2) := by decide +kernel
theorem dX2_digestTexts_23 : decode cX2_digestTexts 23 = .ok (.iload 5, 2) := by decide +kernel
theorem dX2_digestTexts_25 : decode cX2_digestTexts 25 = .ok (.iconst 3, 1) := by decide +kernel
theorem dX2_digestTexts_26 : decode cX2_digestTexts 26 = .ok (.irem, 1) := by decide +kernel
theorem dX2_digestTexts_27 : decode cX2_digestTexts 27 = .ok (.istore 7, 2) := by decide +kernel
theorem dX2_digestTexts_29 : decode cX2_digestTexts 29 = .ok (.iconst 0, 1) := by decide +kernel
theorem dX2_digestTexts_30 : decode cX2_digestTexts 30 = .ok (.istore 8, 2) := by decide +kernel
theorem dX2_digestTexts_32 : decode cX2_digestTexts 32 = .ok (.iload 8, 2) := by decide +kernel
theorem dX2_digestTexts_34 : decode cX2_digestTexts 34 = .ok (.bipush 6, 2) := by decide +kernel
theorem dX2_digestTexts_36 : decode cX2_digestTexts 36 = .ok (.if_icmp .gt 27, 3) := by decide +kernel
theorem dX2_digestTexts_39 : decode cX2_digestTexts 39 = .ok (.lload_n 3, 1) := by decide +kernel
theorem dX2_digestTexts_40 : decode cX2_digestTexts 40 = .ok (.ldc2_w 288, 3) := by decide +kernel
theorem dX2_digestTexts_43 : decode cX2_digestTexts 43 = .ok (.lmul, 1) := by decide +kernel
theorem dX2_digestTexts_44 : decode cX2_digestTexts 44 = .ok (.aload_n 0, 1) := by decide +kernel
theorem dX2_digestTexts_45 : decode cX2_digestTexts 45 = .ok (.iload 6, 2) := by decide +kernel
theorem dX2_digestTexts_47 : decode cX2_digestTexts 47 = .ok (.iload 7, 2) := by decide +kernel
theorem dX2_digestTexts_49 : decode cX2_digestTexts 49 = .ok (.iload 8, 2) := by decide +kernel
theorem dX2_digestTexts_51 : decode cX2_digestTexts 51 = .ok (.invokevirtual 321, 3) := by decide +kernel
theorem dX2_digestTexts_54 : decode cX2_digestTexts 54 = .ok (.i2l, 1) := by decide +kernel
theorem dX2_digestTexts_55 : decode cX2_digestTexts 55 = .ok (.ladd, 1) := by decide +kernel
theorem dX2_digestTexts_56 : decode cX2_digestTexts 56 = .ok (.lstore_n 3, 1) := by decide +kernel
theorem dX2_digestTexts_57 : decode cX2_digestTexts 57 = .ok (.iinc 8 1, 3) := by decide +kernel
theorem dX2_digestTexts_60 : decode cX2_digestTexts 60 = .ok (.goto (-28), 3) := by decide +kernel
theorem dX2_digestTexts_63 : decode cX2_digestTexts 63 = .ok (.iconst 0, 1) := by decide +kernel
theorem dX2_digestTexts_64 : decode cX2_digestTexts 64 = .ok (.istore 8, 2) := by decide +kernel
theorem dX2_digestTexts_66 : decode cX2_digestTexts 66 = .ok (.iload 8, 2) := by decide +kernel
theorem dX2_digestTexts_68 : decode cX2_digestTexts 68 = .ok (.aload_n 0, 1) := by decide +kernel
theorem dX2_digestTexts_69 : decode cX2_digestTexts 69 = .ok (.getfield 21, 3) := by decide +kernel
theorem dX2_digestTexts_72 : decode cX2_digestTexts 72 = .ok (.getfield 212, 3) := by decide +kernel
theorem dX2_digestTexts_75 : decode cX2_digestTexts 75 = .ok (.iload 5, 2) := by decide +kernel
theorem dX2_digestTexts_77 : decode cX2_digestTexts 77 = .ok (.iaload, 1) := by decide +kernel
theorem dX2_digestTexts_78 : decode cX2_digestTexts 78 = .ok (.if_icmp .ge 27, 3) := by decide +kernel
theorem dX2_digestTexts_81 : decode cX2_digestTexts 81 = .ok (.lload_n 3, 1) := by decide +kernel
theorem dX2_digestTexts_82 : decode cX2_digestTexts 82 = .ok (.ldc2_w 288, 3) := by decide +kernel
theorem dX2_digestTexts_85 : decode cX2_digestTexts 85 = .ok (.lmul, 1) := by decide +kernel
theorem dX2_digestTexts_86 : decode cX2_digestTexts 86 = .ok (.aload_n 0, 1) := by decide +kernel
theorem dX2_digestTexts_87 : decode cX2_digestTexts 87 = .ok (.iload 6, 2) := by decide +kernel
theorem dX2_digestTexts_89 : decode cX2_digestTexts 89 = .ok (.iload 7, 2) := by decide +kernel
theorem dX2_digestTexts_91 : decode cX2_digestTexts 91 = .ok (.iload 8, 2) := by decide +kernel
theorem dX2_digestTexts_93 : decode cX2_digestTexts 93 = .ok (.invokevirtual 324, 3) := by decide +kernel
theorem dX2_digestTexts_96 : decode cX2_digestTexts 96 = .ok (.i2l, 1) := by decide +kernel
theorem dX2_digestTexts_97 : decode cX2_digestTexts 97 = .ok (.ladd, 1) := by decide +kernel
theorem dX2_digestTexts_98 : decode cX2_digestTexts 98 = .ok (.lstore_n 3, 1) := by decide +kernel
theorem dX2_digestTexts_99 : decode cX2_digestTexts 99 = .ok (.iinc 8 1, 3) := by decide +kernel
theorem dX2_digestTexts_102 : decode cX2_digestTexts 102 = .ok (.goto (-36), 3) := by decide +kernel
theorem dX2_digestTexts_105 : decode cX2_digestTexts 105 = .ok (.iinc 5 1, 3) := by decide +kernel
theorem dX2_digestTexts_108 : decode cX2_digestTexts 108 = .ok (.goto (-103), 3) := by decide +kernel
theorem dX2_digestTexts_111 : decode cX2_digestTexts 111 = .ok (.lload_n 3, 1) := by decide +kernel
theorem dX2_digestTexts_112 : decode cX2_digestTexts 112 = .ok (.lreturn, 1) := by decide +kernel
theorem dX2_readAnew_0 : decode cX2_readAnew 0 = .ok (.iconst 0, 1) := by decide +kernel
theorem dX2_readAnew_1 : decode cX2_readAnew 1 = .ok (.istore_n 1, 1) := by decide +kernel
theorem dX2_readAnew_2 : decode cX2_readAnew 2 = .ok (.iload_n 1, 1) := by decide +kernel
theorem dX2_readAnew_3 : decode cX2_readAnew 3 = .ok (.aload_n 0, 1) := by decide +kernel
theorem dX2_readAnew_4 : decode cX2_readAnew 4 = .ok (.getfield 21, 3) := by decide +kernel
theorem dX2_readAnew_7 : decode cX2_readAnew 7 = .ok (.invokevirtual 318, 3) := by decide +kernel
theorem dX2_readAnew_10 : decode cX2_readAnew 10 = .ok (.if_icmp .ge 17, 3) := by decide +kernel
theorem dX2_readAnew_13 : decode cX2_readAnew 13 = .ok (.aload_n 0, 1) := by decide +kernel
theorem dX2_readAnew_14 : decode cX2_readAnew 14 = .ok (.getfield 21, 3) := by decide +kernel
theorem dX2_readAnew_17 : decode cX2_readAnew 17 = .ok (.iload_n 1, 1) := by decide +kernel
theorem dX2_readAnew_18 : decode cX2_readAnew 18 = .ok (.invokevirtual 327, 3) := by decide +kernel
theorem dX2_readAnew_21 : decode cX2_readAnew 21 = .ok (.iinc 1 1, 3) := by decide +kernel
theorem dX2_readAnew_24 : decode cX2_readAnew 24 = .ok (.goto (-22), 3) := by decide +kernel
theorem dX2_readAnew_27 : decode cX2_readAnew 27 = .ok (.aload_n 0, 1) := by decide +kernel
theorem dX2_readAnew_28 : decode cX2_readAnew 28 = .ok (.getfield 21, 3) := by decide +kernel
theorem dX2_readAnew_31 : decode cX2_readAnew 31 = .ok (.aload_n 0, 1) := by decide +kernel
theorem dX2_readAnew_32 : decode cX2_readAnew 32 = .ok (.getfield 25, 3) := by decide +kernel
theorem dX2_readAnew_35 : decode cX2_readAnew 35 = .ok (.invokevirtual 111, 3) := by decide +kernel
theorem dX2_readAnew_38 : decode cX2_readAnew 38 = .ok (.pop, 1) := by decide +kernel
theorem dX2_readAnew_39 : decode cX2_readAnew 39 = .ok (.return_, 1) := by decide +kernel
theorem dX2_requireDomain_0 : decode cX2_requireDomain 0 = .ok (.iload_n 1, 1) := by decide +kernel
theorem dX2_requireDomain_1 : decode cX2_requireDomain 1 = .ok (.ifCond .lt 8, 3) := by decide +kernel
theorem dX2_requireDomain_4 : decode cX2_requireDomain 4 = .ok (.iload_n 1, 1) := by decide +kernel
theorem dX2_requireDomain_5 : decode cX2_requireDomain 5 = .ok (.iconst 4, 1) := by decide +kernel
theorem dX2_requireDomain_6 : decode cX2_requireDomain 6 = .ok (.if_icmp .lt 14, 3) := by decide +kernel
theorem dX2_requireDomain_9 : decode cX2_requireDomain 9 = .ok (.new 46, 3) := by decide +kernel
theorem dX2_requireDomain_12 : decode cX2_requireDomain 12 = .ok (.dup, 1) := by decide +kernel
theorem dX2_requireDomain_13 : decode cX2_requireDomain 13 = .ok (.ldc_w 330, 3) := by decide +kernel
theorem dX2_requireDomain_16 : decode cX2_requireDomain 16 = .ok (.invokespecial 50, 3) := by decide +kernel
theorem dX2_requireDomain_19 : decode cX2_requireDomain 19 = .ok (.athrow, 1) := by decide +kernel
theorem dX2_requireDomain_20 : decode cX2_requireDomain 20 = .ok (.return_, 1) := by decide +kernel
theorem dX2_requireRoomForConcept_0 : decode cX2_requireRoomForConcept 0 = .ok (.aload_n 0, 1) := by decide +kernel
theorem dX2_requireRoomForConcept_1 : decode cX2_requireRoomForConcept 1 = .ok (.getfield 12, 3) := by decide +kernel
theorem dX2_requireRoomForConcept_4 : decode cX2_requireRoomForConcept 4 = .ok (.getfield 255, 3) := by decide +kernel
theorem dX2_requireRoomForConcept_7 : decode cX2_requireRoomForConcept 7 = .ok (.bipush 12, 2) := by decide +kernel
theorem dX2_requireRoomForConcept_9 : decode cX2_requireRoomForConcept 9 = .ok (.if_icmp .lt 14, 3) := by decide +kernel
theorem dX2_requireRoomForConcept_12 : decode cX2_requireRoomForConcept 12 = .ok (.new 60, 3) := by decide +kernel
theorem dX2_requireRoomForConcept_15 : decode cX2_requireRoomForConcept 15 = .ok (.dup, 1) := by decide +kernel
theorem dX2_requireRoomForConcept_16 : decode cX2_requireRoomForConcept 16 = .ok (.ldc_w 332, 3) := by decide +kernel
theorem dX2_requireRoomForConcept_19 : decode cX2_requireRoomForConcept 19 = .ok (.invokespecial 64, 3) := by decide +kernel
theorem dX2_requireRoomForConcept_22 : decode cX2_requireRoomForConcept 22 = .ok (.athrow, 1) := by decide +kernel
theorem dX2_requireRoomForConcept_23 : decode cX2_requireRoomForConcept 23 = .ok (.return_, 1) := by decide +kernel
theorem dX2_requireConcept_0 : decode cX2_requireConcept 0 = .ok (.aload_n 0, 1) := by decide +kernel
theorem dX2_requireConcept_1 : decode cX2_requireConcept 1 = .ok (.getfield 12, 3) := by decide +kernel
theorem dX2_requireConcept_4 : decode cX2_requireConcept 4 = .ok (.iload_n 1, 1) := by decide +kernel
theorem dX2_requireConcept_5 : decode cX2_requireConcept 5 = .ok (.invokevirtual 334, 3) := by decide +kernel
theorem dX2_requireConcept_8 : decode cX2_requireConcept 8 = .ok (.ifCond .ne 14, 3) := by decide +kernel
theorem dX2_requireConcept_11 : decode cX2_requireConcept 11 = .ok (.new 72, 3) := by decide +kernel
theorem dX2_requireConcept_14 : decode cX2_requireConcept 14 = .ok (.dup, 1) := by decide +kernel
theorem dX2_requireConcept_15 : decode cX2_requireConcept 15 = .ok (.ldc_w 337, 3) := by decide +kernel
theorem dX2_requireConcept_18 : decode cX2_requireConcept 18 = .ok (.invokespecial 76, 3) := by decide +kernel
theorem dX2_requireConcept_21 : decode cX2_requireConcept 21 = .ok (.athrow, 1) := by decide +kernel
theorem dX2_requireConcept_22 : decode cX2_requireConcept 22 = .ok (.return_, 1) := by decide +kernel
theorem dX2_requireTwoConcepts_0 : decode cX2_requireTwoConcepts 0 = .ok (.aload_n 0, 1) := by decide +kernel
theorem dX2_requireTwoConcepts_1 : decode cX2_requireTwoConcepts 1 = .ok (.iload_n 1, 1) := by decide +kernel
theorem dX2_requireTwoConcepts_2 : decode cX2_requireTwoConcepts 2 = .ok (.invokevirtual 40, 3) := by decide +kernel
theorem dX2_requireTwoConcepts_5 : decode cX2_requireTwoConcepts 5 = .ok (.aload_n 0, 1) := by decide +kernel
theorem dX2_requireTwoConcepts_6 : decode cX2_requireTwoConcepts 6 = .ok (.iload_n 2, 1) := by decide +kernel
theorem dX2_requireTwoConcepts_7 : decode cX2_requireTwoConcepts 7 = .ok (.invokevirtual 40, 3) := by decide +kernel
theorem dX2_requireTwoConcepts_10 : decode cX2_requireTwoConcepts 10 = .ok (.iload_n 1, 1) := by decide +kernel
theorem dX2_requireTwoConcepts_11 : decode cX2_requireTwoConcepts 11 = .ok (.iload_n 2, 1) := by decide +kernel
theorem dX2_requireTwoConcepts_12 : decode cX2_requireTwoConcepts 12 = .ok (.if_icmp .ne 14, 3) := by decide +kernel
theorem dX2_requireTwoConcepts_15 : decode cX2_requireTwoConcepts 15 = .ok (.new 46, 3) := by decide +kernel
theorem dX2_requireTwoConcepts_18 : decode cX2_requireTwoConcepts 18 = .ok (.dup, 1) := by decide +kernel
theorem dX2_requireTwoConcepts_19 : decode cX2_requireTwoConcepts 19 = .ok (.ldc_w 339, 3) := by decide +kernel
theorem dX2_requireTwoConcepts_22 : decode cX2_requireTwoConcepts 22 = .ok (.invokespecial 50, 3) := by decide +kernel
theorem dX2_requireTwoConcepts_25 : decode cX2_requireTwoConcepts 25 = .ok (.athrow, 1) := by decide +kernel
theorem dX2_requireTwoConcepts_26 : decode cX2_requireTwoConcepts 26 = .ok (.return_, 1) := by decide +kernel
theorem dX2_requireLanguage_0 : decode cX2_requireLanguage 0 = .ok (.iload_n 1, 1) := by decide +kernel
theorem dX2_requireLanguage_1 : decode cX2_requireLanguage 1 = .ok (.ifCond .lt 8, 3) := by decide +kernel
theorem dX2_requireLanguage_4 : decode cX2_requireLanguage 4 = .ok (.iload_n 1, 1) := by decide +kernel
theorem dX2_requireLanguage_5 : decode cX2_requireLanguage 5 = .ok (.iconst 3, 1) := by decide +kernel
theorem dX2_requireLanguage_6 : decode cX2_requireLanguage 6 = .ok (.if_icmp .lt 14, 3) := by decide +kernel
theorem dX2_requireLanguage_9 : decode cX2_requireLanguage 9 = .ok (.new 72, 3) := by decide +kernel
theorem dX2_requireLanguage_12 : decode cX2_requireLanguage 12 = .ok (.dup, 1) := by decide +kernel
theorem dX2_requireLanguage_13 : decode cX2_requireLanguage 13 = .ok (.ldc_w 341, 3) := by decide +kernel
theorem dX2_requireLanguage_16 : decode cX2_requireLanguage 16 = .ok (.invokespecial 76, 3) := by decide +kernel
theorem dX2_requireLanguage_19 : decode cX2_requireLanguage 19 = .ok (.athrow, 1) := by decide +kernel
theorem dX2_requireLanguage_20 : decode cX2_requireLanguage 20 = .ok (.return_, 1) := by decide +kernel
theorem dX2_requireTerm_0 : decode cX2_requireTerm 0 = .ok (.aload_n 0, 1) := by decide +kernel
theorem dX2_requireTerm_1 : decode cX2_requireTerm 1 = .ok (.getfield 12, 3) := by decide +kernel
theorem dX2_requireTerm_4 : decode cX2_requireTerm 4 = .ok (.iload_n 1, 1) := by decide +kernel
theorem dX2_requireTerm_5 : decode cX2_requireTerm 5 = .ok (.invokevirtual 343, 3) := by decide +kernel
theorem dX2_requireTerm_8 : decode cX2_requireTerm 8 = .ok (.ifCond .ne 14, 3) := by decide +kernel
theorem dX2_requireTerm_11 : decode cX2_requireTerm 11 = .ok (.new 72, 3) := by decide +kernel
theorem dX2_requireTerm_14 : decode cX2_requireTerm 14 = .ok (.dup, 1) := by decide +kernel
theorem dX2_requireTerm_15 : decode cX2_requireTerm 15 = .ok (.ldc_w 346, 3) := by decide +kernel
theorem dX2_requireTerm_18 : decode cX2_requireTerm 18 = .ok (.invokespecial 76, 3) := by decide +kernel
theorem dX2_requireTerm_21 : decode cX2_requireTerm 21 = .ok (.athrow, 1) := by decide +kernel
theorem dX2_requireTerm_22 : decode cX2_requireTerm 22 = .ok (.return_, 1) := by decide +kernel
theorem dX2_requireDocument_0 : decode cX2_requireDocument 0 = .ok (.iload_n 1, 1) := by decide +kernel
theorem dX2_requireDocument_1 : decode cX2_requireDocument 1 = .ok (.ifCond .lt 14, 3) := by decide +kernel
theorem dX2_requireDocument_4 : decode cX2_requireDocument 4 = .ok (.iload_n 1, 1) := by decide +kernel
theorem dX2_requireDocument_5 : decode cX2_requireDocument 5 = .ok (.aload_n 0, 1) := by decide +kernel
theorem dX2_requireDocument_6 : decode cX2_requireDocument 6 = .ok (.getfield 21, 3) := by decide +kernel
theorem dX2_requireDocument_9 : decode cX2_requireDocument 9 = .ok (.getfield 186, 3) := by decide +kernel
theorem dX2_requireDocument_12 : decode cX2_requireDocument 12 = .ok (.if_icmp .lt 14, 3) := by decide +kernel
theorem dX2_requireDocument_15 : decode cX2_requireDocument 15 = .ok (.new 72, 3) := by decide +kernel
theorem dX2_requireDocument_18 : decode cX2_requireDocument 18 = .ok (.dup, 1) := by decide +kernel
theorem dX2_requireDocument_19 : decode cX2_requireDocument 19 = .ok (.ldc_w 348, 3) := by decide +kernel
theorem dX2_requireDocument_22 : decode cX2_requireDocument 22 = .ok (.invokespecial 76, 3) := by decide +kernel
theorem dX2_requireDocument_25 : decode cX2_requireDocument 25 = .ok (.athrow, 1) := by decide +kernel
theorem dX2_requireDocument_26 : decode cX2_requireDocument 26 = .ok (.return_, 1) := by decide +kernel
theorem dX2_requireText_0 : decode cX2_requireText 0 = .ok (.aload_n 0, 1) := by decide +kernel
theorem dX2_requireText_1 : decode cX2_requireText 1 = .ok (.iload_n 1, 1) := by decide +kernel
theorem dX2_requireText_2 : decode cX2_requireText 2 = .ok (.invokevirtual 244, 3) := by decide +kernel
theorem dX2_requireText_5 : decode cX2_requireText 5 = .ok (.aload_n 0, 1) := by decide +kernel
theorem dX2_requireText_6 : decode cX2_requireText 6 = .ok (.iload_n 2, 1) := by decide +kernel
theorem dX2_requireText_7 : decode cX2_requireText 7 = .ok (.invokevirtual 43, 3) := by decide +kernel
theorem dX2_requireText_10 : decode cX2_requireText 10 = .ok (.iload_n 1, 1) := by decide +kernel
theorem dX2_requireText_11 : decode cX2_requireText 11 = .ok (.iconst 3, 1) := by decide +kernel
theorem dX2_requireText_12 : decode cX2_requireText 12 = .ok (.imul, 1) := by decide +kernel
theorem dX2_requireText_13 : decode cX2_requireText 13 = .ok (.iload_n 2, 1) := by decide +kernel
theorem dX2_requireText_14 : decode cX2_requireText 14 = .ok (.iadd, 1) := by decide +kernel
theorem dX2_requireText_15 : decode cX2_requireText 15 = .ok (.ireturn, 1) := by decide +kernel
theorem dX2_requirePlace_0 : decode cX2_requirePlace 0 = .ok (.iload_n 1, 1) := by decide +kernel
theorem dX2_requirePlace_1 : decode cX2_requirePlace 1 = .ok (.ifCond .lt 8, 3) := by decide +kernel
theorem dX2_requirePlace_4 : decode cX2_requirePlace 4 = .ok (.iload_n 1, 1) := by decide +kernel
theorem dX2_requirePlace_5 : decode cX2_requirePlace 5 = .ok (.iload_n 2, 1) := by decide +kernel
theorem dX2_requirePlace_6 : decode cX2_requirePlace 6 = .ok (.if_icmp .lt 14, 3) := by decide +kernel
theorem dX2_requirePlace_9 : decode cX2_requirePlace 9 = .ok (.new 72, 3) := by decide +kernel
theorem dX2_requirePlace_12 : decode cX2_requirePlace 12 = .ok (.dup, 1) := by decide +kernel
theorem dX2_requirePlace_13 : decode cX2_requirePlace 13 = .ok (.ldc_w 350, 3) := by decide +kernel
theorem dX2_requirePlace_16 : decode cX2_requirePlace 16 = .ok (.invokespecial 76, 3) := by decide +kernel
theorem dX2_requirePlace_19 : decode cX2_requirePlace 19 = .ok (.athrow, 1) := by decide +kernel
theorem dX2_requirePlace_20 : decode cX2_requirePlace 20 = .ok (.return_, 1) := by decide +kernel
theorem dX2_requireWhat_0 : decode cX2_requireWhat 0 = .ok (.iload_n 1, 1) := by decide +kernel
theorem dX2_requireWhat_1 : decode cX2_requireWhat 1 = .ok (.ifCond .lt 8, 3) := by decide +kernel
theorem dX2_requireWhat_4 : decode cX2_requireWhat 4 = .ok (.iload_n 1, 1) := by decide +kernel
theorem dX2_requireWhat_5 : decode cX2_requireWhat 5 = .ok (.iload_n 2, 1) := by decide +kernel
theorem dX2_requireWhat_6 : decode cX2_requireWhat 6 = .ok (.if_icmp .le 14, 3) := by decide +kernel
theorem dX2_requireWhat_9 : decode cX2_requireWhat 9 = .ok (.new 46, 3) := by decide +kernel
theorem dX2_requireWhat_12 : decode cX2_requireWhat 12 = .ok (.dup, 1) := by decide +kernel
theorem dX2_requireWhat_13 : decode cX2_requireWhat 13 = .ok (.ldc_w 352, 3) := by decide +kernel
theorem dX2_requireWhat_16 : decode cX2_requireWhat 16 = .ok (.invokespecial 50, 3) := by decide +kernel
theorem dX2_requireWhat_19 : decode cX2_requireWhat 19 = .ok (.athrow, 1) := by decide +kernel
theorem dX2_requireWhat_20 : decode cX2_requireWhat 20 = .ok (.return_, 1) := by decide +kernel
theorem dX2_requireDays_0 : decode cX2_requireDays 0 = .ok (.iload_n 1, 1) := by decide +kernel
theorem dX2_requireDays_1 : decode cX2_requireDays 1 = .ok (.iconst 1, 1) := by decide +kernel
theorem dX2_requireDays_2 : decode cX2_requireDays 2 = .ok (.if_icmp .lt 9, 3) := by decide +kernel
theorem dX2_requireDays_5 : decode cX2_requireDays 5 = .ok (.iload_n 1, 1) := by decide +kernel
theorem dX2_requireDays_6 : decode cX2_requireDays 6 = .ok (.bipush 40, 2) := by decide +kernel
theorem dX2_requireDays_8 : decode cX2_requireDays 8 = .ok (.if_icmp .le 14, 3) := by decide +kernel
theorem dX2_requireDays_11 : decode cX2_requireDays 11 = .ok (.new 46, 3) := by decide +kernel
theorem dX2_requireDays_14 : decode cX2_requireDays 14 = .ok (.dup, 1) := by decide +kernel
theorem dX2_requireDays_15 : decode cX2_requireDays 15 = .ok (.ldc_w 354, 3) := by decide +kernel
theorem dX2_requireDays_18 : decode cX2_requireDays 18 = .ok (.invokespecial 50, 3) := by decide +kernel
theorem dX2_requireDays_21 : decode cX2_requireDays 21 = .ok (.athrow, 1) := by decide +kernel
theorem dX2_requireDays_22 : decode cX2_requireDays 22 = .ok (.return_, 1) := by decide +kernel
theorem dX2_has_0 : decode cX2_has 0 = .ok (.iload_n 0, 1) := by decide +kernel
theorem dX2_has_1 : decode cX2_has 1 = .ok (.iload_n 1, 1) := by decide +kernel
theorem dX2_has_2 : decode cX2_has 2 = .ok (.ishr, 1) := by decide +kernel
theorem dX2_has_3 : decode cX2_has 3 = .ok (.iconst 1, 1) := by decide +kernel
theorem dX2_has_4 : decode cX2_has 4 = .ok (.iand, 1) := by decide +kernel
theorem dX2_has_5 : decode cX2_has 5 = .ok (.ifCond .eq 7, 3) := by decide +kernel
theorem dX2_has_8 : decode cX2_has 8 = .ok (.iconst 1, 1) := by decide +kernel
theorem dX2_has_9 : decode cX2_has 9 = .ok (.goto 4, 3) := by decide +kernel
theorem dX2_has_12 : decode cX2_has 12 = .ok (.iconst 0, 1) := by decide +kernel
theorem dX2_has_13 : decode cX2_has 13 = .ok (.ireturn, 1) := by decide +kernel
